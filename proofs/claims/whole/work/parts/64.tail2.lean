theorem how_1 {a : AS} (hI : InvA a) {t : Nat} (ht : t < aN a) : howI (aN a) (aNow a) t = nI 1 ↔ hasI (lCut (aNow a)) (nI t) = true := by
  obtain ⟨-, -, -, w, c, dd, hw, hw2, hcc, hc2, hday, hd9, hdis, hlen⟩ := hI.2.2.1
  have hn : aN a ≤ 8 := hI.1.1.1
  rw [howI, if_pos ht, hw, hcc, hasI_tb w (pow_256 hn hw2) t (by omega), hasI_tb c (pow_256 hn hc2) t (by omega)]
  cases h1 : w.testBit t with
  | true => rw [hdis t h1, if_pos rfl]; exact ⟨fun z => absurd z (by decide), fun z => by cases z⟩
  | false =>
    rw [if_neg (by decide)]
    cases c.testBit t with
    | true => rw [if_pos rfl]; exact ⟨fun _ => rfl, fun _ => rfl⟩
    | false => rw [if_neg (by decide)]; exact ⟨fun z => absurd z (by decide), fun z => by cases z⟩
theorem m_tailOf (d : Nat) (F : FT) (G : GT) (a : AS) (hM : MR a F G) (hI : InvA a) (t : Nat) (ht : t < aN a) : Kp DX7_tailOf d [.ref 89, .int (nI t)] F G (some (.int (nI (tlN a t)))) := by
  obtain ⟨-, ⟨g90, g91, -⟩, ⟨g95, -⟩, -⟩ := id hM
  have hn : aN a ≤ 8 := hI.1.1.1
  obtain ⟨l1, l2, l3, l4⟩ := hI.2.2.1.1
  refine Kc.ofT [some (.ref 89), some (.int (nI t))] pn_X7 (Nat.le_of_ble_eq_true rfl) rfl ?_
  have no : ¬ (hasI (lCut (aNow a)) (nI t) = true ∧ endB (aKd a) t = false) → T DX7_tailOf d 42 [some (.ref 89), some (.int (nI t))] [] F G (fun v F' G' => v = some (.int (nI (tlN a t))) ∧ F' = F ∧ G' = G) := by
    intro hc
    refine T_iconst (v := nI 0) dX7_tailOf_42 rfl ?_
    refine T_iret rfl dX7_tailOf_43 ?_
    exact ⟨by rw [show tlN a t = 0 from if_neg hc], rfl, rfl⟩
  refine T_al0 dX7_tailOf_0 ?_
  refine T_g7 gX7_25 (cell_89 _ _) rfl dX7_tailOf_1 ?_
  refine T_bipush (v := nI 8) dX7_tailOf_4 (by decide +kernel) ?_
  refine T_il1 dX7_tailOf_6 ?_
  first | refine T_iaddN dX7_tailOf_7 ?_ | refine T_iadd dX7_tailOf_7 ?_
  refine T_aldN rfl (show _ < 42 by omega) dX7_tailOf_8 ?_
  rw [g95, enc_how l1 (by omega)]
  refine T_iconst (v := nI 1) dX7_tailOf_9 rfl ?_
  refine T_icmp_ne 42 dX7_tailOf_10 (by decide) (fun h1 => ?_) (fun h1 => ?_)
  · exact no (fun z => h1 ((how_1 hI ht).mpr z.1))
  · have h1 := (how_1 hI ht).mp h1
    refine T_al0 dX7_tailOf_13 ?_
    refine T_g7 gX7_7 (cell_89 _ _) rfl dX7_tailOf_14 ?_
    refine T_il1 dX7_tailOf_17 ?_
    refine T_aldN rfl (show _ < 8 by omega) dX7_tailOf_18 ?_
    rw [g90]
    refine T_iconst (v := nI 3) dX7_tailOf_19 rfl ?_
    refine T_icmp_eq 42 dX7_tailOf_20 (by decide) (fun h2 => ?_) (fun h2 => ?_)
    · exact no (fun z => by rw [endB, decide_eq_true h2] at z; cases z.2)
    · refine T_al0 dX7_tailOf_23 ?_
      refine T_g7 gX7_13 (cell_89 _ _) rfl dX7_tailOf_24 ?_
      refine T_il1 dX7_tailOf_27 ?_
      refine T_aldN rfl (show _ < 8 by omega) dX7_tailOf_28 ?_
      refine T_al0 dX7_tailOf_29 ?_
      refine T_g7 gX7_25 (cell_89 _ _) rfl dX7_tailOf_30 ?_
      refine T_bipush (v := nI 16) dX7_tailOf_33 (by decide +kernel) ?_
      refine T_il1 dX7_tailOf_35 ?_
      first | refine T_iaddN dX7_tailOf_36 ?_ | refine T_iadd dX7_tailOf_36 ?_
      refine T_aldN rfl (show _ < 42 by omega) dX7_tailOf_37 ?_
      rw [g91, g95, enc_cd l1 l2 (by omega)]
      refine T_isub dX7_tailOf_38 ?_
      rw [(tl_ok hI ht h1 (decide_eq_false h2)).1]
      refine T_goto 43 dX7_tailOf_39 (by decide) ?_
      refine T_iret rfl dX7_tailOf_43 ?_
      exact ⟨rfl, rfl, rfl⟩
theorem m_mayHave (d : Nat) (hd : 1 ≤ d) (F : FT) (G : GT) (a : AS) (hM : MR a F G) (hI : InvA a) (t o : Nat) (ht : t < aN a) (ho : o < aN a) : Kp DX7_mayHave d [.ref 89, .int (nI t), .int (nI o)] F G (some (.int (bI (mayB a t o)))) := by
  obtain ⟨-, ⟨g90, g91, -⟩, ⟨g95, -⟩, -⟩ := id hM
  have hn : aN a ≤ 8 := hI.1.1.1
  obtain ⟨l1, l2, l3, l4⟩ := hI.2.2.1.1
  refine Kc.ofT [some (.ref 89), some (.int (nI t)), some (.int (nI o))] pn_X7 (Nat.le_of_ble_eq_true rfl) rfl ?_
  have no : mayB a t o = false → T DX7_mayHave d 41 [some (.ref 89), some (.int (nI t)), some (.int (nI o))] [] F G (fun v F' G' => v = some (.int (bI (mayB a t o))) ∧ F' = F ∧ G' = G) := by
    intro hc
    refine T_iconst (v := nI 0) dX7_mayHave_41 rfl ?_
    refine T_bret0 rfl dX7_mayHave_42 ?_
    exact ⟨by rw [hc], rfl, rfl⟩
  refine T_al0 dX7_mayHave_0 ?_
  refine T_il2 dX7_mayHave_1 ?_
  refine T_pV1 lX7_169 rfl (by decide) (cell_89 _ _) (m_isWholeA _ F G a hM hI o ho) (by omega) (Nat.le_of_ble_eq_true rfl) dX7_mayHave_2 ?_
  refine T_beq 41 dX7_mayHave_5 (by decide) (fun h1 => ?_) (fun h1 => ?_)
  · exact no (by rw [mayB, h1]; rfl)
  · refine T_al0 dX7_mayHave_8 ?_
    refine T_g7 gX7_7 (cell_89 _ _) rfl dX7_mayHave_9 ?_
    refine T_il2 dX7_mayHave_12 ?_
    refine T_aldN rfl (show _ < 8 by omega) dX7_mayHave_13 ?_
    rw [g90]
    refine T_iconst (v := nI 3) dX7_mayHave_14 rfl ?_
    refine T_icmp_eq 41 dX7_mayHave_15 (by decide) (fun h2 => ?_) (fun h2 => ?_)
    · exact no (by rw [mayB, h1, show endB (aKd a) o = true from decide_eq_true h2]; rfl)
    · refine T_al0 dX7_mayHave_18 ?_
      refine T_g7 gX7_25 (cell_89 _ _) rfl dX7_mayHave_19 ?_
      refine T_iconst (v := nI 0) dX7_mayHave_22 rfl ?_
      refine T_il1 dX7_mayHave_23 ?_
      first | refine T_iaddN dX7_mayHave_24 ?_ | refine T_iadd dX7_mayHave_24 ?_
      refine T_aldN rfl (show _ < 42 by omega) dX7_mayHave_25 ?_
      refine T_al0 dX7_mayHave_26 ?_
      refine T_g7 gX7_25 (cell_89 _ _) rfl dX7_mayHave_27 ?_
      refine T_iconst (v := nI 0) dX7_mayHave_30 rfl ?_
      refine T_il2 dX7_mayHave_31 ?_
      first | refine T_iaddN dX7_mayHave_32 ?_ | refine T_iadd dX7_mayHave_32 ?_
      refine T_aldN rfl (show _ < 42 by omega) dX7_mayHave_33 ?_
      rw [g95, enc_col l1 (by omega), enc_col l1 (by omega)]
      refine T_icmp_ne 41 dX7_mayHave_34 (by decide) (fun h3 => ?_) (fun h3 => ?_)
      · exact no (by rw [mayB, h1, show endB (aKd a) o = false from decide_eq_false h2, decide_eq_false h3]; rfl)
      · refine T_iconst (v := nI 1) dX7_mayHave_37 rfl ?_
        refine T_goto 42 dX7_mayHave_38 (by decide) ?_
        refine T_bret1 rfl dX7_mayHave_42 ?_
        exact ⟨by rw [mayB, h1, show endB (aKd a) o = false from decide_eq_false h2, decide_eq_true h3]; rfl, rfl, rfl⟩
theorem mP_0 {a : AS} {k t s : Nat} (hz : tlN a t = 0) : mP a (k + 1) t s = ((mP a k (t + 1) s).1, -1) := by
  rw [mP]
  refine iter_inv _ (aN a) (fun _ p => p = ((mP a k (t + 1) s).1, -1)) (fun o p ho hp => ?_) (aN a) 0 _ (by omega) rfl
  have hvf : vdB a t s o = false := by rw [vdB, hz]; rfl
  rw [hp, mpS, if_neg (show ¬ (vdB a t s o = true ∧ _) from fun w => by rw [hvf] at w; cases w.1)]
def GoodT (a : AS) (m : Nat) (L : List Int32) : Prop := L.length = 2304 ∧ ∀ t s, m ≤ t → t ≤ aN a → s < 256 → L.getD (256 * t + s) 0 = nI (mP a (aN a - t) t s).1
theorem sub_inc (t : Nat) : nI t + Int32.ofInt (-1) = nI t - nI 1 := by
  rw [Int32.sub_eq_add_neg, show -(nI 1) = Int32.ofInt (-1) by decide +kernel]
theorem m_findMosts (d : Nat) (hd : 3 ≤ d) (F : FT) (G : GT) (a : AS) (hM : MR a F G) (hI : InvA a) : Kc DX7_findMosts d [.ref 89] F G (fun v F' G' => v = none ∧ F' = F ∧ ∃ L, GoodT a 0 L ∧ G' = u1 G 110 L) := by
  refine Kc.len (fun hlen => ?_)
  obtain ⟨⟨e2, -⟩, -⟩ := id hM
  have hn : aN a ≤ 8 := hI.1.1.1
  have hML : ∀ L, MR a F (u1 G 110 L) := fun L => hM
  refine Kc.ofT [some (.ref 89), none, none, none, none, none] pn_X7 (Nat.le_of_ble_eq_true rfl) rfl ?_
  refine T_iconst (v := nI 0) dX7_findMosts_0 rfl ?_
  refine T_is1 dX7_findMosts_1 rfl ?_
  refine T_G (u1_id G 110).symm ?_
  refine for_up (updR (256 * aN a) (fun _ => nI 0)) 256 (fun k l => T DX7_findMosts d 2 [some (.ref 89), some (.int (nI k)), none, none, none, none] [] F (u1 G 110 l) _) ?_ 256 0 (G 110) rfl ?_
  · intro k l hk h
    rw [updR] at h
    refine T_il1 dX7_findMosts_2 ?_
    refine T_sipush (v := nI 256) dX7_findMosts_3 (by decide +kernel) ?_
    refine T_nge_f 31 dX7_findMosts_6 (by decide) (by omega) (by omega) (by omega) ?_
    refine T_al0 dX7_findMosts_9 ?_
    refine T_g7 gX7_71 (cell_89 _ _) rfl dX7_findMosts_10 ?_
    refine T_sipush (v := nI 256) dX7_findMosts_13 (by decide +kernel) ?_
    refine T_al0 dX7_findMosts_16 ?_
    refine T_g7 gX7_74 (cell_89 _ _) rfl dX7_findMosts_17 ?_
    rw [e2]
    first | refine T_imulN dX7_findMosts_20 ?_ | refine T_imul dX7_findMosts_20 ?_
    refine T_il1 dX7_findMosts_21 ?_
    first | refine T_iaddN dX7_findMosts_22 ?_ | refine T_iadd dX7_findMosts_22 ?_
    refine T_iconst (v := nI 0) dX7_findMosts_23 rfl ?_
    refine T_astN (a := 110) rfl (show 256 * aN a + k < 2304 by omega) dX7_findMosts_24 ?_
    rw [u1_s, u1_u1]
    refine T_ii1 dX7_findMosts_25 (by first | exact nI_inc _ | exact nI_dec _ | rfl) rfl ?_
    refine T_goto 2 dX7_findMosts_28 (by decide) ?_
    exact h
  have g0 : GoodT a (aN a) (iter (updR (256 * aN a) (fun _ => nI 0)) 256 0 (G 110)) := by
    refine ⟨by rw [updR_len]; exact hlen 110, fun t s h1 h2 h3 => ?_⟩
    have e : t = aN a := by omega
    subst e
    rw [updR_in _ _ 256 0 _ s (by omega) (by omega) (by rw [hlen 110]; show _ < 2304; omega), Nat.sub_self]
    rfl
  generalize iter (updR (256 * aN a) (fun _ => nI 0)) 256 0 (G 110) = L0 at g0 ⊢
  refine T_il1 dX7_findMosts_2 ?_
  refine T_sipush (v := nI 256) dX7_findMosts_3 (by decide +kernel) ?_
  refine T_nge_t 31 dX7_findMosts_6 (by decide) (by omega) (by omega) (by omega) ?_
  refine T_al0 dX7_findMosts_31 ?_
  refine T_g7 gX7_74 (cell_89 _ _) rfl dX7_findMosts_32 ?_
  rw [e2]
  refine T_iconst (v := nI 1) dX7_findMosts_35 rfl ?_
  refine T_isub dX7_findMosts_36 ?_
  refine T_is1 dX7_findMosts_37 rfl ?_
  suffices h : ∀ (m : Nat) (L : List Int32) (o2 o3 o4 o5 : Option Value), m ≤ aN a → GoodT a m L → T DX7_findMosts d 38 [some (.ref 89), some (.int (nI m - nI 1)), o2, o3, o4, o5] [] F (u1 G 110 L) (fun v F' G' => v = none ∧ F' = F ∧ ∃ L, GoodT a 0 L ∧ G' = u1 G 110 L) from h (aN a) L0 _ _ _ _ (Nat.le_refl _) g0
  intro m
  induction m with
  | zero =>
    intro L o2 o3 o4 o5 _ hg
    refine T_il1 dX7_findMosts_38 ?_
    refine T_if_lt_t 180 dX7_findMosts_39 (by decide) (by decide) ?_
    refine T_vret rfl dX7_findMosts_180 ?_
    exact ⟨rfl, rfl, L, hg, rfl⟩
  | succ t ih =>
    intro L o2 o3 o4 o5 hm hg
    have ht : t < aN a := by omega
    have ck : ∀ s, mP a (aN a - t) t s = mP a ((aN a - (t + 1)) + 1) t s := fun s => by rw [show aN a - t = (aN a - (t + 1)) + 1 by omega]
    rw [show nI (t + 1) - nI 1 = nI t from nI_pred t]
    refine T_il1 dX7_findMosts_38 ?_
    refine T_if_lt_f 180 dX7_findMosts_39 (by decide) (nI_pos (by omega)) ?_
    refine T_iconst (v := nI 0) dX7_findMosts_42 rfl ?_
    refine T_is2 dX7_findMosts_43 rfl ?_
    suffices hs : ∀ (o3 o4 o5 : Option Value), T DX7_findMosts d 44 [some (.ref 89), some (.int (nI t)), some (.int (nI 0)), o3, o4, o5] [] F (u1 G 110 L) (fun v F' G' => v = none ∧ F' = F ∧ ∃ L, GoodT a 0 L ∧ G' = u1 G 110 L) from hs o3 o4 o5
    refine for_inv (updR (256 * t) (fun s => nI (mP a (aN a - t) t s).1)) 256 (fun s l => ∀ (o3 o4 o5 : Option Value), T DX7_findMosts d 44 [some (.ref 89), some (.int (nI t)), some (.int (nI s)), o3, o4, o5] [] F (u1 G 110 l) (fun v F' G' => v = none ∧ F' = F ∧ ∃ L, GoodT a 0 L ∧ G' = u1 G 110 L)) (fun k l => GoodT a (t + 1) l ∧ ∀ s, s < k → l.getD (256 * t + s) 0 = nI (mP a (aN a - t) t s).1) (fun k l hk hl => ?_) ?_ 256 0 L (by omega) ⟨hg, fun s hs => absurd hs (by omega)⟩ ?_
    · obtain ⟨⟨q1, q2⟩, q3⟩ := hl
      refine ⟨⟨by rw [updR, List.length_set]; exact q1, fun t' s' h1 h2 h3 => ?_⟩, fun s hs => ?_⟩
      · rw [updR, getD_set_ne (by omega)]
        exact q2 t' s' h1 h2 h3
      · rw [updR]
        by_cases e : s = k
        · subst e
          rw [getD_set_eq (by omega)]
        · rw [getD_set_ne (by omega)]
          exact q3 s (by omega)
    · intro s l hs hl h o3 o4 o5
      obtain ⟨⟨q1, q2⟩, q3⟩ := hl
      rw [updR] at h
      have store : ∀ (p : Nat × Int32) (o4 o5 : Option Value), p = mP a (aN a - t) t s → T DX7_findMosts d 155 [some (.ref 89), some (.int (nI t)), some (.int (nI s)), some (.int (nI p.1)), o4, o5] [] F (u1 G 110 l) (fun v F' G' => v = none ∧ F' = F ∧ ∃ L, GoodT a 0 L ∧ G' = u1 G 110 L) := by
        intro p o4 o5 hp
        subst hp
        refine T_al0 dX7_findMosts_155 ?_
        refine T_g7 gX7_71 (cell_89 _ _) rfl dX7_findMosts_156 ?_
        refine T_sipush (v := nI 256) dX7_findMosts_159 (by decide +kernel) ?_
        refine T_il1 dX7_findMosts_162 ?_
        first | refine T_imulN dX7_findMosts_163 ?_ | refine T_imul dX7_findMosts_163 ?_
        refine T_il2 dX7_findMosts_164 ?_
        first | refine T_iaddN dX7_findMosts_165 ?_ | refine T_iadd dX7_findMosts_165 ?_
        refine T_il3 dX7_findMosts_166 ?_
        refine T_astN (a := 110) rfl (show 256 * t + s < 2304 by omega) dX7_findMosts_167 ?_
        rw [u1_s, u1_u1]
        refine T_ii2 dX7_findMosts_168 (by first | exact nI_inc _ | exact nI_dec _ | rfl) rfl ?_
        refine T_goto 44 dX7_findMosts_171 (by decide) ?_
        exact h _ _ _
      refine T_il2 dX7_findMosts_44 ?_
      refine T_sipush (v := nI 256) dX7_findMosts_45 (by decide +kernel) ?_
      refine T_nge_f 174 dX7_findMosts_48 (by decide) (by omega) (by omega) (by omega) ?_
      refine T_al0 dX7_findMosts_51 ?_
      refine T_g7 gX7_71 (cell_89 _ _) rfl dX7_findMosts_52 ?_
      refine T_sipush (v := nI 256) dX7_findMosts_55 (by decide +kernel) ?_
      refine T_il1 dX7_findMosts_58 ?_
      refine T_iconst (v := nI 1) dX7_findMosts_59 rfl ?_
      first | refine T_iaddN dX7_findMosts_60 ?_ | refine T_iadd dX7_findMosts_60 ?_
      first | refine T_imulN dX7_findMosts_61 ?_ | refine T_imul dX7_findMosts_61 ?_
      refine T_il2 dX7_findMosts_62 ?_
      first | refine T_iaddN dX7_findMosts_63 ?_ | refine T_iadd dX7_findMosts_63 ?_
      refine T_aldN (a := 110) rfl (show 256 * (t + 1) + s < 2304 by omega) dX7_findMosts_64 ?_
      rw [u1_s, q2 (t + 1) s (by omega) (by omega) hs]
      refine T_is3 dX7_findMosts_65 rfl ?_
      refine T_iconst (v := nI 0) dX7_findMosts_66 rfl ?_
      refine T_is4 dX7_findMosts_67 rfl ?_
      rcases Nat.eq_zero_or_pos (tlN a t) with hz | hz
      · refine T_il4 dX7_findMosts_69 ?_
        refine T_al0 dX7_findMosts_71 ?_
        refine T_g7 gX7_74 (cell_89 _ _) rfl dX7_findMosts_72 ?_
        rw [e2]
        refine T_nge_f 155 dX7_findMosts_75 (by decide) (by omega) (by omega) (by omega) ?_
        refine T_al0 dX7_findMosts_78 ?_
        refine T_il1 dX7_findMosts_79 ?_
        refine T_pV1 lX7_232 rfl (by decide) (cell_89 _ _) (m_tailOf _ F _ a (hML l) hI t ht) (by omega) (Nat.le_of_ble_eq_true rfl) dX7_findMosts_80 ?_
        rw [hz]
        refine T_if_le_t 155 dX7_findMosts_83 (by decide) (by decide) ?_
        exact store ((mP a (aN a - (t + 1)) (t + 1) s).1, -1) _ _ (by rw [ck, mP_0 hz])
      · have htl := tl_le hI ht
        suffices hs2 : ∀ o5 : Option Value, T DX7_findMosts d 69 [some (.ref 89), some (.int (nI t)), some (.int (nI s)), some (.int (nI (mP a (aN a - (t + 1)) (t + 1) s).1)), some (.int (nI 0)), o5] [] F (u1 G 110 l) (fun v F' G' => v = none ∧ F' = F ∧ ∃ L, GoodT a 0 L ∧ G' = u1 G 110 L) from hs2 _
        refine for_inv (mpS a t s (fun s' => (mP a (aN a - (t + 1)) (t + 1) s').1)) (aN a) (fun o p => ∀ o5 : Option Value, T DX7_findMosts d 69 [some (.ref 89), some (.int (nI t)), some (.int (nI s)), some (.int (nI p.1)), some (.int (nI o)), o5] [] F (u1 G 110 l) (fun v F' G' => v = none ∧ F' = F ∧ ∃ L, GoodT a 0 L ∧ G' = u1 G 110 L)) (fun _ p => p.1 < 1000) (fun o p ho hp => ?_) ?_ (aN a) 0 ((mP a (aN a - (t + 1)) (t + 1) s).1, -1) (by omega) (by
          have := mP_le hI (aN a - (t + 1)) (t + 1) s (by omega)
          show (mP a (aN a - (t + 1)) (t + 1) s).1 < 1000
          omega) ?_
        · have := mP_le hI (aN a - (t + 1)) (t + 1) (s ||| 2 ^ o) (by omega)
          rw [mpS]
          split
          · show tlN a t + (mP a (aN a - (t + 1)) (t + 1) (s ||| 2 ^ o)).1 < 1000
            omega
          · exact hp
        · intro o p ho hp h2 o5
          have hb := mP_le hI (aN a - (t + 1)) (t + 1) (s ||| 2 ^ o) (by omega)
          have hso : s ||| 2 ^ o < 256 := Nat.or_lt_two_pow (n := 8) hs (S8_bit o (by omega)).2
          rw [mpS] at h2
          refine T_il4 dX7_findMosts_69 ?_
          refine T_al0 dX7_findMosts_71 ?_
          refine T_g7 gX7_74 (cell_89 _ _) rfl dX7_findMosts_72 ?_
          rw [e2]
          refine T_nge_f 155 dX7_findMosts_75 (by decide) (by omega) (by omega) (by omega) ?_
          refine T_al0 dX7_findMosts_78 ?_
          refine T_il1 dX7_findMosts_79 ?_
          refine T_pV1 lX7_232 rfl (by decide) (cell_89 _ _) (m_tailOf _ F _ a (hML l) hI t ht) (by omega) (Nat.le_of_ble_eq_true rfl) dX7_findMosts_80 ?_
          refine T_if_le_f 155 dX7_findMosts_83 (by decide) (Int32.not_le.mpr (show (0 : Int32) < nI (tlN a t) from nI_lt hz (by omega))) ?_
          have no : vdB a t s o = false → T DX7_findMosts d 133 [some (.ref 89), some (.int (nI t)), some (.int (nI s)), some (.int (nI p.1)), some (.int (nI o)), o5] [] F (u1 G 110 l) (fun v F' G' => v = none ∧ F' = F ∧ ∃ L, GoodT a 0 L ∧ G' = u1 G 110 L) := by
            intro hv
            rw [if_neg (show ¬ (vdB a t s o = true ∧ _) from fun w => by rw [hv] at w; cases w.1)] at h2
            refine T_iconst (v := nI 0) dX7_findMosts_133 rfl ?_
            refine T_is5 dX7_findMosts_134 rfl ?_
            refine T_il5 dX7_findMosts_136 ?_
            refine T_il3 dX7_findMosts_138 ?_
            refine T_nle_t 147 dX7_findMosts_139 (by decide) (by omega) (by omega) (by omega) ?_
            refine T_il3 dX7_findMosts_147 ?_
            refine T_is3 dX7_findMosts_148 rfl ?_
            refine T_ii4 dX7_findMosts_149 (by first | exact nI_inc _ | exact nI_dec _ | rfl) rfl ?_
            refine T_goto 69 dX7_findMosts_152 (by decide) ?_
            exact h2 _
          refine T_al0 dX7_findMosts_86 ?_
          refine T_il1 dX7_findMosts_87 ?_
          refine T_il4 dX7_findMosts_88 ?_
          refine T_pV2 lX7_235 rfl (by decide) (cell_89 _ _) (m_mayHave _ (by omega) F _ a (hML l) hI t o ht ho) (by omega) (Nat.le_of_ble_eq_true rfl) dX7_findMosts_90 ?_
          refine T_beq 133 dX7_findMosts_93 (by decide) (fun h3 => ?_) (fun h3 => ?_)
          · exact no (by rw [vdB, h3, Bool.false_and, Bool.and_false])
          · refine T_il2 dX7_findMosts_96 ?_
            refine T_il4 dX7_findMosts_97 ?_
            refine T_pS2 lX7_124 (m_has _ _ _ _ _) (by omega) (Nat.le_of_ble_eq_true rfl) dX7_findMosts_99 ?_
            rw [hasI_tb s hs o (by omega)]
            refine T_bne 133 dX7_findMosts_102 (by decide) (fun h4 => ?_) (fun h4 => ?_)
            · exact no (by rw [vdB, h4, Bool.not_true, Bool.and_false, Bool.and_false])
            · have hv : vdB a t s o = true := by rw [vdB, decide_eq_true hz, h3, h4]; rfl
              refine T_al0 dX7_findMosts_105 ?_
              refine T_il1 dX7_findMosts_106 ?_
              refine T_pV1 lX7_232 rfl (by decide) (cell_89 _ _) (m_tailOf _ F _ a (hML l) hI t ht) (by omega) (Nat.le_of_ble_eq_true rfl) dX7_findMosts_107 ?_
              refine T_al0 dX7_findMosts_110 ?_
              refine T_g7 gX7_71 (cell_89 _ _) rfl dX7_findMosts_111 ?_
              refine T_sipush (v := nI 256) dX7_findMosts_114 (by decide +kernel) ?_
              refine T_il1 dX7_findMosts_117 ?_
              refine T_iconst (v := nI 1) dX7_findMosts_118 rfl ?_
              first | refine T_iaddN dX7_findMosts_119 ?_ | refine T_iadd dX7_findMosts_119 ?_
              first | refine T_imulN dX7_findMosts_120 ?_ | refine T_imul dX7_findMosts_120 ?_
              refine T_il2 dX7_findMosts_121 ?_
              refine T_iconst (v := nI 1) dX7_findMosts_122 rfl ?_
              refine T_il4 dX7_findMosts_123 ?_
              refine T_ishl dX7_findMosts_125 ?_
              refine T_ior dX7_findMosts_126 ?_
              rw [show nI 1 <<< (nI o &&& 31) = bitI (nI o) from rfl, (S8_bit o (by omega)).1, nI_or]
              first | refine T_iaddN dX7_findMosts_127 ?_ | refine T_iadd dX7_findMosts_127 ?_
              refine T_aldN (a := 110) rfl (show 256 * (t + 1) + (s ||| 2 ^ o) < 2304 by omega) dX7_findMosts_128 ?_
              rw [u1_s, q2 (t + 1) _ (by omega) (by omega) hso]
              first | refine T_iaddN dX7_findMosts_129 ?_ | refine T_iadd dX7_findMosts_129 ?_
              refine T_goto 134 dX7_findMosts_130 (by decide) ?_
              refine T_is5 dX7_findMosts_134 rfl ?_
              refine T_il5 dX7_findMosts_136 ?_
              refine T_il3 dX7_findMosts_138 ?_
              refine T_nle 147 dX7_findMosts_139 (by decide) (by omega) (by omega) (fun h5 => ?_) (fun h5 => ?_)
              · rw [if_neg (show ¬ (vdB a t s o = true ∧ _) from fun w => absurd w.2 (by omega))] at h2
                refine T_il3 dX7_findMosts_147 ?_
                refine T_is3 dX7_findMosts_148 rfl ?_
                refine T_ii4 dX7_findMosts_149 (by first | exact nI_inc _ | exact nI_dec _ | rfl) rfl ?_
                refine T_goto 69 dX7_findMosts_152 (by decide) ?_
                exact h2 _
              · rw [if_pos (show vdB a t s o = true ∧ _ from ⟨hv, h5⟩)] at h2
                refine T_il5 dX7_findMosts_142 ?_
                refine T_goto 148 dX7_findMosts_144 (by decide) ?_
                refine T_is3 dX7_findMosts_148 rfl ?_
                refine T_ii4 dX7_findMosts_149 (by first | exact nI_inc _ | exact nI_dec _ | rfl) rfl ?_
                refine T_goto 69 dX7_findMosts_152 (by decide) ?_
                exact h2 _
        · intro _ o5
          have hp : iter (mpS a t s (fun s' => (mP a (aN a - (t + 1)) (t + 1) s').1)) (aN a) 0 ((mP a (aN a - (t + 1)) (t + 1) s).1, -1) = mP a (aN a - t) t s := by rw [ck, mP]
          refine T_il4 dX7_findMosts_69 ?_
          refine T_al0 dX7_findMosts_71 ?_
          refine T_g7 gX7_74 (cell_89 _ _) rfl dX7_findMosts_72 ?_
          rw [e2]
          refine T_nge_t 155 dX7_findMosts_75 (by decide) (by omega) (by omega) (by omega) ?_
          exact store _ _ _ hp
    · intro hl o3 o4 o5
      obtain ⟨⟨q1, q2⟩, q3⟩ := hl
      refine T_il2 dX7_findMosts_44 ?_
      refine T_sipush (v := nI 256) dX7_findMosts_45 (by decide +kernel) ?_
      refine T_nge_t 174 dX7_findMosts_48 (by decide) (by omega) (by omega) (by omega) ?_
      refine T_ii1 dX7_findMosts_174 (sub_inc t) rfl ?_
      refine T_goto 38 dX7_findMosts_177 (by decide) ?_
      refine ih _ _ _ _ _ (by omega) ⟨q1, fun t' s' h1 h2 h3 => ?_⟩
      rcases Nat.eq_or_lt_of_le h1 with e | e
      · subst e
        exact q3 s' h3
      · exact q2 t' s' e h2 h3
