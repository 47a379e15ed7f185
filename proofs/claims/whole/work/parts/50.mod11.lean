theorem kn_val : ∀ m, m < 256 → ∀ j, j < 8 → ∀ b, b < 2 → (nI m &&& (bitI (nI j) ^^^ (-1))) ||| (nI b <<< (nI j &&& 31)) = if nI b = bI (hasI (nI m) (nI j)) then nI m else nI m ^^^ bitI (nI j) := by decide +kernel
theorem out1_ok {w : Int32} (h : ¬ (w < 0 ∨ nI 1 < w)) : ∃ b, b < 2 ∧ w = nI b := by
  obtain ⟨q, hq, rfl⟩ := nI_of (fun z => h (Or.inl z))
  have := (nI_leI hq (by decide)).mp (Int32.not_lt.mp (fun z => h (Or.inr z)))
  exact ⟨q, by omega, rfl⟩
theorem m_knot (d : Nat) (hd : 20 ≤ d) (F : FT) (G : GT) (a : AS) (hM : MR a F G) (hI : InvA a) (x y w : Int32) : Kc DX7_knot d [.ref 89, .int x, .int y, .int w] F G (MP (s_knot a x y w) F G) := by
  obtain ⟨⟨e2, e5, e9, e23⟩, hg, ⟨g95, g96⟩, hP, hK⟩ := id hM
  have hn : aN a ≤ 8 := hI.1.1.1
  obtain ⟨l1, l2, l3, l4⟩ := hI.2.2.1.1
  obtain ⟨-, hkn, -, hsy⟩ := hI.2.2.1.2.1
  refine Kc.ofT [some (.ref 89), some (.int x), some (.int y), some (.int w), none] pn_X7 (Nat.le_of_ble_eq_true rfl) rfl ?_
  refine T_al0 dX7_knot_0 ?_
  refine T_il1 dX7_knot_1 ?_
  refine T_il2 dX7_knot_2 ?_
  refine T_pV2 lX7_201 rfl (by decide) (cell_89 _ _) (m_areTwo _ (by omega) _ _ _ (by assumption) (by assumption) _ _) (by omega) (Nat.le_of_ble_eq_true rfl) dX7_knot_3 ?_
  refine T_bne 12 dX7_knot_6 (by decide) (fun h1 => ?_) (fun h1 => ?_)
  · have h1 : prB a x y = true := h1
    obtain ⟨i, j, hi, hj, hij, rfl, rfl⟩ := prB_ok hn h1
    have hsi : sv (nI i) = i := sv_nI (by omega)
    have hsj : sv (nI j) = j := sv_nI (by omega)
    refine T_il3 dX7_knot_12 ?_
    refine T_i2l dX7_knot_13 ?_
    refine T_lconst (v := 0) dX7_knot_14 (by decide +kernel) ?_
    refine T_lconst (v := 1) dX7_knot_15 (by decide +kernel) ?_
    refine T_pS3 lX7_78 (m_in _ _ _ _ _ _) (by omega) (Nat.le_of_ble_eq_true rfl) dX7_knot_16 ?_
    rw [in_c (lo := 0) (hi := nI 1) (by decide +kernel) (by decide +kernel)]
    refine T_bne 25 dX7_knot_19 (by decide) (fun h2 => ?_) (fun h2 => ?_)
    · have h2 := nt_t h2
      obtain ⟨b, hb, rfl⟩ := out1_ok h2
      have no : ¬ (hasI (lWhole (aNow a)) (nI i) = true ∧ hasI (lWhole (aNow a)) (nI j) = true) → T DX7_knot d 41 [some (.ref 89), some (.int (nI i)), some (.int (nI j)), some (.int (nI b)), none] [] F G (MP (s_knot a (nI i) (nI j) (nI b)) F G) := by
        intro hr
        refine T_bipush (v := -4) dX7_knot_41 (by decide +kernel) ?_
        refine T_iret rfl dX7_knot_43 ?_
        rw [s_knot, if_pos h1, if_neg h2, if_neg hr]
        exact MP.rf hM
      refine T_al0 dX7_knot_25 ?_
      refine T_il1 dX7_knot_26 ?_
      refine T_pV1 lX7_169 rfl (by decide) (cell_89 _ _) (m_isWholeA _ F G a hM hI i hi) (by omega) (Nat.le_of_ble_eq_true rfl) dX7_knot_27 ?_
      refine T_beq 41 dX7_knot_30 (by decide) (fun h3 => ?_) (fun h3 => ?_)
      · exact no (fun z => by rw [z.1] at h3; cases h3)
      · refine T_al0 dX7_knot_33 ?_
        refine T_il2 dX7_knot_34 ?_
        refine T_pV1 lX7_169 rfl (by decide) (cell_89 _ _) (m_isWholeA _ F G a hM hI j hj) (by omega) (Nat.le_of_ble_eq_true rfl) dX7_knot_35 ?_
        refine T_bne 44 dX7_knot_38 (by decide) (fun h4 => ?_) (fun h4 => ?_)
        · refine T_al0 dX7_knot_44 ?_
          refine T_cV0 lX7_192 rfl (by decide) (cell_89 _ _) (m_noteA _ F G a hM hI) (by omega) (Nat.le_of_ble_eq_true rfl) dX7_knot_45 (fun v F' G' hP => ?_)
          obtain ⟨rfl, hM1, hF1⟩ := hP
          have g : G' 95 = enc (aN a) (aNow a) := hM1.2.2.1.1
          obtain ⟨mi, hmi, emi⟩ := hkn i
          obtain ⟨mj, hmj, emj⟩ := hkn j
          have hsij := hsy i j (by omega) (by omega)
          generalize hq : hasI ((lKn (aNow a)).getD i 0) (nI j) = q at hsij
          have key : T DX7_knot d 71 [some (.ref 89), some (.int (nI i)), some (.int (nI j)), some (.int (nI b)), some (.int (bI q))] [] F' G' (MP (s_knot a (nI i) (nI j) (nI b)) F G) := by
            refine T_al0 dX7_knot_71 ?_
            refine T_g7 gX7_25 (cell_89 _ _) rfl dX7_knot_72 ?_
            refine T_bipush (v := nI 32) dX7_knot_75 (by decide +kernel) ?_
            refine T_il1 dX7_knot_77 ?_
            first | refine T_iaddN dX7_knot_78 ?_ | refine T_iadd dX7_knot_78 ?_
            refine T_al0 dX7_knot_79 ?_
            refine T_g7 gX7_25 (cell_89 _ _) rfl dX7_knot_80 ?_
            refine T_bipush (v := nI 32) dX7_knot_83 (by decide +kernel) ?_
            refine T_il1 dX7_knot_85 ?_
            first | refine T_iaddN dX7_knot_86 ?_ | refine T_iadd dX7_knot_86 ?_
            refine T_aldN rfl (show _ < 42 by omega) dX7_knot_87 ?_
            rw [g, enc_kn l1 l2 l3 l4 (show i < 8 by omega)]
            refine T_iconst (v := nI 1) dX7_knot_88 rfl ?_
            refine T_il2 dX7_knot_89 ?_
            refine T_ishl dX7_knot_90 ?_
            refine T_iconst (v := -1) dX7_knot_91 rfl ?_
            refine T_ixor dX7_knot_92 ?_
            refine T_iand dX7_knot_93 ?_
            refine T_il3 dX7_knot_94 ?_
            refine T_il2 dX7_knot_95 ?_
            refine T_ishl dX7_knot_96 ?_
            refine T_ior dX7_knot_97 ?_
            rw [emi, show nI 1 <<< (nI j &&& 31) = bitI (nI j) from rfl, kn_val mi hmi j (by omega) b hb]
            refine T_astN (a := 95) rfl (show 32 + i < 42 by omega) dX7_knot_98 ?_
            generalize hv1 : (if nI b = bI (hasI (nI mi) (nI j)) then nI mi else nI mi ^^^ bitI (nI j)) = v1
            rw [g, enc_sKn l1 l2 l3 l4 (by omega)]
            refine T_al0 dX7_knot_99 ?_
            refine T_g7 gX7_25 (cell_89 _ _) rfl dX7_knot_100 ?_
            refine T_bipush (v := nI 32) dX7_knot_103 (by decide +kernel) ?_
            refine T_il2 dX7_knot_105 ?_
            first | refine T_iaddN dX7_knot_106 ?_ | refine T_iadd dX7_knot_106 ?_
            refine T_al0 dX7_knot_107 ?_
            refine T_g7 gX7_25 (cell_89 _ _) rfl dX7_knot_108 ?_
            refine T_bipush (v := nI 32) dX7_knot_111 (by decide +kernel) ?_
            refine T_il2 dX7_knot_113 ?_
            first | refine T_iaddN dX7_knot_114 ?_ | refine T_iadd dX7_knot_114 ?_
            refine T_aldN rfl (show _ < 42 by omega) dX7_knot_115 ?_
            rw [u1_s, enc_kn (x := wKn (aNow a) ((lKn (aNow a)).set i v1)) l1 l2 l3 (by show ((lKn (aNow a)).set i v1).length = 8; rw [List.length_set]; exact l4) (show j < 8 by omega)]
            rw [show (lKn (wKn (aNow a) ((lKn (aNow a)).set i v1))).getD j 0 = nI mj from (getD_set_ne hij v1).trans emj]
            refine T_iconst (v := nI 1) dX7_knot_116 rfl ?_
            refine T_il1 dX7_knot_117 ?_
            refine T_ishl dX7_knot_118 ?_
            refine T_iconst (v := -1) dX7_knot_119 rfl ?_
            refine T_ixor dX7_knot_120 ?_
            refine T_iand dX7_knot_121 ?_
            refine T_il3 dX7_knot_122 ?_
            refine T_il1 dX7_knot_123 ?_
            refine T_ishl dX7_knot_124 ?_
            refine T_ior dX7_knot_125 ?_
            rw [show nI 1 <<< (nI i &&& 31) = bitI (nI i) from rfl, kn_val mj hmj i (by omega) b hb]
            refine T_astN (a := 95) rfl (show 32 + j < 42 by omega) dX7_knot_126 ?_
            generalize hv2 : (if nI b = bI (hasI (nI mj) (nI i)) then nI mj else nI mj ^^^ bitI (nI i)) = v2
            rw [u1_s, u1_u1, enc_sKn (x := wKn (aNow a) ((lKn (aNow a)).set i v1)) l1 l2 l3 (by show ((lKn (aNow a)).set i v1).length = 8; rw [List.length_set]; exact l4) (by omega)]
            refine T_il4 dX7_knot_127 ?_
            refine T_iret rfl dX7_knot_129 ?_
            rw [s_knot, if_pos h1, if_neg h2, if_pos ⟨h3, h4⟩, hsi, hsj, hq]
            rw [← emi, hq] at hv1
            rw [← emj, ← hsij] at hv2
            have el : ((lKn (aNow a)).set i v1).set j v2 = if nI b = bI q then lKn (aNow a) else knSet (lKn (aNow a)) i j := by
              by_cases hc : nI b = bI q
              · rw [if_pos hc] at hv1 hv2 ⊢
                rw [set_self v1 hv1 (by omega), set_self v2 hv2 (by omega)]
              · rw [if_neg hc] at hv1 hv2 ⊢
                rw [knSet, ← hv1, ← hv2, getD_set_ne hij]
            refine ⟨rfl, ?_, hF1.u1 (by decide)⟩
            have := hM1.now (wKn (aNow a) (((lKn (aNow a)).set i v1).set j v2))
            rw [el] at this
            rw [← el] at this
            rw [← el]
            exact this
          refine T_al0 dX7_knot_48 ?_
          refine T_g7 gX7_25 (cell_89 _ _) rfl dX7_knot_49 ?_
          refine T_bipush (v := nI 32) dX7_knot_52 (by decide +kernel) ?_
          refine T_il1 dX7_knot_54 ?_
          first | refine T_iaddN dX7_knot_55 ?_ | refine T_iadd dX7_knot_55 ?_
          refine T_aldN rfl (show _ < 42 by omega) dX7_knot_56 ?_
          refine T_il2 dX7_knot_57 ?_
          rw [g, enc_kn l1 l2 l3 l4 (show i < 8 by omega)]
          refine T_pS2 lX7_124 (m_has _ _ _ _ _) (by omega) (Nat.le_of_ble_eq_true rfl) dX7_knot_58 ?_
          rw [hq]
          refine T_beq 68 dX7_knot_61 (by decide) (fun h5 => ?_) (fun h5 => ?_)
          · subst h5
            refine T_iconst (v := nI 0) dX7_knot_68 rfl ?_
            refine T_is4 dX7_knot_69 rfl ?_
            exact key
          · subst h5
            refine T_iconst (v := nI 1) dX7_knot_64 rfl ?_
            refine T_goto 69 dX7_knot_65 (by decide) ?_
            refine T_is4 dX7_knot_69 rfl ?_
            exact key
        · exact no (fun z => by rw [z.2] at h4; cases h4)
    · have h2 := nt_f h2
      refine T_bipush (v := -3) dX7_knot_22 (by decide +kernel) ?_
      refine T_iret rfl dX7_knot_24 ?_
      rw [s_knot, if_pos h1, if_pos h2]
      exact MP.rf hM
  · have h1 : prB a x y = false := h1
    refine T_bipush (v := -2) dX7_knot_9 (by decide +kernel) ?_
    refine T_iret rfl dX7_knot_11 ?_
    rw [s_knot, if_neg (by rw [h1]; decide)]
    exact MP.rf hM
theorem LoI.elen {n : Nat} {kd ln : List Int32} {x : LoS} (h : LoI n kd ln x) : (enc n x).length = 42 := enc_len h.1.1 h.1.2.1 h.1.2.2.1 h.1.2.2.2
theorem m_undo (d : Nat) (hd : 20 ≤ d) (F : FT) (G : GT) (a : AS) (hM : MR a F G) (hI : InvA a) : Kc DX7_undo d [.ref 89] F G (MP (s_undo a) F G) := by
  refine Kc.len (fun hlen => ?_)
  obtain ⟨⟨e2, e5, e9, e23⟩, hg, ⟨g95, g96⟩, hP, hK⟩ := id hM
  cases hp : aPast a with
  | nil =>
    rw [hp] at e23
    refine Kc.ofT [some (.ref 89), none] pn_X7 (Nat.le_of_ble_eq_true rfl) rfl ?_
    refine T_al0 dX7_undo_0 ?_
    refine T_g7 gX7_166 (cell_89 _ _) rfl dX7_undo_1 ?_
    rw [e23]
    refine T_if_ne_f 10 dX7_undo_4 (by decide) nI_0 ?_
    refine T_bipush (v := -4) dX7_undo_7 (by decide +kernel) ?_
    refine T_iret rfl dX7_undo_9 ?_
    rw [s_undo, hp]
    exact MP.rf hM
  | cons x r =>
    rw [hp] at e23 hP
    have h8 : r.length + 1 ≤ 8 := by have := hI.2.2.2.1; rw [hp] at this; exact this
    refine (m_undoR d F G r.length e23 (by omega)).imp ?_
    rintro v F' G' ⟨rfl, rfl, rfl⟩
    rw [s_undo, hp]
    have hx := (hI.2.2.2.2.1 x (by rw [hp]; exact List.mem_cons_self)).elen
    have hs := hP.2 0 x rfl
    have el : iter (cpR (42 * r.length) (G 102)) 42 0 (G 95) = enc (aN a) x := by
      rw [cpR_upd]
      exact updR_all rfl (hlen 95) hx (fun i hi => hs i hi)
    refine ⟨rfl, ⟨⟨?_, ?_, ?_, u2_s _ _ _ _⟩, hg, ⟨?_, g96⟩, ⟨by show r.length ≤ 8; omega, fun j y hj => ?_⟩, hK⟩, FrX.rf.u2.u1 (by decide)⟩
    · rw [u2_f _ _ (by decide)]; exact e2
    · rw [u2_f _ _ (by decide)]; exact e5
    · rw [u2_f _ _ (by decide)]; exact e9
    · rw [u1_s]; exact el
    · have := hP.2 (j + 1) y (by simpa using hj)
      rw [show (x :: r).length - 1 - (j + 1) = r.length - 1 - j by simp; omega] at this
      exact this
theorem kz_at (b0 b1 : Bool) : ∀ i, i < 2 → ([bI b0, bI b1] : List Int32).getD i 0 = bI (if i = 0 then b0 else b1) := by
  intro i hi
  match i, hi with
  | 0, _ => rfl
  | 1, _ => rfl
theorem bI_1 : bI true = nI 1 := by decide +kernel
theorem kz_put (k : Option LoS × Option LoS) (x : LoS) {b : Nat} (hb : b = 0 ∨ b = 1) : ([bI k.1.isSome, bI k.2.isSome] : List Int32).set b (nI 1) = [bI (putK k b x).1.isSome, bI (putK k b x).2.isSome] := by
  rcases hb with rfl | rfl
  · show [nI 1, bI k.2.isSome] = [bI true, bI k.2.isSome]
    rw [bI_1]
  · show [bI k.1.isSome, nI 1] = [bI k.1.isSome, bI true]
    rw [bI_1]
theorem putK_0 (k : Option LoS × Option LoS) (x : LoS) : putK k 0 x = (some x, k.2) := rfl
theorem putK_1 (k : Option LoS × Option LoS) (x : LoS) : putK k 1 x = (k.1, some x) := rfl
theorem m_keep (d : Nat) (hd : 20 ≤ d) (F : FT) (G : GT) (a : AS) (hM : MR a F G) (hI : InvA a) (k : Int32) : Kc DX7_keep d [.ref 89, .int k] F G (MP (s_keep a k) F G) := by
  refine Kc.len (fun hlen => ?_)
  obtain ⟨⟨e2, e5, e9, e23⟩, hg, ⟨g95, g96⟩, hP, k1, k2, k3⟩ := id hM
  obtain ⟨l1, l2, l3, l4⟩ := hI.2.2.1.1
  refine Kc.ofT [some (.ref 89), some (.int k), none] pn_X7 (Nat.le_of_ble_eq_true rfl) rfl ?_
  refine T_il1 dX7_keep_0 ?_
  refine T_i2l dX7_keep_1 ?_
  refine T_lconst (v := 0) dX7_keep_2 (by decide +kernel) ?_
  refine T_lconst (v := 1) dX7_keep_3 (by decide +kernel) ?_
  refine T_pS3 lX7_78 (m_in _ _ _ _ _ _) (by omega) (Nat.le_of_ble_eq_true rfl) dX7_keep_4 ?_
  rw [in_c (lo := 0) (hi := nI 1) (by decide +kernel) (by decide +kernel)]
  have h12 : (k < 0 ∨ nI 1 < k) ↔ (k < 0 ∨ nI 2 ≤ k) := by
    by_cases h0 : k < 0
    · exact ⟨fun _ => Or.inl h0, fun _ => Or.inl h0⟩
    · obtain ⟨q, hq, rfl⟩ := nI_of h0
      rw [nI_ltI (by decide) hq, nI_leI (by decide) hq]
      exact Iff.rfl
  refine T_bne 13 dX7_keep_7 (by decide) (fun h1 => ?_) (fun h1 => ?_)
  · have h1 := nt_t h1
    obtain ⟨b, hb, rfl⟩ := out1_ok h1
    have hs : sv (nI b) = b := sv_nI (by omega)
    rw [h12] at h1
    refine T_iconst (v := nI 0) dX7_keep_13 rfl ?_
    refine T_is2 dX7_keep_14 rfl ?_
    refine T_G (u1_id G 106).symm ?_
    refine for_up (cpS (42 * b) (G 95)) 42 (fun i l => T DX7_keep d 15 [some (.ref 89), some (.int (nI b)), some (.int (nI i))] [] F (u1 G 106 l) _) ?_ 42 0 (G 106) rfl ?_
    · intro i l hi h
      refine T_il2 dX7_keep_15 ?_
      refine T_bipush (v := nI 42) dX7_keep_16 (by decide +kernel) ?_
      refine T_nge_f 44 dX7_keep_18 (by decide) (by omega) (by omega) (by omega) ?_
      refine T_al0 dX7_keep_21 ?_
      refine T_g7 gX7_59 (cell_89 _ _) rfl dX7_keep_22 ?_
      refine T_bipush (v := nI 42) dX7_keep_25 (by decide +kernel) ?_
      refine T_il1 dX7_keep_27 ?_
      first | refine T_imulN dX7_keep_28 ?_ | refine T_imul dX7_keep_28 ?_
      refine T_il2 dX7_keep_29 ?_
      first | refine T_iaddN dX7_keep_30 ?_ | refine T_iadd dX7_keep_30 ?_
      refine T_al0 dX7_keep_31 ?_
      refine T_g7 gX7_25 (cell_89 _ _) rfl dX7_keep_32 ?_
      refine T_il2 dX7_keep_35 ?_
      refine T_aldN rfl (show _ < 42 by omega) dX7_keep_36 ?_
      rw [u1_n G _ (by decide)]
      refine T_astN (a := 106) rfl (show 42 * b + i < 84 by omega) dX7_keep_37 ?_
      rw [u1_s, u1_u1]
      refine T_ii2 dX7_keep_38 (by first | exact nI_inc _ | exact nI_dec _ | rfl) rfl ?_
      refine T_goto 15 dX7_keep_41 (by decide) ?_
      exact h
    · refine T_il2 dX7_keep_15 ?_
      refine T_bipush (v := nI 42) dX7_keep_16 (by decide +kernel) ?_
      refine T_nge_t 44 dX7_keep_18 (by decide) (by omega) (by omega) (by omega) ?_
      refine T_al0 dX7_keep_44 ?_
      refine T_g7 gX7_55 (cell_89 _ _) rfl dX7_keep_45 ?_
      refine T_il1 dX7_keep_48 ?_
      refine T_iconst (v := nI 1) dX7_keep_49 rfl ?_
      refine T_zast (show _ < 2 by omega) rfl dX7_keep_50 ?_
      refine T_al0 dX7_keep_51 ?_
      refine T_g7 gX7_25 (cell_89 _ _) rfl dX7_keep_52 ?_
      refine T_bipush (v := nI 40) dX7_keep_55 (by decide +kernel) ?_
      rw [u1_n G _ (show (105 : Nat) ≠ 106 by decide), k1, g95]
      refine T_aldN (a := 95) rfl (show 40 < 42 by decide) dX7_keep_57 ?_
      rw [u1_n _ _ (by decide), u1_n _ _ (by decide), g95, (enc_day l1 l2 l3 l4).1]
      refine T_iret rfl dX7_keep_58 ?_
      rw [s_keep, if_neg h1, hs, cpS_upd]
      have hb2 : b = 0 ∨ b = 1 := by omega
      have inn : ∀ i, i < 42 → (iter (updR (42 * b) (fun k => (enc (aN a) (aNow a)).getD k 0)) 42 0 (G 106)).getD (42 * b + i) 0 = (enc (aN a) (aNow a)).getD i 0 := fun i hi => updR_in _ _ 42 0 _ i (by omega) (by omega) (by rw [hlen 106]; show 42 * b + i < 84; omega)
      refine ⟨rfl, ⟨⟨e2, e5, e9, e23⟩, hg, ⟨?_, g96⟩, ?_, ?_, ?_, ?_⟩, (FrX.rf.u1 (by decide)).u1 (by decide)⟩
      · rw [u1_n _ _ (by decide), u1_n _ _ (by decide)]; exact g95
      · rw [u1_n _ _ (by decide), u1_n _ _ (by decide)]; exact hP
      · rw [u1_s]
        exact kz_put _ _ hb2
      · rw [u1_n _ _ (by decide), u1_s]
        intro y hy
        rcases hb2 with rfl | rfl
        · have hy : some (aNow a) = some y := hy
          cases hy
          exact inn
        · intro i hi
          rw [updR_out _ _ _ _ _ _ (by omega)]
          exact k2 y hy i hi
      · rw [u1_n _ _ (by decide), u1_s]
        intro y hy
        rcases hb2 with rfl | rfl
        · intro i hi
          rw [updR_out _ _ _ _ _ _ (by omega)]
          exact k3 y hy i hi
        · have hy : some (aNow a) = some y := hy
          cases hy
          exact inn
  · have h1 := nt_f h1
    rw [h12] at h1
    refine T_bipush (v := -2) dX7_keep_10 (by decide +kernel) ?_
    refine T_iret rfl dX7_keep_12 ?_
    rw [s_keep, if_pos h1]
    exact MP.rf hM
theorem m_back (d : Nat) (hd : 20 ≤ d) (F : FT) (G : GT) (a : AS) (hM : MR a F G) (hI : InvA a) (k : Int32) : Kc DX7_back d [.ref 89, .int k] F G (MP (s_back a k) F G) := by
  refine Kc.len (fun hlen => ?_)
  obtain ⟨⟨e2, e5, e9, e23⟩, hg, ⟨g95, g96⟩, hP, k1, k2, k3⟩ := id hM
  refine Kc.ofT [some (.ref 89), some (.int k), none] pn_X7 (Nat.le_of_ble_eq_true rfl) rfl ?_
  refine T_il1 dX7_back_0 ?_
  refine T_i2l dX7_back_1 ?_
  refine T_lconst (v := 0) dX7_back_2 (by decide +kernel) ?_
  refine T_lconst (v := 1) dX7_back_3 (by decide +kernel) ?_
  refine T_pS3 lX7_78 (m_in _ _ _ _ _ _) (by omega) (Nat.le_of_ble_eq_true rfl) dX7_back_4 ?_
  rw [in_c (lo := 0) (hi := nI 1) (by decide +kernel) (by decide +kernel)]
  have h12 : (k < 0 ∨ nI 1 < k) ↔ (k < 0 ∨ nI 2 ≤ k) := by
    by_cases h0 : k < 0
    · exact ⟨fun _ => Or.inl h0, fun _ => Or.inl h0⟩
    · obtain ⟨q, hq, rfl⟩ := nI_of h0
      rw [nI_ltI (by decide) hq, nI_leI (by decide) hq]
      exact Iff.rfl
  refine T_bne 13 dX7_back_7 (by decide) (fun h1 => ?_) (fun h1 => ?_)
  · have h1 := nt_t h1
    obtain ⟨b, hb, rfl⟩ := out1_ok h1
    have hs : sv (nI b) = b := sv_nI (by omega)
    rw [h12] at h1
    refine T_al0 dX7_back_13 ?_
    refine T_g7 gX7_55 (cell_89 _ _) rfl dX7_back_14 ?_
    refine T_il1 dX7_back_17 ?_
    refine T_zald (show _ < 2 by omega) dX7_back_18 ?_
    rw [k1, kz_at _ _ b hb]
    have hat : (if b = 0 then (aKept a).1.isSome else (aKept a).2.isSome) = (keptAt (aKept a) b).isSome := by
      unfold keptAt
      split <;> rfl
    rw [hat]
    refine T_bne 25 dX7_back_19 (by decide) (fun h2 => ?_) (fun h2 => ?_)
    · obtain ⟨y, hy⟩ := Option.isSome_iff_exists.mp h2
      have hL : LoA a y := by
        match b, hb, hy with
        | 0, _, hy => exact hI.2.2.2.2.2.1 y hy
        | 1, _, hy => exact hI.2.2.2.2.2.2 y hy
      have hR : slR (aN a) (G 106) b y := by
        match b, hb, hy with
        | 0, _, hy => exact k2 y hy
        | 1, _, hy => exact k3 y hy
      obtain ⟨l1, l2, l3, l4⟩ := hL.1
      refine T_iconst (v := nI 0) dX7_back_25 rfl ?_
      refine T_is2 dX7_back_26 rfl ?_
      refine T_G (u1_id G 95).symm ?_
      refine for_up (cpR (42 * b) (G 106)) 42 (fun i l => T DX7_back d 27 [some (.ref 89), some (.int (nI b)), some (.int (nI i))] [] F (u1 G 95 l) _) ?_ 42 0 (G 95) rfl ?_
      · intro i l hi h
        refine T_il2 dX7_back_27 ?_
        refine T_bipush (v := nI 42) dX7_back_28 (by decide +kernel) ?_
        refine T_nge_f 56 dX7_back_30 (by decide) (by omega) (by omega) (by omega) ?_
        refine T_al0 dX7_back_33 ?_
        refine T_g7 gX7_25 (cell_89 _ _) rfl dX7_back_34 ?_
        refine T_il2 dX7_back_37 ?_
        refine T_al0 dX7_back_38 ?_
        refine T_g7 gX7_59 (cell_89 _ _) rfl dX7_back_39 ?_
        refine T_bipush (v := nI 42) dX7_back_42 (by decide +kernel) ?_
        refine T_il1 dX7_back_44 ?_
        first | refine T_imulN dX7_back_45 ?_ | refine T_imul dX7_back_45 ?_
        refine T_il2 dX7_back_46 ?_
        first | refine T_iaddN dX7_back_47 ?_ | refine T_iadd dX7_back_47 ?_
        refine T_aldN rfl (show _ < 84 by omega) dX7_back_48 ?_
        rw [u1_n G _ (by decide)]
        refine T_astN (a := 95) rfl (show i < 42 by omega) dX7_back_49 ?_
        rw [u1_s, u1_u1]
        refine T_ii2 dX7_back_50 (by first | exact nI_inc _ | exact nI_dec _ | rfl) rfl ?_
        refine T_goto 27 dX7_back_53 (by decide) ?_
        exact h
      · have el : iter (cpR (42 * b) (G 106)) 42 0 (G 95) = enc (aN a) y := by
          rw [cpR_upd]
          exact updR_all rfl (hlen 95) hL.elen (fun i hi => hR i hi)
        rw [el]
        refine T_il2 dX7_back_27 ?_
        refine T_bipush (v := nI 42) dX7_back_28 (by decide +kernel) ?_
        refine T_nge_t 56 dX7_back_30 (by decide) (by omega) (by omega) (by omega) ?_
        refine T_al0 dX7_back_56 ?_
        refine T_iconst (v := nI 0) dX7_back_57 rfl ?_
        refine T_put7_23 pX7_166 dX7_back_58 ?_
        refine T_al0 dX7_back_61 ?_
        refine T_g7 gX7_25 (cell_89 _ _) rfl dX7_back_62 ?_
        refine T_bipush (v := nI 40) dX7_back_65 (by decide +kernel) ?_
        refine T_aldN rfl (show _ < 42 by omega) dX7_back_67 ?_
        refine T_iret rfl dX7_back_68 ?_
        rw [u1_s, (enc_day l1 l2 l3 l4).1, s_back, if_neg h1, hs, hy]
        refine ⟨rfl, ⟨⟨?_, ?_, ?_, u2_s _ _ _ _⟩, hg, ⟨u1_s _ _ _, g96⟩, ⟨by show 0 ≤ 8; omega, fun j z hj => by cases hj⟩, k1, k2, k3⟩, FrX.rf.u2.u1 (by decide)⟩
        · rw [u2_f _ _ (by decide)]; exact e2
        · rw [u2_f _ _ (by decide)]; exact e5
        · rw [u2_f _ _ (by decide)]; exact e9
    · have hy : keptAt (aKept a) b = none := by
        cases hq : keptAt (aKept a) b with
        | none => rfl
        | some z => rw [hq] at h2; cases h2
      refine T_bipush (v := -4) dX7_back_22 (by decide +kernel) ?_
      refine T_iret rfl dX7_back_24 ?_
      rw [s_back, if_neg h1, hs, hy]
      exact MP.rf hM
  · have h1 := nt_f h1
    rw [h12] at h1
    refine T_bipush (v := -2) dX7_back_10 (by decide +kernel) ?_
    refine T_iret rfl dX7_back_12 ?_
    rw [s_back, if_pos h1]
    exact MP.rf hM
