theorem m_isWholeR (d : Nat) (F : FT) (G : GT) (t : Nat) (ht : t < 8) : Kp DX7_isWhole d [.ref 89, .int (nI t)] F G (some (.int (bI (decide ((G 95).getD (8 + t) 0 = 0))))) := by
  refine Kc.ofT [some (.ref 89), some (.int (nI t))] pn_X7 (Nat.le_of_ble_eq_true rfl) rfl ?_
  refine T_al0 dX7_isWhole_0 ?_
  refine T_g7 gX7_25 (cell_89 _ _) rfl dX7_isWhole_1 ?_
  refine T_bipush (v := nI 8) dX7_isWhole_4 (by decide +kernel) ?_
  refine T_il1 dX7_isWhole_6 ?_
  first | refine T_iaddN dX7_isWhole_7 ?_ | refine T_iadd dX7_isWhole_7 ?_
  refine T_aldN rfl (show _ < 42 by omega) dX7_isWhole_8 ?_
  refine T_if_ne 16 dX7_isWhole_9 (by decide) (fun h5 => ?_) (fun h5 => ?_)
  · refine T_iconst (v := nI 0) dX7_isWhole_16 rfl ?_
    refine T_bret0 rfl dX7_isWhole_17 ?_
    exact ⟨by rw [decide_eq_false h5], rfl, rfl⟩
  · refine T_iconst (v := nI 1) dX7_isWhole_12 rfl ?_
    refine T_goto 17 dX7_isWhole_13 (by decide) ?_
    refine T_bret1 rfl dX7_isWhole_17 ?_
    exact ⟨by rw [decide_eq_true h5], rfl, rfl⟩
def ordU (n : Nat) (kd ln ot od : List Int32) : Nat → Int32 × LoS → Int32 × LoS := fun o p => if od.getD o 0 = lDay p.2 then (p.1 ||| fallI kd (lOv p.2) (lKn p.2) (lWhole p.2) (sv (ot.getD o 0)), cutS n kd ln (sv (ot.getD o 0)) p.2) else p
theorem ordU_2 (n : Nat) (kd ln ot od : List Int32) : ∀ m k p, (iter (ordU n kd ln ot od) m k p).2 = iter (ordS n kd ln ot od) m k p.2 := by
  intro m
  induction m with
  | zero => intro k p; rfl
  | succ m ih =>
    intro k p
    rw [iter, iter, ih (k + 1)]
    congr 1
    rw [ordU, ordS]
    split <;> rfl
theorem LoI.mc {n : Nat} {kd ln : List Int32} {x y : LoS} {F : FT} {G : GT} (h : McR n kd ln x F G) (hy : LoI n kd ln y) : McR n kd ln y F (u1 G 95 (enc n y)) := by
  obtain ⟨h1, h2, h3, h4, -⟩ := h
  obtain ⟨l1, l2, l3, l4⟩ := hy.1
  exact ⟨h1, h2, h3, u1_s _ _ _, l1, l2, l3, l4⟩
theorem enc_sDay {n : Nat} {x : LoS} (h : (lCol x).length = 8) (h2 : (lCd x).length = 8) (h3 : (lOv x).length = 8) (h4 : (lKn x).length = 8) (v : Int32) : (enc n x).set 40 v = enc n (v, x.2) := by
  have hE := enc_len (n := n) h h2 h3 h4
  refine enc_of (x := (v, x.2)) h h2 h3 h4 (by rw [List.length_set]; exact hE) (fun i hi => ?_) (fun i hi => ?_) (fun i hi => ?_) (fun i hi => ?_) (fun i hi => ?_) ?_ ?_
  · rw [getD_set_ne (by omega), enc_col h hi]
  · rw [getD_set_ne (by omega), enc_how h hi]; rfl
  · rw [getD_set_ne (by omega), enc_cd h h2 hi]
  · rw [getD_set_ne (by omega), enc_ov h h2 h3 hi]
  · rw [getD_set_ne (by omega), enc_kn h h2 h3 h4 hi]
  · rw [getD_set_eq (by omega)]
  · rw [getD_set_ne (by omega), (enc_day h h2 h3 h4).2]
theorem m_oneDay (d : Nat) (hd : 6 ≤ d) (F : FT) (G : GT) (n m : Nat) (hn : n ≤ 8) (hm : m ≤ 6) (kd ln ot od : List Int32) (x : LoS) (hM : McR n kd ln x F G) (hL : LoI n kd ln x) (h5 : F 89 5 = nI m) (h92 : G 92 = ot) (h104 : G 104 = od) (hO : ∀ o, o < m → ∃ j, ot.getD o 0 = nI j ∧ j < n) : Kc DX7_oneDay d [.ref 89] F G (fun v F' G' => v = some (.int (iter (ordU n kd ln ot od) m 0 (nI 0, x)).1) ∧ F' = F ∧ G' = u1 G 95 (enc n (dayS n m kd ln ot od x))) := by
  obtain ⟨h1, h2, h3, h4, l1, l2, l3, l4⟩ := id hM
  refine Kc.ofT [some (.ref 89), none, none, none] pn_X7 (Nat.le_of_ble_eq_true rfl) rfl ?_
  refine T_iconst (v := nI 0) dX7_oneDay_0 rfl ?_
  refine T_is1 dX7_oneDay_1 rfl ?_
  refine T_iconst (v := nI 0) dX7_oneDay_2 rfl ?_
  refine T_is2 dX7_oneDay_3 rfl ?_
  refine T_G (u1_id G 95).symm ?_
  rw [h4]
  refine for_inv (ordU n kd ln ot od) m (fun o p => T DX7_oneDay d 4 [some (.ref 89), some (.int p.1), some (.int (nI o)), none] [] F (u1 G 95 (enc n p.2)) _) (fun _ p => LoI n kd ln p.2) (fun o p ho hp => ?_) ?_ m 0 (nI 0, x) (by omega) hL ?_
  · obtain ⟨j, ej, hj⟩ := hO o ho
    rw [ordU]
    split
    · rw [ej, sv_nI (by omega)]
      exact hp.cut hn hj
    · exact hp
  · intro o p ho hp h
    obtain ⟨j, ej, hj⟩ := hO o ho
    obtain ⟨k1, k2, k3, k4⟩ := hp.1
    have hMp : McR n kd ln p.2 F (u1 G 95 (enc n p.2)) := LoI.mc hM hp
    refine T_il2 dX7_oneDay_4 ?_
    refine T_al0 dX7_oneDay_5 ?_
    refine T_g7 gX7_156 (cell_89 _ _) rfl dX7_oneDay_6 ?_
    rw [h5]
    refine T_nge_f 51 dX7_oneDay_9 (by decide) (by omega) (by omega) (by omega) ?_
    refine T_il1 dX7_oneDay_12 ?_
    refine T_al0 dX7_oneDay_13 ?_
    refine T_g7 gX7_52 (cell_89 _ _) rfl dX7_oneDay_14 ?_
    refine T_il2 dX7_oneDay_17 ?_
    refine T_aldN rfl (show _ < 6 by omega) dX7_oneDay_18 ?_
    refine T_al0 dX7_oneDay_19 ?_
    refine T_g7 gX7_25 (cell_89 _ _) rfl dX7_oneDay_20 ?_
    refine T_bipush (v := nI 40) dX7_oneDay_23 (by decide +kernel) ?_
    refine T_aldN rfl (show _ < 42 by omega) dX7_oneDay_25 ?_
    rw [u1_n G _ (show (104 : Nat) ≠ 95 by decide), h104, u1_s, (enc_day k1 k2 k3 k4).1]
    refine T_icmp_ne 42 dX7_oneDay_26 (by decide) (fun h6 => ?_) (fun h6 => ?_)
    · rw [ordU, if_neg h6] at h
      refine T_iconst (v := nI 0) dX7_oneDay_42 rfl ?_
      refine T_ior dX7_oneDay_43 ?_
      rw [or_0]
      refine T_is1 dX7_oneDay_44 rfl ?_
      refine T_ii2 dX7_oneDay_45 (by first | exact nI_inc _ | exact nI_dec _ | rfl) rfl ?_
      refine T_goto 4 dX7_oneDay_48 (by decide) ?_
      exact h
    · rw [ordU, if_pos h6, ej, sv_nI (by omega)] at h
      refine T_al0 dX7_oneDay_29 ?_
      refine T_al0 dX7_oneDay_30 ?_
      refine T_g7 gX7_16 (cell_89 _ _) rfl dX7_oneDay_31 ?_
      refine T_il2 dX7_oneDay_34 ?_
      refine T_aldN rfl (show _ < 6 by omega) dX7_oneDay_35 ?_
      rw [u1_n G _ (show (92 : Nat) ≠ 95 by decide), h92, ej]
      refine T_cV1 lX7_195 rfl (by decide) (cell_89 _ _) (m_cutX _ (by omega) F _ n hn kd ln p.2 hMp hp j hj) (by omega) (Nat.le_of_ble_eq_true rfl) dX7_oneDay_36 (fun v F' G' hP => ?_)
      obtain ⟨rfl, rfl, rfl⟩ := hP
      rw [u1_u1]
      refine T_goto 43 dX7_oneDay_39 (by decide) ?_
      refine T_ior dX7_oneDay_43 ?_
      refine T_is1 dX7_oneDay_44 rfl ?_
      refine T_ii2 dX7_oneDay_45 (by first | exact nI_inc _ | exact nI_dec _ | rfl) rfl ?_
      refine T_goto 4 dX7_oneDay_48 (by decide) ?_
      exact h
  · intro hp
    have e2 := ordU_2 n kd ln ot od m 0 (nI 0, x)
    generalize iter (ordU n kd ln ot od) m 0 (nI 0, x) = p at hp e2 ⊢
    obtain ⟨k1, k2, k3, k4⟩ := hp.1
    refine T_il2 dX7_oneDay_4 ?_
    refine T_al0 dX7_oneDay_5 ?_
    refine T_g7 gX7_156 (cell_89 _ _) rfl dX7_oneDay_6 ?_
    rw [h5]
    refine T_nge_t 51 dX7_oneDay_9 (by decide) (by omega) (by omega) (by omega) ?_
    refine T_al0 dX7_oneDay_51 ?_
    refine T_g7 gX7_25 (cell_89 _ _) rfl dX7_oneDay_52 ?_
    refine T_bipush (v := nI 40) dX7_oneDay_55 (by decide +kernel) ?_
    refine T_dup2 dX7_oneDay_57 rfl rfl ?_
    refine T_aldN rfl (show _ < 42 by omega) dX7_oneDay_58 ?_
    refine T_iconst (v := nI 1) dX7_oneDay_59 rfl ?_
    rw [u1_s, (enc_day k1 k2 k3 k4).1]
    refine T_iadd dX7_oneDay_60 ?_
    refine T_astN (a := 95) rfl (show 40 < 42 by decide) dX7_oneDay_61 ?_
    rw [u1_s, u1_u1, enc_sDay k1 k2 k3 k4]
    refine T_iconst (v := nI 0) dX7_oneDay_62 rfl ?_
    refine T_is2 dX7_oneDay_63 rfl ?_
    have hE : (enc n (lDay p.2 + nI 1, p.2.2)).length = 42 := enc_len (x := (lDay p.2 + nI 1, p.2.2)) k1 k2 k3 k4
    suffices hloop : ∀ o : Option Value, T DX7_oneDay d 64 [some (.ref 89), some (.int p.1), some (.int (nI 0)), o] [] F (u1 G 95 (enc n (lDay p.2 + nI 1, p.2.2))) (fun v F' G' => v = some (.int p.1) ∧ F' = F ∧ G' = u1 G 95 (enc n (dayS n m kd ln ot od x))) from hloop none
    refine for_inv (runS kd ln) n (fun t l => ∀ o : Option Value, T DX7_oneDay d 64 [some (.ref 89), some (.int p.1), some (.int (nI t)), o] [] F (u1 G 95 l) (fun v F' G' => v = some (.int p.1) ∧ F' = F ∧ G' = u1 G 95 (enc n (dayS n m kd ln ot od x)))) (fun _ l => l.length = 42) (fun t l ht hl => (runS_len kd ln 1 t l).trans hl) ?_ n 0 _ (by omega) hE ?_
    · intro t l ht hl h o
      refine T_il2 dX7_oneDay_64 ?_
      refine T_al0 dX7_oneDay_65 ?_
      refine T_g7 gX7_74 (cell_89 _ _) rfl dX7_oneDay_66 ?_
      rw [h1]
      refine T_nge_f 144 dX7_oneDay_69 (by decide) (by omega) (by omega) (by omega) ?_
      refine T_al0 dX7_oneDay_72 ?_
      refine T_il2 dX7_oneDay_73 ?_
      refine T_pV1 lX7_169 rfl (by decide) (cell_89 _ _) (m_isWholeR _ F _ t (by omega)) (by omega) (Nat.le_of_ble_eq_true rfl) dX7_oneDay_74 ?_
      rw [u1_s]
      have no : ¬ (l.getD (8 + t) 0 = 0 ∧ endB kd t = false ∧ ln.getD t 0 ≤ l.getD 40 0) → T DX7_oneDay d 110 [some (.ref 89), some (.int p.1), some (.int (nI t)), o] [] F (u1 G 95 l) (fun v F' G' => v = some (.int p.1) ∧ F' = F ∧ G' = u1 G 95 (enc n (dayS n m kd ln ot od x))) := by
        intro hc
        rw [runS, if_neg hc] at h
        refine T_iconst (v := nI 0) dX7_oneDay_110 rfl ?_
        refine T_is3 dX7_oneDay_111 rfl ?_
        refine T_al0 dX7_oneDay_112 ?_
        refine T_g7 gX7_25 (cell_89 _ _) rfl dX7_oneDay_113 ?_
        refine T_bipush (v := nI 8) dX7_oneDay_116 (by decide +kernel) ?_
        refine T_il2 dX7_oneDay_118 ?_
        first | refine T_iaddN dX7_oneDay_119 ?_ | refine T_iadd dX7_oneDay_119 ?_
        refine T_il3 dX7_oneDay_120 ?_
        refine T_if_eq_t 128 dX7_oneDay_121 (by decide) nI_0 ?_
        refine T_al0 dX7_oneDay_128 ?_
        refine T_g7 gX7_25 (cell_89 _ _) rfl dX7_oneDay_129 ?_
        refine T_bipush (v := nI 8) dX7_oneDay_132 (by decide +kernel) ?_
        refine T_il2 dX7_oneDay_134 ?_
        first | refine T_iaddN dX7_oneDay_135 ?_ | refine T_iadd dX7_oneDay_135 ?_
        refine T_aldN rfl (show _ < 42 by omega) dX7_oneDay_136 ?_
        rw [u1_s]
        refine T_astN (a := 95) rfl (show 8 + t < 42 by omega) dX7_oneDay_137 ?_
        rw [u1_s, u1_u1, set_self (l.getD (8 + t) 0) rfl (by omega)]
        refine T_ii2 dX7_oneDay_138 (by first | exact nI_inc _ | exact nI_dec _ | rfl) rfl ?_
        refine T_goto 64 dX7_oneDay_141 (by decide) ?_
        exact h _
      have yes : (l.getD (8 + t) 0 = 0 ∧ endB kd t = false ∧ ln.getD t 0 ≤ l.getD 40 0) → T DX7_oneDay d 106 [some (.ref 89), some (.int p.1), some (.int (nI t)), o] [] F (u1 G 95 l) (fun v F' G' => v = some (.int p.1) ∧ F' = F ∧ G' = u1 G 95 (enc n (dayS n m kd ln ot od x))) := by
        intro hc
        rw [runS, if_pos hc] at h
        refine T_iconst (v := nI 1) dX7_oneDay_106 rfl ?_
        refine T_goto 111 dX7_oneDay_107 (by decide) ?_
        refine T_is3 dX7_oneDay_111 rfl ?_
        refine T_al0 dX7_oneDay_112 ?_
        refine T_g7 gX7_25 (cell_89 _ _) rfl dX7_oneDay_113 ?_
        refine T_bipush (v := nI 8) dX7_oneDay_116 (by decide +kernel) ?_
        refine T_il2 dX7_oneDay_118 ?_
        first | refine T_iaddN dX7_oneDay_119 ?_ | refine T_iadd dX7_oneDay_119 ?_
        refine T_il3 dX7_oneDay_120 ?_
        refine T_if_eq_f 128 dX7_oneDay_121 (by decide) (nI_ne0 (by decide) (by decide)) ?_
        refine T_iconst (v := nI 2) dX7_oneDay_124 rfl ?_
        refine T_goto 137 dX7_oneDay_125 (by decide) ?_
        refine T_astN (a := 95) rfl (show 8 + t < 42 by omega) dX7_oneDay_137 ?_
        rw [u1_s, u1_u1]
        refine T_ii2 dX7_oneDay_138 (by first | exact nI_inc _ | exact nI_dec _ | rfl) rfl ?_
        refine T_goto 64 dX7_oneDay_141 (by decide) ?_
        exact h _
      refine T_beq 110 dX7_oneDay_77 (by decide) (fun h6 => ?_) (fun h6 => ?_)
      · exact no (fun z => by rw [decide_eq_true z.1] at h6; cases h6)
      · have h6 := of_decide_eq_true h6
        refine T_al0 dX7_oneDay_80 ?_
        refine T_g7 gX7_7 (cell_89 _ _) rfl dX7_oneDay_81 ?_
        refine T_il2 dX7_oneDay_84 ?_
        refine T_aldN rfl (show _ < 8 by omega) dX7_oneDay_85 ?_
        rw [u1_n G _ (show (90 : Nat) ≠ 95 by decide), h2]
        refine T_iconst (v := nI 3) dX7_oneDay_86 rfl ?_
        refine T_icmp_eq 110 dX7_oneDay_87 (by decide) (fun h7 => ?_) (fun h7 => ?_)
        · exact no (fun z => by rw [endB, decide_eq_true h7] at z; cases z.2.1)
        · refine T_al0 dX7_oneDay_90 ?_
          refine T_g7 gX7_13 (cell_89 _ _) rfl dX7_oneDay_91 ?_
          refine T_il2 dX7_oneDay_94 ?_
          refine T_aldN rfl (show _ < 8 by omega) dX7_oneDay_95 ?_
          refine T_al0 dX7_oneDay_96 ?_
          refine T_g7 gX7_25 (cell_89 _ _) rfl dX7_oneDay_97 ?_
          refine T_bipush (v := nI 40) dX7_oneDay_100 (by decide +kernel) ?_
          refine T_aldN rfl (show _ < 42 by omega) dX7_oneDay_102 ?_
          rw [u1_n G _ (show (91 : Nat) ≠ 95 by decide), h3, u1_s]
          refine T_icmp_gt 110 dX7_oneDay_103 (by decide) (fun h8 => ?_) (fun h8 => ?_)
          · exact no (fun z => absurd h8 (Int32.not_lt.mpr z.2.2))
          · exact yes ⟨h6, decide_eq_false h7, Int32.not_lt.mp h8⟩
    · intro _ o
      refine T_il2 dX7_oneDay_64 ?_
      refine T_al0 dX7_oneDay_65 ?_
      refine T_g7 gX7_74 (cell_89 _ _) rfl dX7_oneDay_66 ?_
      rw [h1]
      refine T_nge_t 144 dX7_oneDay_69 (by decide) (by omega) (by omega) (by omega) ?_
      refine T_il1 dX7_oneDay_144 ?_
      refine T_iret rfl dX7_oneDay_145 ?_
      refine ⟨rfl, rfl, ?_⟩
      rw [enc_run hn hp, dayS, ← e2]
theorem iter_c {σ : Type} (f : σ → σ) : ∀ n k j x, iter (fun _ => f) n k x = iter (fun _ => f) n j x := by
  intro n
  induction n with
  | zero => intro k j x; rfl
  | succ n ih => intro k j x; rw [iter, iter]; exact ih _ _ _
theorem m_go (d : Nat) (hd : 20 ≤ d) (F : FT) (G : GT) (a : AS) (hM : MR a F G) (hI : InvA a) (z : Int32) : Kc DX7_go d [.ref 89, .int z] F G (MP (s_go a z) F G) := by
  obtain ⟨⟨e2, e5, e9, e23⟩, hg, ⟨g95, g96⟩, hP, hK⟩ := id hM
  have hn : aN a ≤ 8 := hI.1.1.1
  have hm : aM a ≤ 6 := hI.1.1.2
  obtain ⟨l1, l2, l3, l4⟩ := hI.2.2.1.1
  obtain ⟨hd1, hd9⟩ := sv_day hI.2.2.1
  have hO : ∀ o, o < aM a → ∃ j, (aOt a).getD o 0 = nI j ∧ j < aN a := fun o ho => by
    obtain ⟨j, y, h1, h2, -⟩ := hI.1.2.2.2.2.2 o ho
    exact ⟨j, h1, h2⟩
  refine Kc.ofT [some (.ref 89), some (.int z), none, none] pn_X7 (Nat.le_of_ble_eq_true rfl) rfl ?_
  refine T_il1 dX7_go_0 ?_
  refine T_i2l dX7_go_1 ?_
  refine T_lconst (v := 1) dX7_go_2 (by decide +kernel) ?_
  refine T_ldc2 kX7_209 dX7_go_3 ?_
  refine T_pS3 lX7_78 (m_in _ _ _ _ _ _) (by omega) (Nat.le_of_ble_eq_true rfl) dX7_go_6 ?_
  rw [in_c (lo := nI 1) (hi := nI 99) (by decide +kernel) (by decide +kernel)]
  refine T_bne 15 dX7_go_9 (by decide) (fun h1 => ?_) (fun h1 => ?_)
  · have h1 := nt_t h1
    obtain ⟨q, hq, rfl⟩ := nI_of (x := z) (fun w => h1 (Or.inl (Int32.lt_trans w (by decide))))
    have hq1 : 1 ≤ q := (nI_leI (by decide) hq).mp (Int32.not_lt.mp (fun w => h1 (Or.inl w)))
    have hq2 : q ≤ 99 := (nI_leI hq (by decide)).mp (Int32.not_lt.mp (fun w => h1 (Or.inr w)))
    have hs : sv (nI q) = q := sv_nI hq
    refine T_al0 dX7_go_15 ?_
    refine T_g7 gX7_25 (cell_89 _ _) rfl dX7_go_16 ?_
    refine T_bipush (v := nI 40) dX7_go_19 (by decide +kernel) ?_
    refine T_aldN rfl (show _ < 42 by omega) dX7_go_21 ?_
    rw [g95, (enc_day l1 l2 l3 l4).1, hd1]
    refine T_il1 dX7_go_22 ?_
    first | refine T_iaddN dX7_go_23 ?_ | refine T_iadd dX7_go_23 ?_
    refine T_sipush (v := nI 999) dX7_go_24 (by decide +kernel) ?_
    refine T_nle 33 dX7_go_27 (by decide) (by omega) (by omega) (fun h2 => ?_) (fun h2 => ?_)
    · have h2' : ¬ nI 999 < lDay (aNow a) + nI q := by rw [hd1, nI_add]; exact nI_nlt h2 (by omega)
      refine T_al0 dX7_go_33 ?_
      refine T_cV0 lX7_192 rfl (by decide) (cell_89 _ _) (m_noteA _ F G a hM hI) (by omega) (Nat.le_of_ble_eq_true rfl) dX7_go_34 (fun v F' G' hP => ?_)
      obtain ⟨rfl, hM1, hF1⟩ := hP
      have g : G' 95 = enc (aN a) (aNow a) := hM1.2.2.1.1
      refine T_al0 dX7_go_37 ?_
      refine T_cV0 lX7_211 rfl (by decide) (cell_89 _ _) (m_asTold _ F' G') (by omega) (Nat.le_of_ble_eq_true rfl) dX7_go_38 (fun v F' G' hP => ?_)
      obtain ⟨rfl, rfl, rfl⟩ := hP
      rw [show G' 93 = aOd a from hM1.2.1.2.2.2.1]
      refine T_al0 dX7_go_41 ?_
      refine T_g7 gX7_25 (cell_89 _ _) rfl dX7_go_42 ?_
      refine T_bipush (v := nI 41) dX7_go_45 (by decide +kernel) ?_
      refine T_aldN rfl (show _ < 42 by omega) dX7_go_47 ?_
      rw [u1_n G' _ (show (95 : Nat) ≠ 104 by decide), g, (enc_day l1 l2 l3 l4).2]
      refine T_is2 dX7_go_48 rfl ?_
      refine T_iconst (v := nI 0) dX7_go_49 rfl ?_
      refine T_is3 dX7_go_50 rfl ?_
      refine T_G (u1_id _ 95).symm ?_
      rw [u1_n G' _ (show (95 : Nat) ≠ 104 by decide), g]
      refine for_inv (fun _ => dayS (aN a) (aM a) (aKd a) (aLn a) (aOt a) (aOd a)) q (fun k y => T DX7_go d 51 [some (.ref 89), some (.int (nI q)), some (.int (lLost (aNow a))), some (.int (nI k))] [] F' (u1 (u1 G' 104 (aOd a)) 95 (enc (aN a) y)) _) (fun k y => LoA a y ∧ sv (lDay y) = sv (lDay (aNow a)) + k) (fun k y hk hy => ?_) ?_ q 0 (aNow a) (by omega) ⟨hI.2.2.1, rfl⟩ ?_
      · obtain ⟨h3, h4⟩ := hy.1.day (ot := aOt a) (od := aOd a) hn hI.1.2.2.2.2.1 hO (by omega)
        exact ⟨h3, by rw [h4, sv_nI (by omega)]; omega⟩
      · intro k y hk hy h
        have hMy : McR (aN a) (aKd a) (aLn a) y F' (u1 (u1 G' 104 (aOd a)) 95 (enc (aN a) y)) := LoI.mc (x := aNow a) (G := u1 G' 104 (aOd a)) (hM1.mc (hI.doo hI.2.2.1)) hy.1
        refine T_il3 dX7_go_51 ?_
        refine T_il1 dX7_go_52 ?_
        refine T_nge_f 67 dX7_go_53 (by decide) (by omega) (by omega) (by omega) ?_
        refine T_al0 dX7_go_56 ?_
        refine T_cV0 lX7_214 rfl (by decide) (cell_89 _ _) (m_oneDay _ (by omega) F' _ (aN a) (aM a) hn hm (aKd a) (aLn a) (aOt a) (aOd a) y hMy hy.1 hM1.1.2.1 hM1.2.1.2.2.1 rfl hO) (by omega) (Nat.le_of_ble_eq_true rfl) dX7_go_57 (fun v F' G' hP => ?_)
        obtain ⟨rfl, rfl, rfl⟩ := hP
        rw [u1_u1]
        refine T_pop dX7_go_60 rfl ?_
        refine T_ii3 dX7_go_61 (by first | exact nI_inc _ | exact nI_dec _ | rfl) rfl ?_
        refine T_goto 51 dX7_go_64 (by decide) ?_
        exact h
      · intro hy
        obtain ⟨k1, k2, k3, k4⟩ := hy.1.1
        refine T_il3 dX7_go_51 ?_
        refine T_il1 dX7_go_52 ?_
        refine T_nge_t 67 dX7_go_53 (by decide) (by omega) (by omega) (by omega) ?_
        refine T_al0 dX7_go_67 ?_
        refine T_g7 gX7_25 (cell_89 _ _) rfl dX7_go_68 ?_
        refine T_bipush (v := nI 41) dX7_go_71 (by decide +kernel) ?_
        refine T_aldN rfl (show _ < 42 by omega) dX7_go_73 ?_
        rw [u1_s, (enc_day k1 k2 k3 k4).2]
        refine T_il2 dX7_go_74 ?_
        refine T_isub dX7_go_75 ?_
        refine T_iret rfl dX7_go_76 ?_
        rw [s_go, if_neg h1, if_neg h2', hs]
        exact ⟨rfl, MR.now (G := u1 G' 104 (aOd a)) hM1 _, (hF1.u1 (by decide)).u1 (by decide)⟩
    · have h2' : nI 999 < lDay (aNow a) + nI q := by rw [hd1, nI_add]; exact nI_lt h2 (by omega)
      refine T_bipush (v := -5) dX7_go_30 (by decide +kernel) ?_
      refine T_iret rfl dX7_go_32 ?_
      rw [s_go, if_neg h1, if_pos h2']
      exact MP.rf hM
  · have h1 := nt_f h1
    refine T_bipush (v := -3) dX7_go_12 (by decide +kernel) ?_
    refine T_iret rfl dX7_go_14 ?_
    rw [s_go, if_pos h1]
    exact MP.rf hM
