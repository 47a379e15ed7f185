theorem set_self {l : List Int32} {q : Nat} (v : Int32) (h : l.getD q 0 = v) (hq : q < l.length) : l.set q v = l := by
  refine getD_ext (by rw [List.length_set]) (fun j hj => ?_)
  rw [List.length_set] at hj
  by_cases e : q = j
  · subst e; rw [getD_set_eq hq, h]
  · rw [getD_set_ne e]
theorem enc_sCol {n : Nat} {x : LoS} (h : (lCol x).length = 8) (h2 : (lCd x).length = 8) (h3 : (lOv x).length = 8) (h4 : (lKn x).length = 8) {j : Nat} (hj : j < 8) (v : Int32) : (enc n x).set (0 + j) v = enc n (wCol x ((lCol x).set j v)) := by
  have hE := enc_len (n := n) h h2 h3 h4
  refine enc_of (x := wCol x ((lCol x).set j v)) (by show ((lCol x).set j v).length = 8; rw [List.length_set]; exact h) h2 h3 h4 (by rw [List.length_set]; exact hE) (fun i hi => ?_) (fun i hi => ?_) (fun i hi => ?_) (fun i hi => ?_) (fun i hi => ?_) ?_ ?_
  · show _ = ((lCol x).set j v).getD i 0
    by_cases e : j = i
    · subst e; rw [getD_set_eq (by omega), getD_set_eq (by omega)]
    · rw [getD_set_ne (by omega), getD_set_ne e, enc_col h hi]
  · rw [getD_set_ne (by omega), enc_how h hi]; rfl
  · rw [getD_set_ne (by omega), enc_cd h h2 hi]; rfl
  · rw [getD_set_ne (by omega), enc_ov h h2 h3 hi]; rfl
  · rw [getD_set_ne (by omega), enc_kn h h2 h3 h4 hi]; rfl
  · rw [getD_set_ne (by omega), (enc_day h h2 h3 h4).1]; rfl
  · rw [getD_set_ne (by omega), (enc_day h h2 h3 h4).2]; rfl
theorem enc_sOv {n : Nat} {x : LoS} (h : (lCol x).length = 8) (h2 : (lCd x).length = 8) (h3 : (lOv x).length = 8) (h4 : (lKn x).length = 8) {j : Nat} (hj : j < 8) (v : Int32) : (enc n x).set (24 + j) v = enc n (wOv x ((lOv x).set j v)) := by
  have hE := enc_len (n := n) h h2 h3 h4
  refine enc_of (x := wOv x ((lOv x).set j v)) h h2 (by show ((lOv x).set j v).length = 8; rw [List.length_set]; exact h3) h4 (by rw [List.length_set]; exact hE) (fun i hi => ?_) (fun i hi => ?_) (fun i hi => ?_) (fun i hi => ?_) (fun i hi => ?_) ?_ ?_
  · rw [getD_set_ne (by omega), enc_col h hi]; rfl
  · rw [getD_set_ne (by omega), enc_how h hi]; rfl
  · rw [getD_set_ne (by omega), enc_cd h h2 hi]; rfl
  · show _ = ((lOv x).set j v).getD i 0
    by_cases e : j = i
    · subst e; rw [getD_set_eq (by omega), getD_set_eq (by omega)]
    · rw [getD_set_ne (by omega), getD_set_ne e, enc_ov h h2 h3 hi]
  · rw [getD_set_ne (by omega), enc_kn h h2 h3 h4 hi]; rfl
  · rw [getD_set_ne (by omega), (enc_day h h2 h3 h4).1]; rfl
  · rw [getD_set_ne (by omega), (enc_day h h2 h3 h4).2]; rfl
theorem enc_sKn {n : Nat} {x : LoS} (h : (lCol x).length = 8) (h2 : (lCd x).length = 8) (h3 : (lOv x).length = 8) (h4 : (lKn x).length = 8) {j : Nat} (hj : j < 8) (v : Int32) : (enc n x).set (32 + j) v = enc n (wKn x ((lKn x).set j v)) := by
  have hE := enc_len (n := n) h h2 h3 h4
  refine enc_of (x := wKn x ((lKn x).set j v)) h h2 h3 (by show ((lKn x).set j v).length = 8; rw [List.length_set]; exact h4) (by rw [List.length_set]; exact hE) (fun i hi => ?_) (fun i hi => ?_) (fun i hi => ?_) (fun i hi => ?_) (fun i hi => ?_) ?_ ?_
  · rw [getD_set_ne (by omega), enc_col h hi]; rfl
  · rw [getD_set_ne (by omega), enc_how h hi]; rfl
  · rw [getD_set_ne (by omega), enc_cd h h2 hi]; rfl
  · rw [getD_set_ne (by omega), enc_ov h h2 h3 hi]; rfl
  · show _ = ((lKn x).set j v).getD i 0
    by_cases e : j = i
    · subst e; rw [getD_set_eq (by omega), getD_set_eq (by omega)]
    · rw [getD_set_ne (by omega), getD_set_ne e, enc_kn h h2 h3 h4 hi]
  · rw [getD_set_ne (by omega), (enc_day h h2 h3 h4).1]; rfl
  · rw [getD_set_ne (by omega), (enc_day h h2 h3 h4).2]; rfl
theorem m_dye (d : Nat) (hd : 20 ≤ d) (F : FT) (G : GT) (a : AS) (hM : MR a F G) (hI : InvA a) (t c : Int32) : Kc DX7_dye d [.ref 89, .int t, .int c] F G (MP (s_dye a t c) F G) := by
  obtain ⟨⟨e2, e5, e9, e23⟩, hg, ⟨g95, g96⟩, hP, hK⟩ := id hM
  have hn : aN a ≤ 8 := hI.1.1.1
  obtain ⟨l1, l2, l3, l4⟩ := hI.2.2.1.1
  refine Kc.ofT [some (.ref 89), some (.int t), some (.int c), none] pn_X7 (Nat.le_of_ble_eq_true rfl) rfl ?_
  refine T_al0 dX7_dye_0 ?_
  refine T_il1 dX7_dye_1 ?_
  refine T_pV1 lX7_172 rfl (by decide) (cell_89 _ _) (m_isThread _ (by omega) _ _ _ (by assumption) (by assumption) _) (by omega) (Nat.le_of_ble_eq_true rfl) dX7_dye_2 ?_
  refine T_bne 11 dX7_dye_5 (by decide) (fun h1 => ?_) (fun h1 => ?_)
  · obtain ⟨j, hk, rfl⟩ := knB_ok hn h1
    have hs : sv (nI j) = j := sv_nI (by omega)
    refine T_il2 dX7_dye_11 ?_
    refine T_i2l dX7_dye_12 ?_
    refine T_lconst (v := 0) dX7_dye_13 (by decide +kernel) ?_
    refine T_ldc2 kX7_207 dX7_dye_14 ?_
    refine T_pS3 lX7_78 (m_in _ _ _ _ _ _) (by omega) (Nat.le_of_ble_eq_true rfl) dX7_dye_17 ?_
    rw [in_c (lo := 0) (hi := nI 3) (by decide +kernel) (by decide +kernel)]
    refine T_bne 26 dX7_dye_20 (by decide) (fun h2 => ?_) (fun h2 => ?_)
    · have h2 := nt_t h2
      refine T_al0 dX7_dye_26 ?_
      refine T_il1 dX7_dye_27 ?_
      refine T_pV1 lX7_169 rfl (by decide) (cell_89 _ _) (m_isWholeA _ F G a hM hI j hk) (by omega) (Nat.le_of_ble_eq_true rfl) dX7_dye_28 ?_
      refine T_bne 37 dX7_dye_31 (by decide) (fun h3 => ?_) (fun h3 => ?_)
      · refine T_al0 dX7_dye_37 ?_
        refine T_cV0 lX7_192 rfl (by decide) (cell_89 _ _) (m_noteA _ F G a hM hI) (by omega) (Nat.le_of_ble_eq_true rfl) dX7_dye_38 (fun v F' G' hP => ?_)
        obtain ⟨rfl, hM1, hF1⟩ := hP
        have g := hM1.2.2.1.1
        refine T_al0 dX7_dye_41 ?_
        refine T_g7 gX7_25 (cell_89 _ _) rfl dX7_dye_42 ?_
        refine T_iconst (v := nI 0) dX7_dye_45 rfl ?_
        refine T_il1 dX7_dye_46 ?_
        first | refine T_iaddN dX7_dye_47 ?_ | refine T_iadd dX7_dye_47 ?_
        refine T_aldN rfl (show _ < 42 by omega) dX7_dye_48 ?_
        refine T_is3 dX7_dye_49 rfl ?_
        refine T_al0 dX7_dye_50 ?_
        refine T_g7 gX7_25 (cell_89 _ _) rfl dX7_dye_51 ?_
        refine T_iconst (v := nI 0) dX7_dye_54 rfl ?_
        refine T_il1 dX7_dye_55 ?_
        first | refine T_iaddN dX7_dye_56 ?_ | refine T_iadd dX7_dye_56 ?_
        refine T_il2 dX7_dye_57 ?_
        refine T_astN rfl (show _ < 42 by omega) dX7_dye_58 ?_
        refine T_il3 dX7_dye_59 ?_
        refine T_iret rfl dX7_dye_60 ?_
        rw [s_dye, if_pos h1, if_neg h2, if_pos h3, hs, g]
        refine ⟨?_, ?_, hF1.u1 (by decide)⟩
        · show some (Value.int ((enc (aN a) (aNow a)).getD (0 + j) 0)) = _
          rw [enc_col l1 (by omega)]
        · show MR _ _ (u1 G' 95 ((enc (aN a) (aNow a)).set (0 + j) c))
          rw [enc_sCol l1 l2 l3 l4 (by omega)]
          exact hM1.now _
      · refine T_bipush (v := -4) dX7_dye_34 (by decide +kernel) ?_
        refine T_iret rfl dX7_dye_36 ?_
        rw [s_dye, if_pos h1, if_neg h2, if_neg (by rw [h3]; decide)]
        exact MP.rf hM
    · have h2 := nt_f h2
      refine T_bipush (v := -3) dX7_dye_23 (by decide +kernel) ?_
      refine T_iret rfl dX7_dye_25 ?_
      rw [s_dye, if_pos h1, if_pos h2]
      exact MP.rf hM
  · refine T_bipush (v := -2) dX7_dye_8 (by decide +kernel) ?_
    refine T_iret rfl dX7_dye_10 ?_
    rw [s_dye, if_neg (by rw [h1]; decide)]
    exact MP.rf hM
theorem m_put (d : Nat) (hd : 20 ≤ d) (F : FT) (G : GT) (a : AS) (hM : MR a F G) (hI : InvA a) (x y : Int32) : Kc DX7_put d [.ref 89, .int x, .int y] F G (MP (s_put a x y) F G) := by
  refine Kc.len (fun hlen => ?_)
  obtain ⟨⟨e2, e5, e9, e23⟩, hg, ⟨g95, g96⟩, hP, hK⟩ := id hM
  have hn : aN a ≤ 8 := hI.1.1.1
  obtain ⟨l1, l2, l3, l4⟩ := hI.2.2.1.1
  have ho := hI.2.2.1.2.1.1
  refine Kc.ofT [some (.ref 89), some (.int x), some (.int y), none] pn_X7 (Nat.le_of_ble_eq_true rfl) rfl ?_
  refine T_al0 dX7_put_0 ?_
  refine T_il1 dX7_put_1 ?_
  refine T_il2 dX7_put_2 ?_
  refine T_pV2 lX7_201 rfl (by decide) (cell_89 _ _) (m_areTwo _ (by omega) _ _ _ (by assumption) (by assumption) _ _) (by omega) (Nat.le_of_ble_eq_true rfl) dX7_put_3 ?_
  refine T_bne 12 dX7_put_6 (by decide) (fun h1 => ?_) (fun h1 => ?_)
  · have h1 : prB a x y = true := h1
    obtain ⟨i, j, hi, hj, hij, rfl, rfl⟩ := prB_ok hn h1
    have hsi : sv (nI i) = i := sv_nI (by omega)
    have hsj : sv (nI j) = j := sv_nI (by omega)
    refine T_iconst (v := nI 0) dX7_put_12 rfl ?_
    refine T_is3 dX7_put_13 rfl ?_
    refine T_G (u1_id G 103).symm ?_
    refine for_up (updR 0 (fun k => (G 95).getD (24 + k) 0)) 8 (fun k l => T DX7_put d 14 [some (.ref 89), some (.int (nI i)), some (.int (nI j)), some (.int (nI k))] [] F (u1 G 103 l) _) ?_ 8 0 (G 103) rfl ?_
    · intro k l hk h
      rw [updR, Nat.zero_add] at h
      refine T_il3 dX7_put_14 ?_
      refine T_bipush (v := nI 8) dX7_put_15 (by decide +kernel) ?_
      refine T_nge_f 41 dX7_put_17 (by decide) (by omega) (by omega) (by omega) ?_
      refine T_al0 dX7_put_20 ?_
      refine T_g7 gX7_49 (cell_89 _ _) rfl dX7_put_21 ?_
      refine T_il3 dX7_put_24 ?_
      refine T_al0 dX7_put_25 ?_
      refine T_g7 gX7_25 (cell_89 _ _) rfl dX7_put_26 ?_
      refine T_bipush (v := nI 24) dX7_put_29 (by decide +kernel) ?_
      refine T_il3 dX7_put_31 ?_
      first | refine T_iaddN dX7_put_32 ?_ | refine T_iadd dX7_put_32 ?_
      refine T_aldN rfl (show _ < 42 by omega) dX7_put_33 ?_
      rw [u1_n G _ (by decide)]
      refine T_astN (a := 103) rfl (show k < 8 by omega) dX7_put_34 ?_
      rw [u1_s, u1_u1]
      refine T_ii3 dX7_put_35 (by first | exact nI_inc _ | exact nI_dec _ | rfl) rfl ?_
      refine T_goto 14 dX7_put_38 (by decide) ?_
      exact h
    · have e8 : iter (updR 0 (fun k => (G 95).getD (24 + k) 0)) 8 0 (G 103) = lOv (aNow a) := updR_all rfl (hlen 103) l3 (fun k hk => by show (G 95).getD (24 + k) 0 = _; rw [g95, enc_ov l1 l2 l3 hk])
      rw [e8]
      have hMa : MR a F (u1 G 103 (lOv (aNow a))) := hM
      refine T_il3 dX7_put_14 ?_
      refine T_bipush (v := nI 8) dX7_put_15 (by decide +kernel) ?_
      refine T_nge_t 41 dX7_put_17 (by decide) (by omega) (by omega) (by omega) ?_
      have no : ∀ r : Int32 × AS, r = (-4, a) → T DX7_put d 82 [some (.ref 89), some (.int (nI i)), some (.int (nI j)), some (.int (nI 8))] [] F (u1 G 103 (lOv (aNow a))) (MP r F G) := by
        intro r hr
        refine T_bipush (v := -4) dX7_put_82 (by decide +kernel) ?_
        refine T_iret rfl dX7_put_84 ?_
        rw [hr]
        exact ⟨rfl, hMa, FrX.rf.u1 (by decide)⟩
      refine T_al0 dX7_put_41 ?_
      refine T_il1 dX7_put_42 ?_
      refine T_pV1 lX7_169 rfl (by decide) (cell_89 _ _) (m_isWholeA _ F _ a hMa hI i hi) (by omega) (Nat.le_of_ble_eq_true rfl) dX7_put_43 ?_
      refine T_beq 82 dX7_put_46 (by decide) (fun h2 => ?_) (fun h2 => ?_)
      · exact no _ (by rw [s_put, if_pos h1, if_neg (fun z => by rw [z.1] at h2; cases h2)])
      · refine T_al0 dX7_put_49 ?_
        refine T_il2 dX7_put_50 ?_
        refine T_pV1 lX7_169 rfl (by decide) (cell_89 _ _) (m_isWholeA _ F _ a hMa hI j hj) (by omega) (Nat.le_of_ble_eq_true rfl) dX7_put_51 ?_
        refine T_beq 82 dX7_put_54 (by decide) (fun h3 => ?_) (fun h3 => ?_)
        · exact no _ (by rw [s_put, if_pos h1, if_neg (fun z => by rw [z.2] at h3; cases h3)])
        · refine T_al0 dX7_put_57 ?_
          refine T_g7 gX7_49 (cell_89 _ _) rfl dX7_put_58 ?_
          refine T_il2 dX7_put_61 ?_
          refine T_aldN rfl (show _ < 8 by omega) dX7_put_62 ?_
          refine T_il1 dX7_put_63 ?_
          refine T_pS2 lX7_124 (m_has _ _ _ _ _) (by omega) (Nat.le_of_ble_eq_true rfl) dX7_put_64 ?_
          rw [u1_s]
          refine T_bne 82 dX7_put_67 (by decide) (fun h4 => ?_) (fun h4 => ?_)
          · exact no _ (by rw [s_put, if_pos h1, if_pos ⟨h2, h3⟩, hsj, if_pos (Or.inl h4)])
          · refine T_al0 dX7_put_70 ?_
            refine T_g7 gX7_49 (cell_89 _ _) rfl dX7_put_71 ?_
            refine T_il2 dX7_put_74 ?_
            refine T_il1 dX7_put_75 ?_
            refine T_pS3 lX7_138 (m_isAbove _ (by omega) F _ 103 rfl rfl (nI j) i (by omega)) (by omega) (Nat.le_of_ble_eq_true rfl) dX7_put_76 ?_
            rw [u1_s, ab_ring ho (by omega) (by omega) hij]
            refine T_beq 85 dX7_put_79 (by decide) (fun h5 => ?_) (fun h5 => ?_)
            · refine T_al0 dX7_put_85 ?_
              refine T_cV0 lX7_192 rfl (by decide) (cell_89 _ _) (m_noteA _ F _ a hMa hI) (by omega) (Nat.le_of_ble_eq_true rfl) dX7_put_86 (fun v F' G' hP => ?_)
              obtain ⟨rfl, hM1, hF1⟩ := hP
              have g : G' 95 = enc (aN a) (aNow a) := hM1.2.2.1.1
              refine T_al0 dX7_put_89 ?_
              refine T_g7 gX7_25 (cell_89 _ _) rfl dX7_put_90 ?_
              refine T_bipush (v := nI 24) dX7_put_93 (by decide +kernel) ?_
              refine T_il2 dX7_put_95 ?_
              first | refine T_iaddN dX7_put_96 ?_ | refine T_iadd dX7_put_96 ?_
              refine T_dup2 dX7_put_97 rfl rfl ?_
              refine T_aldN rfl (show _ < 42 by omega) dX7_put_98 ?_
              refine T_iconst (v := nI 1) dX7_put_99 rfl ?_
              refine T_il1 dX7_put_100 ?_
              refine T_ishl dX7_put_101 ?_
              refine T_ior dX7_put_102 ?_
              obtain ⟨m, hm, em⟩ := S8_or (ho j) (S8_b (show i < 8 by omega))
              rw [g, enc_ov l1 l2 l3 (by omega), show nI 1 <<< (nI i &&& 31) = bitI (nI i) from rfl, em]
              refine T_astN (a := 95) rfl (show 24 + j < 42 by omega) dX7_put_103 ?_
              rw [g, enc_sOv l1 l2 l3 l4 (by omega)]
              refine T_al0 dX7_put_104 ?_
              refine T_g7 gX7_25 (cell_89 _ _) rfl dX7_put_105 ?_
              refine T_bipush (v := nI 24) dX7_put_108 (by decide +kernel) ?_
              refine T_il2 dX7_put_110 ?_
              first | refine T_iaddN dX7_put_111 ?_ | refine T_iadd dX7_put_111 ?_
              refine T_aldN rfl (show _ < 42 by omega) dX7_put_112 ?_
              rw [u1_s, enc_ov (x := wOv (aNow a) ((lOv (aNow a)).set j (nI m))) l1 l2 (by show ((lOv (aNow a)).set j (nI m)).length = 8; rw [List.length_set]; exact l3) (show j < 8 by omega)]
              rw [show (lOv (wOv (aNow a) ((lOv (aNow a)).set j (nI m)))).getD j 0 = nI m from getD_set_eq (show j < (lOv (aNow a)).length by omega) _]
              refine T_pS1 lX7_198 (m_ones _ _ _ _ (by assumption)) (by omega) (Nat.le_of_ble_eq_true rfl) dX7_put_113 ?_
              refine T_iret rfl dX7_put_116 ?_
              rw [s_put, if_pos h1, if_pos ⟨h2, h3⟩, hsj, if_neg (fun z => z.elim (fun z => by rw [z] at h4; cases h4) (fun z => by rw [z] at h5; cases h5)), em, sv_nI (by omega)]
              exact ⟨rfl, hM1.now _, (FrX.tr (FrX.rf.u1 (by decide)) hF1).u1 (by decide)⟩
            · exact no _ (by rw [s_put, if_pos h1, if_pos ⟨h2, h3⟩, hsj, if_pos (Or.inr h5)])
  · have h1 : prB a x y = false := h1
    refine T_bipush (v := -2) dX7_put_9 (by decide +kernel) ?_
    refine T_iret rfl dX7_put_11 ?_
    rw [s_put, if_neg (by rw [h1]; decide)]
    exact MP.rf hM
theorem offS_len (t : Int32) : ∀ n k l, (iter (offS t) n k l).length = l.length := by
  intro n
  induction n with
  | zero => intro k l; rfl
  | succ n ih => intro k l; rw [iter, ih, offS, List.length_set]
theorem offS_out (t : Int32) : ∀ n k l j, (j < k ∨ k + n ≤ j) → (iter (offS t) n k l).getD j 0 = l.getD j 0 := by
  intro n
  induction n with
  | zero => intro k l j _; rfl
  | succ n ih => intro k l j h; rw [iter, ih (k + 1) _ j (by omega), offS, getD_set_ne (by omega)]
theorem offS_in (t : Int32) : ∀ n k l j, k ≤ j → j < k + n → j < l.length → (iter (offS t) n k l).getD j 0 = l.getD j 0 &&& (bitI t ^^^ (-1)) := by
  intro n
  induction n with
  | zero => intro k l j h1 h2 _; omega
  | succ n ih =>
    intro k l j h1 h2 h3
    rw [iter]
    rcases Nat.eq_or_lt_of_le h1 with e | e
    · subst e
      rw [offS_out t n (k + 1) _ _ (by omega), offS, getD_set_eq h3]
    · rw [ih (k + 1) _ j e (by omega) (by rw [offS, List.length_set]; exact h3), offS, getD_set_ne (by omega)]
theorem zero_and (x : Int32) : (0 : Int32) &&& x = 0 := by
  rw [← nI_0, nI_any x, nI_and, Nat.zero_and]
theorem off_rest {l : List Int32} {t : Int32} {n : Nat} (hl : l.length = 8) (hz : ∀ q, n ≤ q → q < 8 → l.getD q 0 = 0) : ∀ m, n + m ≤ 8 → iter (offS t) (n + m) 0 l = iter (offS t) n 0 l := by
  intro m
  induction m with
  | zero => intro _; rfl
  | succ m ih =>
    intro h
    rw [show n + (m + 1) = (n + m) + 1 by omega, iter_succ, ih (by omega), offS, Nat.zero_add]
    have e : (iter (offS t) n 0 l).getD (n + m) 0 = 0 := by rw [offS_out t n 0 l _ (by omega), hz _ (by omega) (by omega)]
    exact set_self _ (by rw [e, zero_and]) (by rw [offS_len, hl]; omega)
theorem has_0 (x : Int32) : hasI 0 x = false := by
  unfold hasI
  apply decide_eq_false
  intro h
  apply h
  rw [show (0 : Int32) >>> (x &&& 31) = 0 from by
    apply Int32.toBitVec_inj.mp
    simp, zero_and]
theorem m_lift (d : Nat) (hd : 20 ≤ d) (F : FT) (G : GT) (a : AS) (hM : MR a F G) (hI : InvA a) (t : Int32) : Kc DX7_lift d [.ref 89, .int t] F G (MP (s_lift a t) F G) := by
  obtain ⟨⟨e2, e5, e9, e23⟩, hg, ⟨g95, g96⟩, hP, hK⟩ := id hM
  have hn : aN a ≤ 8 := hI.1.1.1
  obtain ⟨l1, l2, l3, l4⟩ := hI.2.2.1.1
  have hz := hI.2.2.1.2.2.1
  refine Kc.ofT [some (.ref 89), some (.int t), none, none] pn_X7 (Nat.le_of_ble_eq_true rfl) rfl ?_
  refine T_al0 dX7_lift_0 ?_
  refine T_il1 dX7_lift_1 ?_
  refine T_pV1 lX7_172 rfl (by decide) (cell_89 _ _) (m_isThread _ (by omega) _ _ _ (by assumption) (by assumption) _) (by omega) (Nat.le_of_ble_eq_true rfl) dX7_lift_2 ?_
  refine T_bne 11 dX7_lift_5 (by decide) (fun h1 => ?_) (fun h1 => ?_)
  · obtain ⟨j, hk, rfl⟩ := knB_ok hn h1
    have hs : sv (nI j) = j := sv_nI (by omega)
    have hN : iter (lvS (lOv (aNow a)) (nI j)) (aN a) 0 (nI 0) = nI (iter (lieS (lOv (aNow a)) (nI j)) 8 0 0) := by
      rw [lv_lie]
      have := lie_rest (l := lOv (aNow a)) (t := nI j) (8 - aN a) (aN a) 0 0 (fun q h1 h2 => by rw [(hz q (by omega) (by omega)).1, has_0])
      rw [show aN a + (8 - aN a) = 8 by omega] at this
      rw [this]
    have hN8 : ∀ l : List Int32, ∀ n k c, iter (lieS l (nI j)) n k c ≤ c + n := by
      intro l n
      induction n with
      | zero => intro k c; exact Nat.le_refl _
      | succ n ih =>
        intro k c
        rw [iter]
        refine Nat.le_trans (ih (k + 1) _) ?_
        unfold lieS
        split <;> omega
    have hN9 := hN8 (lOv (aNow a)) 8 0 0
    generalize hNe : iter (lieS (lOv (aNow a)) (nI j)) 8 0 0 = N at hN hN9
    refine T_al0 dX7_lift_11 ?_
    refine T_il1 dX7_lift_12 ?_
    refine T_pV1 lX7_204 rfl (by decide) (cell_89 _ _) (m_liesOver _ (by omega) F G (aN a) (aKd a) (aLn a) (aNow a) (hM.mc hI) hn (nI j)) (by omega) (Nat.le_of_ble_eq_true rfl) dX7_lift_13 ?_
    rw [hN]
    have no : ¬ (hasI (lWhole (aNow a)) (nI j) = true ∧ ¬ nI N = 0) → T DX7_lift d 29 [some (.ref 89), some (.int (nI j)), some (.int (nI N)), none] [] F G (MP (s_lift a (nI j)) F G) := by
      intro hr
      refine T_bipush (v := -4) dX7_lift_29 (by decide +kernel) ?_
      refine T_iret rfl dX7_lift_31 ?_
      rw [s_lift, if_pos h1, hNe, if_neg hr]
      exact MP.rf hM
    refine T_is2 dX7_lift_16 rfl ?_
    refine T_al0 dX7_lift_17 ?_
    refine T_il1 dX7_lift_18 ?_
    refine T_pV1 lX7_169 rfl (by decide) (cell_89 _ _) (m_isWholeA _ F G a hM hI j hk) (by omega) (Nat.le_of_ble_eq_true rfl) dX7_lift_19 ?_
    refine T_beq 29 dX7_lift_22 (by decide) (fun h2 => ?_) (fun h2 => ?_)
    · exact no (fun z => by rw [z.1] at h2; cases h2)
    · refine T_il2 dX7_lift_25 ?_
      refine T_if_ne 32 dX7_lift_26 (by decide) (fun h3 => ?_) (fun h3 => ?_)
      · refine T_al0 dX7_lift_32 ?_
        refine T_cV0 lX7_192 rfl (by decide) (cell_89 _ _) (m_noteA _ F G a hM hI) (by omega) (Nat.le_of_ble_eq_true rfl) dX7_lift_33 (fun v F' G' hP => ?_)
        obtain ⟨rfl, hM1, hF1⟩ := hP
        have g : G' 95 = enc (aN a) (aNow a) := hM1.2.2.1.1
        have e2' : F' 89 2 = nI (aN a) := hM1.1.1
        refine T_iconst (v := nI 0) dX7_lift_36 rfl ?_
        refine T_is3 dX7_lift_37 rfl ?_
        refine T_G (u1_id G' 95).symm ?_
        rw [g, show enc (aN a) (aNow a) = enc (aN a) (wOv (aNow a) (lOv (aNow a))) from rfl]
        refine for_inv (offS (nI j)) (aN a) (fun k l => T DX7_lift d 38 [some (.ref 89), some (.int (nI j)), some (.int (nI N)), some (.int (nI k))] [] F' (u1 G' 95 (enc (aN a) (wOv (aNow a) l))) _) (fun _ l => l.length = 8) (fun k l hk hl => by rw [offS, List.length_set]; exact hl) ?_ (aN a) 0 (lOv (aNow a)) (by omega) l3 ?_
        · intro k l hk hl h
          refine T_il3 dX7_lift_38 ?_
          refine T_al0 dX7_lift_39 ?_
          refine T_g7 gX7_74 (cell_89 _ _) rfl dX7_lift_40 ?_
          rw [e2']
          refine T_nge_f 69 dX7_lift_43 (by decide) (by omega) (by omega) (by omega) ?_
          refine T_al0 dX7_lift_46 ?_
          refine T_g7 gX7_25 (cell_89 _ _) rfl dX7_lift_47 ?_
          refine T_bipush (v := nI 24) dX7_lift_50 (by decide +kernel) ?_
          refine T_il3 dX7_lift_52 ?_
          first | refine T_iaddN dX7_lift_53 ?_ | refine T_iadd dX7_lift_53 ?_
          refine T_dup2 dX7_lift_54 rfl rfl ?_
          refine T_aldN rfl (show _ < 42 by omega) dX7_lift_55 ?_
          refine T_iconst (v := nI 1) dX7_lift_56 rfl ?_
          refine T_il1 dX7_lift_57 ?_
          refine T_ishl dX7_lift_58 ?_
          refine T_iconst (v := -1) dX7_lift_59 rfl ?_
          refine T_ixor dX7_lift_60 ?_
          refine T_iand dX7_lift_61 ?_
          rw [u1_s, enc_ov (x := wOv (aNow a) l) l1 l2 hl (by omega)]
          refine T_astN (a := 95) rfl (show 24 + k < 42 by omega) dX7_lift_62 ?_
          rw [u1_s, u1_u1, enc_sOv (x := wOv (aNow a) l) l1 l2 hl l4 (by omega)]
          refine T_ii3 dX7_lift_63 (by first | exact nI_inc _ | exact nI_dec _ | rfl) rfl ?_
          refine T_goto 38 dX7_lift_66 (by decide) ?_
          exact h
        · intro hl
          refine T_il3 dX7_lift_38 ?_
          refine T_al0 dX7_lift_39 ?_
          refine T_g7 gX7_74 (cell_89 _ _) rfl dX7_lift_40 ?_
          rw [e2']
          refine T_nge_t 69 dX7_lift_43 (by decide) (by omega) (by omega) (by omega) ?_
          refine T_il2 dX7_lift_69 ?_
          refine T_iret rfl dX7_lift_70 ?_
          rw [s_lift, if_pos h1, hNe, if_pos ⟨h2, h3⟩]
          have := off_rest (t := nI j) l3 (fun q h1 h2 => (hz q h1 h2).1) (8 - aN a) (by omega)
          rw [show aN a + (8 - aN a) = 8 by omega] at this
          rw [this]
          exact ⟨rfl, hM1.now _, hF1.u1 (by decide)⟩
      · exact no (fun z => z.2 h3)
  · refine T_bipush (v := -2) dX7_lift_8 (by decide +kernel) ?_
    refine T_iret rfl dX7_lift_10 ?_
    rw [s_lift, if_neg (by rw [h1]; decide)]
    exact MP.rf hM
