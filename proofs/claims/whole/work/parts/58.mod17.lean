/-! THE REFERENCE READS: its clauses -/
def rtL (te : TeS) : List Int32 := (List.range 24).map (fun j => if j % 3 = 0 then (tKd te).getD (j / 3) 0 else if j % 3 = 1 then (tLn te).getD (j / 3) 0 else (tCo te).getD (j / 3) 0)
theorem rtL_len (te : TeS) : (rtL te).length = 24 := by rw [rtL, List.length_map, List.length_range]
theorem rtL_at (te : TeS) {j : Nat} (hj : j < 24) : (rtL te).getD j 0 = if j % 3 = 0 then (tKd te).getD (j / 3) 0 else if j % 3 = 1 then (tLn te).getD (j / 3) 0 else (tCo te).getD (j / 3) 0 := by
  rw [rtL, List.getD_eq_getElem?_getD, List.getElem?_map, List.getElem?_range hj]; rfl
theorem rtL_0 (te : TeS) {t : Nat} (ht : t < 8) : (rtL te).getD (3 * t) 0 = (tKd te).getD t 0 := by
  rw [rtL_at te (by omega), if_pos (by omega), show 3 * t / 3 = t by omega]
theorem rtL_1 (te : TeS) {t : Nat} (ht : t < 8) : (rtL te).getD (3 * t + 1) 0 = (tLn te).getD t 0 := by
  rw [rtL_at te (by omega), if_neg (by omega), if_pos (by omega), show (3 * t + 1) / 3 = t by omega]
theorem rtL_2 (te : TeS) {t : Nat} (ht : t < 8) : (rtL te).getD (3 * t + 2) 0 = (tCo te).getD t 0 := by
  rw [rtL_at te (by omega), if_neg (by omega), if_neg (by omega), show (3 * t + 2) / 3 = t by omega]
theorem rtL_ext {te : TeS} {l : List Int32} (hl : l.length = 24) (h : ∀ t, t < 8 → l.getD (3 * t) 0 = (tKd te).getD t 0 ∧ l.getD (3 * t + 1) 0 = (tLn te).getD t 0 ∧ l.getD (3 * t + 2) 0 = (tCo te).getD t 0) : l = rtL te := by
  refine getD_ext (by rw [hl, rtL_len]) (fun j hj => ?_)
  rw [hl] at hj
  obtain ⟨h0, h1, h2⟩ := h (j / 3) (by omega)
  have : j = 3 * (j / 3) ∨ j = 3 * (j / 3) + 1 ∨ j = 3 * (j / 3) + 2 := by omega
  rcases this with e | e | e
  · rw [e, h0, rtL_0 te (by omega)]
  · rw [e, h1, rtL_1 te (by omega)]
  · rw [e, h2, rtL_2 te (by omega)]
theorem rtL_add {te : TeS} (hn : tN te < 8) (b1 : (tKd te).length = 8) (b2 : (tLn te).length = 8) (b3 : (tCo te).length = 8) (k l c : Int32) : (((rtL te).set (3 * tN te) k).set (3 * tN te + 1) l).set (3 * tN te + 2) c = rtL (addTh te k l c) := by
  refine rtL_ext (by rw [List.length_set, List.length_set, List.length_set, rtL_len]) (fun t ht => ?_)
  show _ = ((tKd te).set (tN te) k).getD t 0 ∧ _ = ((tLn te).set (tN te) l).getD t 0 ∧ _ = ((tCo te).set (tN te) c).getD t 0
  have hl := rtL_len te
  by_cases e : tN te = t
  · subst e
    refine ⟨?_, ?_, ?_⟩
    · rw [getD_set_ne (by omega), getD_set_ne (by omega), getD_set_eq (by omega), getD_set_eq (by omega)]
    · rw [getD_set_ne (by omega), getD_set_eq (by rw [List.length_set]; omega), getD_set_eq (by omega)]
    · rw [getD_set_eq (by rw [List.length_set, List.length_set]; omega), getD_set_eq (by omega)]
  · refine ⟨?_, ?_, ?_⟩
    · rw [getD_set_ne (by omega), getD_set_ne (by omega), getD_set_ne (by omega), getD_set_ne e, rtL_0 te ht]
    · rw [getD_set_ne (by omega), getD_set_ne (by omega), getD_set_ne (by omega), getD_set_ne e, rtL_1 te ht]
    · rw [getD_set_ne (by omega), getD_set_ne (by omega), getD_set_ne (by omega), getD_set_ne e, rtL_2 te ht]
def qG (G : GT) (te : TeS) : GT := fun c => if c = 97 then rtL te else if c = 98 then tOv te else if c = 99 then tKn te else if c = 100 then tOt te else if c = 101 then tOd te else G c
theorem qG_97 (G : GT) (te : TeS) : qG G te 97 = rtL te := by simp [qG]
theorem qG_98 (G : GT) (te : TeS) : qG G te 98 = tOv te := by simp [qG]
theorem qG_99 (G : GT) (te : TeS) : qG G te 99 = tKn te := by simp [qG]
theorem qG_100 (G : GT) (te : TeS) : qG G te 100 = tOt te := by simp [qG]
theorem qG_101 (G : GT) (te : TeS) : qG G te 101 = tOd te := by simp [qG]
theorem qG_o (G : GT) (te : TeS) {c : Nat} (h : c < 97 ∨ 101 < c) : qG G te c = G c := by
  simp only [qG]; rw [if_neg (by omega), if_neg (by omega), if_neg (by omega), if_neg (by omega), if_neg (by omega)]
theorem qG_eq {G G' : GT} {te : TeS} (h1 : G' 97 = rtL te) (h2 : G' 98 = tOv te) (h3 : G' 99 = tKn te) (h4 : G' 100 = tOt te) (h5 : G' 101 = tOd te) (h6 : ∀ c, (c < 97 ∨ 101 < c) → G' c = G c) : G' = qG G te := by
  funext c
  by_cases e1 : c = 97
  · subst e1; rw [h1, qG_97]
  by_cases e2 : c = 98
  · subst e2; rw [h2, qG_98]
  by_cases e3 : c = 99
  · subst e3; rw [h3, qG_99]
  by_cases e4 : c = 100
  · subst e4; rw [h4, qG_100]
  by_cases e5 : c = 101
  · subst e5; rw [h5, qG_101]
  · rw [h6 c (by omega), qG_o G te (by omega)]
theorem qG_u98 (G : GT) (te : TeS) (l : List Int32) : u1 (qG G te) 98 l = qG G (tOvW te l) := by
  refine qG_eq ?_ (u1_s _ _ _) ?_ ?_ ?_ (fun c hc => ?_)
  · rw [u1_n _ _ (by decide), qG_97]; rfl
  · rw [u1_n _ _ (by decide), qG_99]; rfl
  · rw [u1_n _ _ (by decide), qG_100]; rfl
  · rw [u1_n _ _ (by decide), qG_101]; rfl
  · rw [u1_n _ _ (by omega), qG_o _ _ hc]
theorem qG_u99 (G : GT) (te : TeS) (l : List Int32) : u1 (qG G te) 99 l = qG G (tKnW te l) := by
  refine qG_eq ?_ ?_ (u1_s _ _ _) ?_ ?_ (fun c hc => ?_)
  · rw [u1_n _ _ (by decide), qG_97]; rfl
  · rw [u1_n _ _ (by decide), qG_98]; rfl
  · rw [u1_n _ _ (by decide), qG_100]; rfl
  · rw [u1_n _ _ (by decide), qG_101]; rfl
  · rw [u1_n _ _ (by omega), qG_o _ _ hc]
/-- what a read of a clause ends with -/
def RM (F : FT) (G : GT) (tx : List Int32) (n cl : Nat) (r : RdS) : Option Value → FT → GT → Prop := fun v F' G' => v = some (.int (bI r.1)) ∧ ∃ (pl tk : Nat) (vl : Int32) (bg : Nat), pl ≤ n ∧ F' = qF F pl tk vl bg cl r.2.1 ∧ G' = qG G r.2.1 ∧ (r.1 = true → r.2.2 = stepP tx n pl) ∧ (r.1 = false → r.2.2.1 = bg)
theorem RM.no {F : FT} {G : GT} {tx : List Int32} {n cl : Nat} {te : TeS} {p : Nat × Nat} {pl tk : Nat} {vl : Int32} {bg : Nat} (h : pl ≤ n) (hb : p.1 = bg) : RM F G tx n cl (false, te, p) (some (.int (bI false))) (qF F pl tk vl bg cl te) (qG G te) := ⟨rfl, pl, tk, vl, bg, h, rfl, rfl, (fun z => by cases z), (fun _ => hb)⟩
theorem RM.yes {F : FT} {G : GT} {tx : List Int32} {n cl : Nat} {te : TeS} {p : Nat × Nat} {pl tk : Nat} {vl : Int32} {bg : Nat} (h : pl ≤ n) (hb : p = stepP tx n pl) : RM F G tx n cl (true, te, p) (some (.int (bI true))) (qF F pl tk vl bg cl te) (qG G te) := ⟨rfl, pl, tk, vl, bg, h, rfl, rfl, fun _ => hb, fun z => by cases z⟩
theorem m1_neg : ¬ (0 : Int32) ≤ -1 := by decide
theorem num_pos {tx : List Int32} {n b e : Nat} {lo : Nat} {hi : Int32} (hlo : lo < 2 ^ 31) (h : ¬ numI tx n b e (nI lo) hi = -1) : 0 ≤ numI tx n b e (nI lo) hi := Int32.le_trans (nI_pos' hlo) (Int32.not_lt.mp (num_ge tx n b e _ _ h).1)
theorem m_readThread (d : Nat) (hd : 4 ≤ d) (F : FT) (G : GT) (tx : List Int32) (n e tk : Nat) (vl : Int32) (b cl w : Nat) (te : TeS) (hn : n ≤ 160) (hF : F 89 9 = nI n) (hG : G 96 = tx) (he : e ≤ n) (hT : TeI te) : Kc DX7_readThread d [.ref 89, .int (nI w)] (qF F e tk vl b cl te) (qG G te) (RM F G tx n cl (if tN te < 8 then thP tx n w te (stepP tx n e) else (false, te, b, e))) := by
  obtain ⟨⟨a1, a2⟩, ⟨b1, b2, b3, b4, b5, b6, b7⟩, hok, hz, -⟩ := hT
  have eN : tN te = te.1 := rfl
  have eM : tM te = te.2.1 := rfl
  have hG' : qG G te 96 = tx := by rw [qG_o _ _ (by omega)]; exact hG
  have s1 := stepP_le tx he
  have s2 := stepP_le tx s1.2.2.2
  refine Kc.ofT [some (.ref 89), some (.int (nI w)), none, none] pn_X7 (Nat.le_of_ble_eq_true rfl) rfl ?_
  refine T_al0 dX7_readThread_0 ?_
  refine T_g7 gX7_128 (cell_89 _ _) rfl dX7_readThread_1 ?_
  rw [q14]
  refine T_bipush (v := nI 8) dX7_readThread_4 (by decide +kernel) ?_
  refine T_nne 11 dX7_readThread_6 (by decide) (by omega) (by omega) (fun h1 => ?_) (fun h1 => ?_)
  · rw [if_pos (show tN te < 8 by omega)]
    have hn8 : tN te < 8 := by omega
    refine T_al0 dX7_readThread_11 ?_
    refine T_iconst (v := nI 1) dX7_readThread_12 rfl ?_
    refine T_bipush (v := nI 60) dX7_readThread_13 (by decide +kernel) ?_
    refine T_cV2 lX7_131 rfl (by decide) (cell_89 _ _) (m_number _ (by omega) F _ tx n e tk vl b cl te hn hF hG' he (nI 1) (nI 60) (by decide)) (by omega) (Nat.le_of_ble_eq_true rfl) dX7_readThread_15 (fun v F' G' hP => ?_)
    obtain ⟨rfl, rfl, rfl⟩ := hP
    rw [thP]
    by_cases h2 : numI tx n (stepP tx n e).1 (stepP tx n e).2 (nI 1) (nI 60) = -1
    · rw [if_pos h2, h2]
      refine T_is2 dX7_readThread_18 rfl ?_
      refine T_il2 dX7_readThread_19 ?_
      refine T_if_ge_f 27 dX7_readThread_20 (by decide) m1_neg ?_
      refine T_iconst (v := -1) dX7_readThread_23 rfl ?_
      refine T_goto 33 dX7_readThread_24 (by decide) ?_
      refine T_is3 dX7_readThread_33 rfl ?_
      refine T_il3 dX7_readThread_34 ?_
      refine T_if_ge_f 40 dX7_readThread_35 (by decide) m1_neg ?_
      refine T_iconst (v := nI 0) dX7_readThread_38 rfl ?_
      refine T_bret0 rfl dX7_readThread_39 ?_
      exact RM.no s1.2.2.2 rfl
    · rw [if_neg h2]
      have p2 := num_pos (by decide) h2
      refine T_is2 dX7_readThread_18 rfl ?_
      refine T_il2 dX7_readThread_19 ?_
      refine T_if_ge_t 27 dX7_readThread_20 (by decide) p2 ?_
      refine T_al0 dX7_readThread_27 ?_
      refine T_iconst (v := nI 0) dX7_readThread_28 rfl ?_
      refine T_iconst (v := nI 3) dX7_readThread_29 rfl ?_
      refine T_cV2 lX7_131 rfl (by decide) (cell_89 _ _) (m_number _ (by omega) F _ tx n _ _ _ _ cl te hn hF hG' s1.2.2.2 (nI 0) (nI 3) (by decide)) (by omega) (Nat.le_of_ble_eq_true rfl) dX7_readThread_30 (fun v F' G' hP => ?_)
      obtain ⟨rfl, rfl, rfl⟩ := hP
      by_cases h3 : numI tx n (stepP tx n (stepP tx n e).2).1 (stepP tx n (stepP tx n e).2).2 (nI 0) (nI 3) = -1
      · rw [if_pos h3, h3]
        refine T_is3 dX7_readThread_33 rfl ?_
        refine T_il3 dX7_readThread_34 ?_
        refine T_if_ge_f 40 dX7_readThread_35 (by decide) m1_neg ?_
        refine T_iconst (v := nI 0) dX7_readThread_38 rfl ?_
        refine T_bret0 rfl dX7_readThread_39 ?_
        exact RM.no s2.2.2.2 rfl
      · rw [if_neg h3]
        have p3 := num_pos (by decide) h3
        generalize numI tx n (stepP tx n e).1 (stepP tx n e).2 (nI 1) (nI 60) = v1
        generalize hv2 : numI tx n (stepP tx n (stepP tx n e).2).1 (stepP tx n (stepP tx n e).2).2 (nI 0) (nI 3) = v2 at p3 ⊢
        refine T_is3 dX7_readThread_33 rfl ?_
        refine T_il3 dX7_readThread_34 ?_
        refine T_if_ge_t 40 dX7_readThread_35 (by decide) p3 ?_
        refine T_al0 dX7_readThread_40 ?_
        refine T_g7 gX7_31 (cell_89 _ _) rfl dX7_readThread_41 ?_
        refine T_iconst (v := nI 3) dX7_readThread_44 rfl ?_
        refine T_al0 dX7_readThread_45 ?_
        refine T_g7 gX7_128 (cell_89 _ _) rfl dX7_readThread_46 ?_
        rw [q14]
        first | refine T_imulN dX7_readThread_49 ?_ | refine T_imul dX7_readThread_49 ?_
        refine T_il1 dX7_readThread_50 ?_
        refine T_astN (a := 97) rfl (show 3 * te.1 < 24 by have : te.1 < 8 := hn8; omega) dX7_readThread_51 ?_
        rw [qG_97]
        refine T_al0 dX7_readThread_52 ?_
        refine T_g7 gX7_31 (cell_89 _ _) rfl dX7_readThread_53 ?_
        refine T_iconst (v := nI 3) dX7_readThread_56 rfl ?_
        refine T_al0 dX7_readThread_57 ?_
        refine T_g7 gX7_128 (cell_89 _ _) rfl dX7_readThread_58 ?_
        rw [q14]
        first | refine T_imulN dX7_readThread_61 ?_ | refine T_imul dX7_readThread_61 ?_
        refine T_iconst (v := nI 1) dX7_readThread_62 rfl ?_
        first | refine T_iaddN dX7_readThread_63 ?_ | refine T_iadd dX7_readThread_63 ?_
        refine T_il2 dX7_readThread_64 ?_
        refine T_astN (a := 97) rfl (show 3 * te.1 + 1 < 24 by have : te.1 < 8 := hn8; omega) dX7_readThread_65 ?_
        rw [u1_s, u1_u1]
        refine T_al0 dX7_readThread_66 ?_
        refine T_g7 gX7_31 (cell_89 _ _) rfl dX7_readThread_67 ?_
        refine T_iconst (v := nI 3) dX7_readThread_70 rfl ?_
        refine T_al0 dX7_readThread_71 ?_
        refine T_g7 gX7_128 (cell_89 _ _) rfl dX7_readThread_72 ?_
        rw [q14]
        first | refine T_imulN dX7_readThread_75 ?_ | refine T_imul dX7_readThread_75 ?_
        refine T_iconst (v := nI 2) dX7_readThread_76 rfl ?_
        first | refine T_iaddN dX7_readThread_77 ?_ | refine T_iadd dX7_readThread_77 ?_
        refine T_il3 dX7_readThread_78 ?_
        refine T_astN (a := 97) rfl (show 3 * te.1 + 2 < 24 by have : te.1 < 8 := hn8; omega) dX7_readThread_79 ?_
        rw [u1_s, u1_u1, rtL_add hn8 b1 b2 b3]
        refine T_al0 dX7_readThread_80 ?_
        refine T_g7 gX7_34 (cell_89 _ _) rfl dX7_readThread_81 ?_
        refine T_al0 dX7_readThread_84 ?_
        refine T_g7 gX7_128 (cell_89 _ _) rfl dX7_readThread_85 ?_
        rw [q14]
        refine T_iconst (v := nI 0) dX7_readThread_88 rfl ?_
        refine T_astN (a := 98) rfl (show te.1 < 8 from hn8) dX7_readThread_89 ?_
        rw [u1_n _ _ (show (98 : Nat) ≠ 97 by decide), qG_98, set_self (l := tOv te) (q := te.1) (nI 0) ((hz _ (Nat.le_refl _) hn8).1.trans nI_0.symm) (by rw [b4]; exact hn8)]
        refine T_al0 dX7_readThread_90 ?_
        refine T_g7 gX7_37 (cell_89 _ _) rfl dX7_readThread_91 ?_
        refine T_al0 dX7_readThread_94 ?_
        refine T_g7 gX7_128 (cell_89 _ _) rfl dX7_readThread_95 ?_
        rw [q14]
        refine T_iconst (v := nI 0) dX7_readThread_98 rfl ?_
        refine T_astN (a := 99) rfl (show te.1 < 8 from hn8) dX7_readThread_99 ?_
        rw [u1_n _ _ (show (99 : Nat) ≠ 98 by decide), u1_n _ _ (show (99 : Nat) ≠ 97 by decide), qG_99, set_self (l := tKn te) (q := te.1) (nI 0) ((hz _ (Nat.le_refl _) hn8).2.trans nI_0.symm) (by rw [b5]; exact hn8)]
        refine T_al0 dX7_readThread_100 ?_
        refine T_dup dX7_readThread_101 rfl ?_
        refine T_g7 gX7_128 (cell_89 _ _) rfl dX7_readThread_102 ?_
        rw [q14]
        refine T_iconst (v := nI 1) dX7_readThread_105 rfl ?_
        first | refine T_iaddN dX7_readThread_106 ?_ | refine T_iadd dX7_readThread_106 ?_
        refine T_put7_14 pX7_128 dX7_readThread_107 ?_
        rw [qu14]
        refine T_iconst (v := nI 1) dX7_readThread_110 rfl ?_
        refine T_bret1 rfl dX7_readThread_111 ?_
        have eG : u1 (u1 (u1 (qG G te) 97 (rtL (addTh te (nI w) v1 v2))) 98 (tOv te)) 99 (tKn te) = qG G (addTh te (nI w) v1 v2) := by
          refine qG_eq ?_ ?_ (u1_s _ _ _) ?_ ?_ (fun c hc => ?_)
          · rw [u1_n _ _ (by decide), u1_n _ _ (by decide), u1_s]
          · rw [u1_n _ _ (by decide), u1_s]; rfl
          · rw [u1_n _ _ (by decide), u1_n _ _ (by decide), u1_n _ _ (by decide), qG_100]; rfl
          · rw [u1_n _ _ (by decide), u1_n _ _ (by decide), u1_n _ _ (by decide), qG_101]; rfl
          · rw [u1_n _ _ (by omega), u1_n _ _ (by omega), u1_n _ _ (by omega), qG_o _ _ hc]
        rw [eG]
        exact RM.yes s2.2.2.2 rfl
  · rw [if_neg (show ¬ tN te < 8 by omega)]
    refine T_iconst (v := nI 0) dX7_readThread_9 rfl ?_
    refine T_bret0 rfl dX7_readThread_10 ?_
    exact RM.no he rfl
theorem n_lt999 : ∀ k, k < 9 → nI k - nI 1 < nI 999 := by decide +kernel
theorem m_readTwo7 (d : Nat) (hd : 4 ≤ d) (F : FT) (G : GT) (tx : List Int32) (n e tk : Nat) (vl : Int32) (b cl : Nat) (te : TeS) (hn : n ≤ 160) (hF : F 89 9 = nI n) (hG : G 96 = tx) (he : e ≤ n) (hT : TeI te) : Kc DX7_readTwo d [.ref 89, .int (nI 7)] (qF F e tk vl b cl te) (qG G te) (RM F G tx n cl (if tM te < 6 then orP tx n te (stepP tx n e) else (false, te, b, e))) := by
  obtain ⟨⟨a1, a2⟩, ⟨b1, b2, b3, b4, b5, b6, b7⟩, hok, hz, -⟩ := hT
  have eN : tN te = te.1 := rfl
  have eM : tM te = te.2.1 := rfl
  have hG' : qG G te 96 = tx := by rw [qG_o _ _ (by omega)]; exact hG
  have s1 := stepP_le tx he
  have s2 := stepP_le tx s1.2.2.2
  refine Kc.ofT [some (.ref 89), some (.int (nI 7)), none, none] pn_X7 (Nat.le_of_ble_eq_true rfl) rfl ?_
  refine T_il1 dX7_readTwo_0 ?_
  refine T_bipush (v := nI 7) dX7_readTwo_1 (by decide +kernel) ?_
  refine T_nne_f 17 dX7_readTwo_3 (by decide) (by omega) (by omega) (by omega) ?_
  refine T_al0 dX7_readTwo_6 ?_
  refine T_g7 gX7_135 (cell_89 _ _) rfl dX7_readTwo_7 ?_
  rw [q18]
  refine T_bipush (v := nI 6) dX7_readTwo_10 (by decide +kernel) ?_
  refine T_nne 17 dX7_readTwo_12 (by decide) (by omega) (by omega) (fun h1 => ?_) (fun h1 => ?_)
  · have hm6 : tM te < 6 := by omega
    rw [if_pos hm6]
    refine T_al0 dX7_readTwo_17 ?_
    refine T_iconst (v := nI 0) dX7_readTwo_18 rfl ?_
    refine T_al0 dX7_readTwo_19 ?_
    refine T_g7 gX7_128 (cell_89 _ _) rfl dX7_readTwo_20 ?_
    rw [q14]
    refine T_iconst (v := nI 1) dX7_readTwo_23 rfl ?_
    refine T_isub dX7_readTwo_24 ?_
    refine T_cV2 lX7_131 rfl (by decide) (cell_89 _ _) (m_number _ (by omega) F _ tx n e tk vl b cl te hn hF hG' he (nI 0) (nI te.1 - nI 1) (n_lt999 _ (by omega))) (by omega) (Nat.le_of_ble_eq_true rfl) dX7_readTwo_25 (fun v F' G' hP => ?_)
    obtain ⟨rfl, rfl, rfl⟩ := hP
    rw [orP, n1I]
    by_cases h2 : numI tx n (stepP tx n e).1 (stepP tx n e).2 (nI 0) (nI te.1 - nI 1) = -1
    · rw [if_pos h2, h2]
      refine T_is2 dX7_readTwo_28 rfl ?_
      refine T_il2 dX7_readTwo_29 ?_
      refine T_if_ge_f 37 dX7_readTwo_30 (by decide) m1_neg ?_
      refine T_iconst (v := -1) dX7_readTwo_33 rfl ?_
      refine T_goto 59 dX7_readTwo_34 (by decide) ?_
      refine T_is3 dX7_readTwo_59 rfl ?_
      refine T_il3 dX7_readTwo_60 ?_
      refine T_if_lt_t 92 dX7_readTwo_61 (by decide) (by decide) ?_
      refine T_iconst (v := nI 0) dX7_readTwo_92 rfl ?_
      refine T_bret0 rfl dX7_readTwo_93 ?_
      exact RM.no s1.2.2.2 rfl
    · rw [if_neg h2]
      have p2 := num_pos (by decide) h2
      refine T_is2 dX7_readTwo_28 rfl ?_
      refine T_il2 dX7_readTwo_29 ?_
      refine T_if_ge_t 37 dX7_readTwo_30 (by decide) p2 ?_
      refine T_al0 dX7_readTwo_37 ?_
      refine T_iconst (v := nI 0) dX7_readTwo_38 rfl ?_
      refine T_il1 dX7_readTwo_39 ?_
      refine T_bipush (v := nI 7) dX7_readTwo_40 (by decide +kernel) ?_
      refine T_nne_f 50 dX7_readTwo_42 (by decide) (by omega) (by omega) (by omega) ?_
      refine T_bipush (v := nI 99) dX7_readTwo_45 (by decide +kernel) ?_
      refine T_goto 56 dX7_readTwo_47 (by decide) ?_
      refine T_cV2 lX7_131 rfl (by decide) (cell_89 _ _) (m_number _ (by omega) F _ tx n _ _ _ _ cl te hn hF hG' s1.2.2.2 (nI 0) (nI 99) (by decide)) (by omega) (Nat.le_of_ble_eq_true rfl) dX7_readTwo_56 (fun v F' G' hP => ?_)
      obtain ⟨rfl, rfl, rfl⟩ := hP
      by_cases h3 : numI tx n (stepP tx n (stepP tx n e).2).1 (stepP tx n (stepP tx n e).2).2 (nI 0) (nI 99) = -1
      · rw [if_pos h3, h3]
        refine T_is3 dX7_readTwo_59 rfl ?_
        refine T_il3 dX7_readTwo_60 ?_
        refine T_if_lt_t 92 dX7_readTwo_61 (by decide) (by decide) ?_
        refine T_iconst (v := nI 0) dX7_readTwo_92 rfl ?_
        refine T_bret0 rfl dX7_readTwo_93 ?_
        exact RM.no s2.2.2.2 rfl
      · rw [if_neg h3]
        have p3 := num_pos (by decide) h3
        generalize numI tx n (stepP tx n e).1 (stepP tx n e).2 (nI 0) (nI te.1 - nI 1) = v1
        generalize hv2 : numI tx n (stepP tx n (stepP tx n e).2).1 (stepP tx n (stepP tx n e).2).2 (nI 0) (nI 99) = v2 at p3 ⊢
        refine T_is3 dX7_readTwo_59 rfl ?_
        refine T_il3 dX7_readTwo_60 ?_
        refine T_if_lt_f 92 dX7_readTwo_61 (by decide) (Int32.not_lt.mpr p3) ?_
        refine T_il1 dX7_readTwo_64 ?_
        refine T_bipush (v := nI 7) dX7_readTwo_65 (by decide +kernel) ?_
        refine T_nge_t 75 dX7_readTwo_67 (by decide) (by omega) (by omega) (by omega) ?_
        refine T_il1 dX7_readTwo_75 ?_
        refine T_iconst (v := nI 5) dX7_readTwo_76 rfl ?_
        refine T_nne_t 94 dX7_readTwo_77 (by decide) (by omega) (by omega) (by omega) ?_
        refine T_il1 dX7_readTwo_94 ?_
        refine T_iconst (v := nI 5) dX7_readTwo_95 rfl ?_
        refine T_nne_t 114 dX7_readTwo_96 (by decide) (by omega) (by omega) (by omega) ?_
        refine T_il1 dX7_readTwo_114 ?_
        refine T_bipush (v := nI 6) dX7_readTwo_115 (by decide +kernel) ?_
        refine T_nne_t 147 dX7_readTwo_117 (by decide) (by omega) (by omega) (by omega) ?_
        refine T_al0 dX7_readTwo_147 ?_
        refine T_g7 gX7_40 (cell_89 _ _) rfl dX7_readTwo_148 ?_
        refine T_al0 dX7_readTwo_151 ?_
        refine T_g7 gX7_135 (cell_89 _ _) rfl dX7_readTwo_152 ?_
        rw [q18]
        refine T_il2 dX7_readTwo_155 ?_
        refine T_astN (a := 100) rfl (show te.2.1 < 6 from hm6) dX7_readTwo_156 ?_
        rw [qG_100]
        refine T_al0 dX7_readTwo_157 ?_
        refine T_g7 gX7_43 (cell_89 _ _) rfl dX7_readTwo_158 ?_
        refine T_al0 dX7_readTwo_161 ?_
        refine T_g7 gX7_135 (cell_89 _ _) rfl dX7_readTwo_162 ?_
        rw [q18]
        refine T_il3 dX7_readTwo_165 ?_
        refine T_astN (a := 101) rfl (show te.2.1 < 6 from hm6) dX7_readTwo_166 ?_
        rw [u1_n _ _ (show (101 : Nat) ≠ 100 by decide), qG_101]
        refine T_al0 dX7_readTwo_167 ?_
        refine T_dup dX7_readTwo_168 rfl ?_
        refine T_g7 gX7_135 (cell_89 _ _) rfl dX7_readTwo_169 ?_
        rw [q18]
        refine T_iconst (v := nI 1) dX7_readTwo_172 rfl ?_
        first | refine T_iaddN dX7_readTwo_173 ?_ | refine T_iadd dX7_readTwo_173 ?_
        refine T_put7_18 pX7_135 dX7_readTwo_174 ?_
        rw [qu18]
        refine T_iconst (v := nI 1) dX7_readTwo_177 rfl ?_
        refine T_bret1 rfl dX7_readTwo_178 ?_
        have eG : u1 (u1 (qG G te) 100 ((tOt te).set te.2.1 v1)) 101 ((tOd te).set te.2.1 v2) = qG G (addOr te v1 v2) := by
          refine qG_eq ?_ ?_ ?_ ?_ (u1_s _ _ _) (fun c hc => ?_)
          · rw [u1_n _ _ (by decide), u1_n _ _ (by decide), qG_97]; rfl
          · rw [u1_n _ _ (by decide), u1_n _ _ (by decide), qG_98]; rfl
          · rw [u1_n _ _ (by decide), u1_n _ _ (by decide), qG_99]; rfl
          · rw [u1_n _ _ (by decide), u1_s]; rfl
          · rw [u1_n _ _ (by omega), u1_n _ _ (by omega), qG_o _ _ hc]
        rw [eG]
        exact RM.yes s2.2.2.2 rfl
  · rw [if_neg (show ¬ tM te < 6 by omega)]
    refine T_iconst (v := nI 0) dX7_readTwo_15 rfl ?_
    refine T_bret0 rfl dX7_readTwo_16 ?_
    exact RM.no he rfl
theorem m_readTwo5 (d : Nat) (hd : 4 ≤ d) (F : FT) (G : GT) (tx : List Int32) (n e tk : Nat) (vl : Int32) (b cl : Nat) (te : TeS) (hn : n ≤ 160) (hF : F 89 9 = nI n) (hG : G 96 = tx) (he : e ≤ n) (hT : TeI te) : Kc DX7_readTwo d [.ref 89, .int (nI 5)] (qF F e tk vl b cl te) (qG G te) (RM F G tx n cl (ovP tx n te (stepP tx n e))) := by
  obtain ⟨⟨a1, a2⟩, ⟨b1, b2, b3, b4, b5, b6, b7⟩, hok, hz, -⟩ := hT
  have eN : tN te = te.1 := rfl
  have eM : tM te = te.2.1 := rfl
  have hG' : qG G te 96 = tx := by rw [qG_o _ _ (by omega)]; exact hG
  have s1 := stepP_le tx he
  have s2 := stepP_le tx s1.2.2.2
  refine Kc.ofT [some (.ref 89), some (.int (nI 5)), none, none] pn_X7 (Nat.le_of_ble_eq_true rfl) rfl ?_
  refine T_il1 dX7_readTwo_0 ?_
  refine T_bipush (v := nI 7) dX7_readTwo_1 (by decide +kernel) ?_
  refine T_nne_t 17 dX7_readTwo_3 (by decide) (by omega) (by omega) (by omega) ?_
  refine T_al0 dX7_readTwo_17 ?_
  refine T_iconst (v := nI 0) dX7_readTwo_18 rfl ?_
  refine T_al0 dX7_readTwo_19 ?_
  refine T_g7 gX7_128 (cell_89 _ _) rfl dX7_readTwo_20 ?_
  rw [q14]
  refine T_iconst (v := nI 1) dX7_readTwo_23 rfl ?_
  refine T_isub dX7_readTwo_24 ?_
  refine T_cV2 lX7_131 rfl (by decide) (cell_89 _ _) (m_number _ (by omega) F _ tx n e tk vl b cl te hn hF hG' he (nI 0) (nI te.1 - nI 1) (n_lt999 _ (by omega))) (by omega) (Nat.le_of_ble_eq_true rfl) dX7_readTwo_25 (fun v F' G' hP => ?_)
  obtain ⟨rfl, rfl, rfl⟩ := hP
  rw [ovP]
  by_cases h2 : n1I tx n te (stepP tx n e) = -1
  · rw [if_pos h2, show numI tx n (stepP tx n e).1 (stepP tx n e).2 (nI 0) (nI te.1 - nI 1) = -1 from h2]
    refine T_is2 dX7_readTwo_28 rfl ?_
    refine T_il2 dX7_readTwo_29 ?_
    refine T_if_ge_f 37 dX7_readTwo_30 (by decide) m1_neg ?_
    refine T_iconst (v := -1) dX7_readTwo_33 rfl ?_
    refine T_goto 59 dX7_readTwo_34 (by decide) ?_
    refine T_is3 dX7_readTwo_59 rfl ?_
    refine T_il3 dX7_readTwo_60 ?_
    refine T_if_lt_t 92 dX7_readTwo_61 (by decide) (by decide) ?_
    refine T_iconst (v := nI 0) dX7_readTwo_92 rfl ?_
    refine T_bret0 rfl dX7_readTwo_93 ?_
    exact RM.no s1.2.2.2 rfl
  · rw [if_neg h2]
    obtain ⟨i, hi, ei⟩ := n1_ok a1 h2
    rw [show numI tx n (stepP tx n e).1 (stepP tx n e).2 (nI 0) (nI te.1 - nI 1) = nI i from ei, ei]
    refine T_is2 dX7_readTwo_28 rfl ?_
    refine T_il2 dX7_readTwo_29 ?_
    refine T_if_ge_t 37 dX7_readTwo_30 (by decide) (nI_pos' (by omega)) ?_
    refine T_al0 dX7_readTwo_37 ?_
    refine T_iconst (v := nI 0) dX7_readTwo_38 rfl ?_
    refine T_il1 dX7_readTwo_39 ?_
    refine T_bipush (v := nI 7) dX7_readTwo_40 (by decide +kernel) ?_
    refine T_nne_t 50 dX7_readTwo_42 (by decide) (by omega) (by omega) (by omega) ?_
    refine T_al0 dX7_readTwo_50 ?_
    refine T_g7 gX7_128 (cell_89 _ _) rfl dX7_readTwo_51 ?_
    rw [q14]
    refine T_iconst (v := nI 1) dX7_readTwo_54 rfl ?_
    refine T_isub dX7_readTwo_55 ?_
    refine T_cV2 lX7_131 rfl (by decide) (cell_89 _ _) (m_number _ (by omega) F _ tx n _ _ _ _ cl te hn hF hG' s1.2.2.2 (nI 0) (nI te.1 - nI 1) (n_lt999 _ (by omega))) (by omega) (Nat.le_of_ble_eq_true rfl) dX7_readTwo_56 (fun v F' G' hP => ?_)
    obtain ⟨rfl, rfl, rfl⟩ := hP
    by_cases h3 : n1I tx n te (stepP tx n (stepP tx n e).2) = -1
    · rw [if_pos (Or.inl h3), show numI tx n (stepP tx n (stepP tx n e).2).1 (stepP tx n (stepP tx n e).2).2 (nI 0) (nI te.1 - nI 1) = -1 from h3]
      refine T_is3 dX7_readTwo_59 rfl ?_
      refine T_il3 dX7_readTwo_60 ?_
      refine T_if_lt_t 92 dX7_readTwo_61 (by decide) (by decide) ?_
      refine T_iconst (v := nI 0) dX7_readTwo_92 rfl ?_
      refine T_bret0 rfl dX7_readTwo_93 ?_
      exact RM.no s2.2.2.2 rfl
    · obtain ⟨j, hj, ej⟩ := n1_ok (p := stepP tx n (stepP tx n e).2) a1 h3
      rw [show numI tx n (stepP tx n (stepP tx n e).2).1 (stepP tx n (stepP tx n e).2).2 (nI 0) (nI te.1 - nI 1) = nI j from ej, ej]
      have no : ringB (tOv te) (nI i) (nI j) = true → ∀ pl tk vl, pl ≤ n → T DX7_readTwo d 92 [some (.ref 89), some (.int (nI 5)), some (.int (nI i)), some (.int (nI j))] [] (qF F pl tk vl (stepP tx n (stepP tx n e).2).1 cl te) (qG G te) (RM F G tx n cl (if nI j = -1 ∨ ringB (tOv te) (nI i) (nI j) = true then (false, te, stepP tx n (stepP tx n e).2) else (true, tOvW te ((tOv te).set (sv (nI j)) ((tOv te).getD (sv (nI j)) 0 ||| bitI (nI i))), stepP tx n (stepP tx n (stepP tx n e).2).2))) := by
        intro hr pl tk vl hpl
        refine T_iconst (v := nI 0) dX7_readTwo_92 rfl ?_
        refine T_bret0 rfl dX7_readTwo_93 ?_
        rw [if_pos (Or.inr hr)]
        exact RM.no hpl rfl
      refine T_is3 dX7_readTwo_59 rfl ?_
      refine T_il3 dX7_readTwo_60 ?_
      refine T_if_lt_f 92 dX7_readTwo_61 (by decide) (nI_pos (by omega)) ?_
      refine T_il1 dX7_readTwo_64 ?_
      refine T_bipush (v := nI 7) dX7_readTwo_65 (by decide +kernel) ?_
      refine T_nge_f 75 dX7_readTwo_67 (by decide) (by omega) (by omega) (by omega) ?_
      refine T_il2 dX7_readTwo_70 ?_
      refine T_il3 dX7_readTwo_71 ?_
      refine T_neq 92 dX7_readTwo_72 (by decide) (by omega) (by omega) (fun h4 => ?_) (fun h4 => ?_)
      · exact no (by rw [h4]; exact ring_self hok.1 (by omega)) _ _ _ s2.2.2.2
      · refine T_il1 dX7_readTwo_75 ?_
        refine T_iconst (v := nI 5) dX7_readTwo_76 rfl ?_
        refine T_nne_f 94 dX7_readTwo_77 (by decide) (by omega) (by omega) (by omega) ?_
        refine T_al0 dX7_readTwo_80 ?_
        refine T_g7 gX7_34 (cell_89 _ _) rfl dX7_readTwo_81 ?_
        refine T_il3 dX7_readTwo_84 ?_
        refine T_il2 dX7_readTwo_85 ?_
        refine T_pS3 lX7_138 (m_isAbove _ (by omega) _ _ 98 rfl rfl (nI j) i (by omega)) (by omega) (Nat.le_of_ble_eq_true rfl) dX7_readTwo_86 ?_
        rw [qG_98, ab_ring hok.1 (by omega) (by omega) h4]
        refine T_beq 94 dX7_readTwo_89 (by decide) (fun h5 => ?_) (fun h5 => ?_)
        · rw [if_neg (fun z => z.elim (fun z => absurd (ej.trans z) h3) (fun z => by rw [z] at h5; cases h5)), sv_nI (by omega)]
          refine T_il1 dX7_readTwo_94 ?_
          refine T_iconst (v := nI 5) dX7_readTwo_95 rfl ?_
          refine T_nne_f 114 dX7_readTwo_96 (by decide) (by omega) (by omega) (by omega) ?_
          refine T_al0 dX7_readTwo_99 ?_
          refine T_g7 gX7_34 (cell_89 _ _) rfl dX7_readTwo_100 ?_
          refine T_il3 dX7_readTwo_103 ?_
          refine T_dup2 dX7_readTwo_104 rfl rfl ?_
          refine T_aldN rfl (show _ < 8 by omega) dX7_readTwo_105 ?_
          refine T_iconst (v := nI 1) dX7_readTwo_106 rfl ?_
          refine T_il2 dX7_readTwo_107 ?_
          refine T_ishl dX7_readTwo_108 ?_
          refine T_ior dX7_readTwo_109 ?_
          rw [qG_98]
          refine T_astN (a := 98) rfl (show j < 8 by omega) dX7_readTwo_110 ?_
          rw [qG_98, qG_u98]
          refine T_goto 177 dX7_readTwo_111 (by decide) ?_
          refine T_iconst (v := nI 1) dX7_readTwo_177 rfl ?_
          refine T_bret1 rfl dX7_readTwo_178 ?_
          exact RM.yes s2.2.2.2 rfl
        · exact no h5 _ _ _ s2.2.2.2
theorem m_readTwo6 (d : Nat) (hd : 4 ≤ d) (F : FT) (G : GT) (tx : List Int32) (n e tk : Nat) (vl : Int32) (b cl : Nat) (te : TeS) (hn : n ≤ 160) (hF : F 89 9 = nI n) (hG : G 96 = tx) (he : e ≤ n) (hT : TeI te) : Kc DX7_readTwo d [.ref 89, .int (nI 6)] (qF F e tk vl b cl te) (qG G te) (RM F G tx n cl (knP tx n te (stepP tx n e))) := by
  obtain ⟨⟨a1, a2⟩, ⟨b1, b2, b3, b4, b5, b6, b7⟩, hok, hz, -⟩ := hT
  have eN : tN te = te.1 := rfl
  have eM : tM te = te.2.1 := rfl
  have hG' : qG G te 96 = tx := by rw [qG_o _ _ (by omega)]; exact hG
  have s1 := stepP_le tx he
  have s2 := stepP_le tx s1.2.2.2
  refine Kc.ofT [some (.ref 89), some (.int (nI 6)), none, none] pn_X7 (Nat.le_of_ble_eq_true rfl) rfl ?_
  refine T_il1 dX7_readTwo_0 ?_
  refine T_bipush (v := nI 7) dX7_readTwo_1 (by decide +kernel) ?_
  refine T_nne_t 17 dX7_readTwo_3 (by decide) (by omega) (by omega) (by omega) ?_
  refine T_al0 dX7_readTwo_17 ?_
  refine T_iconst (v := nI 0) dX7_readTwo_18 rfl ?_
  refine T_al0 dX7_readTwo_19 ?_
  refine T_g7 gX7_128 (cell_89 _ _) rfl dX7_readTwo_20 ?_
  rw [q14]
  refine T_iconst (v := nI 1) dX7_readTwo_23 rfl ?_
  refine T_isub dX7_readTwo_24 ?_
  refine T_cV2 lX7_131 rfl (by decide) (cell_89 _ _) (m_number _ (by omega) F _ tx n e tk vl b cl te hn hF hG' he (nI 0) (nI te.1 - nI 1) (n_lt999 _ (by omega))) (by omega) (Nat.le_of_ble_eq_true rfl) dX7_readTwo_25 (fun v F' G' hP => ?_)
  obtain ⟨rfl, rfl, rfl⟩ := hP
  rw [knP]
  by_cases h2 : n1I tx n te (stepP tx n e) = -1
  · rw [if_pos h2, show numI tx n (stepP tx n e).1 (stepP tx n e).2 (nI 0) (nI te.1 - nI 1) = -1 from h2]
    refine T_is2 dX7_readTwo_28 rfl ?_
    refine T_il2 dX7_readTwo_29 ?_
    refine T_if_ge_f 37 dX7_readTwo_30 (by decide) m1_neg ?_
    refine T_iconst (v := -1) dX7_readTwo_33 rfl ?_
    refine T_goto 59 dX7_readTwo_34 (by decide) ?_
    refine T_is3 dX7_readTwo_59 rfl ?_
    refine T_il3 dX7_readTwo_60 ?_
    refine T_if_lt_t 92 dX7_readTwo_61 (by decide) (by decide) ?_
    refine T_iconst (v := nI 0) dX7_readTwo_92 rfl ?_
    refine T_bret0 rfl dX7_readTwo_93 ?_
    exact RM.no s1.2.2.2 rfl
  · rw [if_neg h2]
    obtain ⟨i, hi, ei⟩ := n1_ok a1 h2
    rw [show numI tx n (stepP tx n e).1 (stepP tx n e).2 (nI 0) (nI te.1 - nI 1) = nI i from ei, ei]
    refine T_is2 dX7_readTwo_28 rfl ?_
    refine T_il2 dX7_readTwo_29 ?_
    refine T_if_ge_t 37 dX7_readTwo_30 (by decide) (nI_pos' (by omega)) ?_
    refine T_al0 dX7_readTwo_37 ?_
    refine T_iconst (v := nI 0) dX7_readTwo_38 rfl ?_
    refine T_il1 dX7_readTwo_39 ?_
    refine T_bipush (v := nI 7) dX7_readTwo_40 (by decide +kernel) ?_
    refine T_nne_t 50 dX7_readTwo_42 (by decide) (by omega) (by omega) (by omega) ?_
    refine T_al0 dX7_readTwo_50 ?_
    refine T_g7 gX7_128 (cell_89 _ _) rfl dX7_readTwo_51 ?_
    rw [q14]
    refine T_iconst (v := nI 1) dX7_readTwo_54 rfl ?_
    refine T_isub dX7_readTwo_55 ?_
    refine T_cV2 lX7_131 rfl (by decide) (cell_89 _ _) (m_number _ (by omega) F _ tx n _ _ _ _ cl te hn hF hG' s1.2.2.2 (nI 0) (nI te.1 - nI 1) (n_lt999 _ (by omega))) (by omega) (Nat.le_of_ble_eq_true rfl) dX7_readTwo_56 (fun v F' G' hP => ?_)
    obtain ⟨rfl, rfl, rfl⟩ := hP
    by_cases h3 : n1I tx n te (stepP tx n (stepP tx n e).2) = -1
    · rw [if_pos (Or.inl h3), show numI tx n (stepP tx n (stepP tx n e).2).1 (stepP tx n (stepP tx n e).2).2 (nI 0) (nI te.1 - nI 1) = -1 from h3]
      refine T_is3 dX7_readTwo_59 rfl ?_
      refine T_il3 dX7_readTwo_60 ?_
      refine T_if_lt_t 92 dX7_readTwo_61 (by decide) (by decide) ?_
      refine T_iconst (v := nI 0) dX7_readTwo_92 rfl ?_
      refine T_bret0 rfl dX7_readTwo_93 ?_
      exact RM.no s2.2.2.2 rfl
    · obtain ⟨j, hj, ej⟩ := n1_ok (p := stepP tx n (stepP tx n e).2) a1 h3
      rw [show numI tx n (stepP tx n (stepP tx n e).2).1 (stepP tx n (stepP tx n e).2).2 (nI 0) (nI te.1 - nI 1) = nI j from ej, ej]
      refine T_is3 dX7_readTwo_59 rfl ?_
      refine T_il3 dX7_readTwo_60 ?_
      refine T_if_lt_f 92 dX7_readTwo_61 (by decide) (nI_pos (by omega)) ?_
      refine T_il1 dX7_readTwo_64 ?_
      refine T_bipush (v := nI 7) dX7_readTwo_65 (by decide +kernel) ?_
      refine T_nge_f 75 dX7_readTwo_67 (by decide) (by omega) (by omega) (by omega) ?_
      refine T_il2 dX7_readTwo_70 ?_
      refine T_il3 dX7_readTwo_71 ?_
      refine T_neq 92 dX7_readTwo_72 (by decide) (by omega) (by omega) (fun h4 => ?_) (fun h4 => ?_)
      · refine T_iconst (v := nI 0) dX7_readTwo_92 rfl ?_
        refine T_bret0 rfl dX7_readTwo_93 ?_
        rw [if_pos (Or.inr (by rw [h4]))]
        exact RM.no s2.2.2.2 rfl
      · rw [if_neg (fun z => z.elim (fun z => absurd (ej.trans z) h3) (fun z => h4 ((nI_eq (by omega) (by omega)).mp z.symm)))]
        refine T_il1 dX7_readTwo_75 ?_
        refine T_iconst (v := nI 5) dX7_readTwo_76 rfl ?_
        refine T_nne_t 94 dX7_readTwo_77 (by decide) (by omega) (by omega) (by omega) ?_
        refine T_il1 dX7_readTwo_94 ?_
        refine T_iconst (v := nI 5) dX7_readTwo_95 rfl ?_
        refine T_nne_t 114 dX7_readTwo_96 (by decide) (by omega) (by omega) (by omega) ?_
        refine T_il1 dX7_readTwo_114 ?_
        refine T_bipush (v := nI 6) dX7_readTwo_115 (by decide +kernel) ?_
        refine T_nne_f 147 dX7_readTwo_117 (by decide) (by omega) (by omega) (by omega) ?_
        refine T_al0 dX7_readTwo_120 ?_
        refine T_g7 gX7_37 (cell_89 _ _) rfl dX7_readTwo_121 ?_
        refine T_il2 dX7_readTwo_124 ?_
        refine T_dup2 dX7_readTwo_125 rfl rfl ?_
        refine T_aldN rfl (show _ < 8 by omega) dX7_readTwo_126 ?_
        refine T_iconst (v := nI 1) dX7_readTwo_127 rfl ?_
        refine T_il3 dX7_readTwo_128 ?_
        refine T_ishl dX7_readTwo_129 ?_
        refine T_ior dX7_readTwo_130 ?_
        rw [qG_99]
        refine T_astN (a := 99) rfl (show i < 8 by omega) dX7_readTwo_131 ?_
        rw [qG_99, qG_u99]
        refine T_al0 dX7_readTwo_132 ?_
        refine T_g7 gX7_37 (cell_89 _ _) rfl dX7_readTwo_133 ?_
        refine T_il3 dX7_readTwo_136 ?_
        refine T_dup2 dX7_readTwo_137 rfl rfl ?_
        refine T_aldN rfl (show _ < 8 by omega) dX7_readTwo_138 ?_
        refine T_iconst (v := nI 1) dX7_readTwo_139 rfl ?_
        refine T_il2 dX7_readTwo_140 ?_
        refine T_ishl dX7_readTwo_141 ?_
        refine T_ior dX7_readTwo_142 ?_
        rw [qG_99]
        refine T_astN (a := 99) rfl (show j < 8 by omega) dX7_readTwo_143 ?_
        rw [qG_99, qG_u99]
        refine T_goto 177 dX7_readTwo_144 (by decide) ?_
        refine T_iconst (v := nI 1) dX7_readTwo_177 rfl ?_
        refine T_bret1 rfl dX7_readTwo_178 ?_
        have hk : knT (tKn te) (nI i) (nI j) = ((tKn te).set i ((tKn te).getD i 0 ||| bitI (nI j))).set j (((tKn te).set i ((tKn te).getD i 0 ||| bitI (nI j))).getD j 0 ||| bitI (nI i)) := by rw [knT, sv_nI (by omega), sv_nI (by omega)]
        rw [hk]
        exact RM.yes s2.2.2.2 rfl
