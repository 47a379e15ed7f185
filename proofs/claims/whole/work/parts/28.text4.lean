def bodyP (tx : List Int32) (n w : Nat) (x : TeS) (q : Nat × Nat) : RdS := if w = 7 then (true, empT x, q) else if w = 8 then (true, calT x, q) else if w = 9 then (true, looT x, q) else if w = 4 then ovP tx n x q else if w = 5 then knP tx n x q else if w = 6 then orP tx n x q else thP tx n w x q
def clP (tx : List Int32) (n : Nat) (x : TeS) (p : Nat × Nat) : RdS := if wordI tx p.1 p.2 = -1 ∨ roomB x (sv (wordI tx p.1 p.2)) = false then (false, x, p) else bodyP tx n (sv (wordI tx p.1 p.2)) x (stepP tx n p.2)
theorem body4 (tx : List Int32) (n : Nat) (x : TeS) (q : Nat × Nat) : bodyP tx n 4 x q = ovP tx n x q := by simp [bodyP]
theorem body5 (tx : List Int32) (n : Nat) (x : TeS) (q : Nat × Nat) : bodyP tx n 5 x q = knP tx n x q := by simp [bodyP]
theorem body6 (tx : List Int32) (n : Nat) (x : TeS) (q : Nat × Nat) : bodyP tx n 6 x q = orP tx n x q := by simp [bodyP]
theorem body7 (tx : List Int32) (n : Nat) (x : TeS) (q : Nat × Nat) : bodyP tx n 7 x q = (true, empT x, q) := by simp [bodyP]
theorem body8 (tx : List Int32) (n : Nat) (x : TeS) (q : Nat × Nat) : bodyP tx n 8 x q = (true, calT x, q) := by simp [bodyP]
theorem body9 (tx : List Int32) (n : Nat) (x : TeS) (q : Nat × Nat) : bodyP tx n 9 x q = (true, looT x, q) := by simp [bodyP]
theorem word_c (tx : List Int32) (b e : Nat) : wordI tx b e = -1 ∨ ∃ w, w < 10 ∧ wordI tx b e = nI w := by
  unfold wordI
  repeat' split
  all_goals first | exact Or.inl rfl | exact Or.inr ⟨_, by decide, rfl⟩
theorem c_clause (d : Nat) (hd : 6 ≤ d) (F : FT) (G : GT) (tx : List Int32) (n cl : Nat) (te : TeS) (p : Nat × Nat) (hn : n ≤ 160) (hF : F 1 1 = nI n) (hG : G 2 = tx) (he : p.2 ≤ n) (hb : p.1 ≤ p.2) (hr : tN te ≤ 8) (hm : tM te ≤ 6) : Kc DX5_clauseStands d [.ref 1, .ref 11] (rF F p.1 p.2 cl te) (rG G te) (RP F G cl (clP tx n te p)) := by
  have s1 := stepP_le tx (e := p.2) he
  refine Kc.ofT [some (.ref 1), some (.ref 11), none] pn_X5 (Nat.le_of_ble_eq_true rfl) rfl ?_
  refine T_al0 dX5_clauseStands_0 ?_
  refine T_pV0 lX5_35 rfl (by decide) (cell_1 _ _) (c_word _ (by omega) F G tx n p.1 p.2 cl te hn hF hG he hb) (by omega) (Nat.le_of_ble_eq_true rfl) dX5_clauseStands_1 ?_
  refine T_is2 dX5_clauseStands_4 rfl ?_
  refine T_il2 dX5_clauseStands_5 ?_
  refine T_iconst (v := -1) dX5_clauseStands_6 rfl ?_
  rcases word_c tx p.1 p.2 with hw | ⟨w, hw10, hw⟩
  · rw [clP, if_pos (Or.inl hw)]
    refine T_icmp_eq_t 18 dX5_clauseStands_7 (by decide) hw ?_
    refine T_iconst (v := nI 0) dX5_clauseStands_18 rfl ?_
    refine T_bret0 rfl dX5_clauseStands_19 ?_
    exact ⟨rfl, rfl, rfl⟩
  · have hsv : sv (wordI tx p.1 p.2) = w := by rw [hw, sv_nI (by omega)]
    have hne : ¬ wordI tx p.1 p.2 = -1 := by
      rw [hw]; intro z
      have := nI_pos (n := w) (by omega)
      rw [z] at this
      exact this (by decide)
    rw [clP, hsv]
    refine T_icmp_eq_f 18 dX5_clauseStands_7 (by decide) hne ?_
    rw [hw] at hne ⊢
    refine T_al1 dX5_clauseStands_10 ?_
    refine T_il2 dX5_clauseStands_11 ?_
    refine T_pV1 lX5_39 rfl (by omega) (cell_T _ _ (by first | assumption | decide)) (c_hasRoomFor _ _ _ 11 (by decide) (tN te) (tM te) w (rF_t0 _ _ _ _ _) (rF_t1 _ _ _ _ _) hr hm hw10) (by omega) (Nat.le_of_ble_eq_true rfl) dX5_clauseStands_12 ?_
    refine T_st (st' := [.int (bI (roomB te w))]) rfl ?_
    refine T_bne 20 dX5_clauseStands_15 (by decide) (fun h1 => ?_) (fun h1 => ?_)
    · rw [if_neg (fun z => by rcases z with z | z; (exact hne z); (rw [h1] at z; cases z))]
      refine T_al0 dX5_clauseStands_20 ?_
      refine T_cV0 lX5_25 rfl (by decide) (cell_1 _ _) (c_step _ (by omega) F G tx n p.1 p.2 cl te hn hF hG he) (by omega) (Nat.le_of_ble_eq_true rfl) dX5_clauseStands_21 (fun v F' G' hP => ?_)
      obtain ⟨rfl, rfl, rfl⟩ := hP
      refine T_il2 dX5_clauseStands_24 ?_
      have dflt : w ≤ 3 → T DX5_clauseStands d 25 [some (.ref 1), some (.ref 11), some (.int (nI w))] [.int (nI w)] (rF F (stepP tx n p.2).1 (stepP tx n p.2).2 cl te) (rG G te) (RP F G cl (bodyP tx n w te (stepP tx n p.2))) := by
        intro hw3
        have hroom : tN te < 8 := by
          rw [roomB, if_pos hw3] at h1
          exact of_decide_eq_true h1
        refine T_tableOut 101 dX5_clauseStands_25 (Or.inl (by rw [nI_toInt (by omega)]; omega)) (by decide) ?_
        rw [bodyP, if_neg (by omega), if_neg (by omega), if_neg (by omega), if_neg (by omega), if_neg (by omega), if_neg (by omega)]
        refine T_al0 dX5_clauseStands_101 ?_
        refine T_al1 dX5_clauseStands_102 ?_
        refine T_il2 dX5_clauseStands_103 ?_
        refine T_cV2 lX5_63 rfl (by decide) (cell_1 _ _) (c_threadS _ (by omega) F G tx n cl w te (stepP tx n p.2) hn hF hG s1.2.2.2 s1.2.2.1 hroom) (by omega) (Nat.le_of_ble_eq_true rfl) dX5_clauseStands_104 (fun v F' G' hP => ?_)
        obtain ⟨rfl, rfl, rfl⟩ := hP
        refine T_bret rfl dX5_clauseStands_107 ?_
        exact ⟨rfl, rfl, rfl⟩
      match w, hw10, h1, dflt with
      | 0, _, _, dflt => exact dflt (by decide)
      | 1, _, _, dflt => exact dflt (by decide)
      | 2, _, _, dflt => exact dflt (by decide)
      | 3, _, _, dflt => exact dflt (by decide)
      | 4, _, _, _ =>
        rw [body4]
        refine T_tableIn 83 dX5_clauseStands_25 (by decide +kernel) (by decide +kernel) (off := 58) (by decide +kernel) (by decide) ?_
        refine T_al0 dX5_clauseStands_83 ?_
        refine T_al1 dX5_clauseStands_84 ?_
        refine T_cV1 lX5_54 rfl (by decide) (cell_1 _ _) (c_overS _ (by omega) F G tx n cl te (stepP tx n p.2) hn hF hG s1.2.2.2 s1.2.2.1 hr) (by omega) (Nat.le_of_ble_eq_true rfl) dX5_clauseStands_85 (fun v F' G' hP => ?_)
        obtain ⟨rfl, rfl, rfl⟩ := hP
        refine T_bret rfl dX5_clauseStands_88 ?_
        exact ⟨rfl, rfl, rfl⟩
      | 5, _, _, _ =>
        rw [body5]
        refine T_tableIn 89 dX5_clauseStands_25 (by decide +kernel) (by decide +kernel) (off := 64) (by decide +kernel) (by decide) ?_
        refine T_al0 dX5_clauseStands_89 ?_
        refine T_al1 dX5_clauseStands_90 ?_
        refine T_cV1 lX5_57 rfl (by decide) (cell_1 _ _) (c_knotS _ (by omega) F G tx n cl te (stepP tx n p.2) hn hF hG s1.2.2.2 s1.2.2.1 hr) (by omega) (Nat.le_of_ble_eq_true rfl) dX5_clauseStands_91 (fun v F' G' hP => ?_)
        obtain ⟨rfl, rfl, rfl⟩ := hP
        refine T_bret rfl dX5_clauseStands_94 ?_
        exact ⟨rfl, rfl, rfl⟩
      | 6, _, h1, _ =>
        have hroom : tM te < 6 := by
          rw [roomB, if_neg (by decide)] at h1
          have := of_decide_eq_true h1
          omega
        rw [body6]
        refine T_tableIn 95 dX5_clauseStands_25 (by decide +kernel) (by decide +kernel) (off := 70) (by decide +kernel) (by decide) ?_
        refine T_al0 dX5_clauseStands_95 ?_
        refine T_al1 dX5_clauseStands_96 ?_
        refine T_cV1 lX5_60 rfl (by decide) (cell_1 _ _) (c_orderS _ (by omega) F G tx n cl te (stepP tx n p.2) hn hF hG s1.2.2.2 s1.2.2.1 hroom) (by omega) (Nat.le_of_ble_eq_true rfl) dX5_clauseStands_97 (fun v F' G' hP => ?_)
        obtain ⟨rfl, rfl, rfl⟩ := hP
        refine T_bret rfl dX5_clauseStands_100 ?_
        exact ⟨rfl, rfl, rfl⟩
      | 7, _, _, _ =>
        rw [body7]
        refine T_tableIn 64 dX5_clauseStands_25 (by decide +kernel) (by decide +kernel) (off := 39) (by decide +kernel) (by decide) ?_
        refine T_al1 dX5_clauseStands_64 ?_
        refine T_cV0 lX5_45 rfl (by omega) (cell_T _ _ (by first | assumption | decide)) (c_empty _ (by omega) _ _ 11 (by decide)) (by omega) (Nat.le_of_ble_eq_true rfl) dX5_clauseStands_65 (fun v F' G' hP => ?_)
        obtain ⟨rfl, rfl, rfl⟩ := hP
        rw [rF_u0, rF_u1, rG_loo]
        refine T_iconst (v := nI 1) dX5_clauseStands_68 rfl ?_
        refine T_bret1 rfl dX5_clauseStands_69 ?_
        exact ⟨rfl, rfl, rfl⟩
      | 8, _, _, _ =>
        rw [body8]
        refine T_tableIn 70 dX5_clauseStands_25 (by decide +kernel) (by decide +kernel) (off := 45) (by decide +kernel) (by decide) ?_
        refine T_al1 dX5_clauseStands_70 ?_
        refine T_iconst (v := nI 0) dX5_clauseStands_71 rfl ?_
        refine T_put4_1 pX5_48 (by first | assumption | decide) dX5_clauseStands_72 ?_
        rw [rF_u1]
        refine T_iconst (v := nI 1) dX5_clauseStands_75 rfl ?_
        refine T_bret1 rfl dX5_clauseStands_76 ?_
        exact ⟨rfl, rfl, rfl⟩
      | 9, _, _, _ =>
        rw [body9]
        refine T_tableIn 77 dX5_clauseStands_25 (by decide +kernel) (by decide +kernel) (off := 52) (by decide +kernel) (by decide) ?_
        refine T_al1 dX5_clauseStands_77 ?_
        refine T_cV0 lX5_51 rfl (by omega) (cell_T _ _ (by first | assumption | decide)) (c_loosen _ _ _ 11 (by decide)) (by omega) (Nat.le_of_ble_eq_true rfl) dX5_clauseStands_78 (fun v F' G' hP => ?_)
        obtain ⟨rfl, rfl, rfl⟩ := hP
        rw [rG_loo]
        refine T_iconst (v := nI 1) dX5_clauseStands_81 rfl ?_
        refine T_bret1 rfl dX5_clauseStands_82 ?_
        exact ⟨rfl, rfl, rfl⟩
      | w + 10, hw10, _, _ => exact absurd hw10 (by omega)
    · rw [if_pos (Or.inr h1)]
      refine T_iconst (v := nI 0) dX5_clauseStands_18 rfl ?_
      refine T_bret0 rfl dX5_clauseStands_19 ?_
      exact ⟨rfl, rfl, rfl⟩
/-- bounds while reading -/
def RdOk (n : Nat) (r : RdS) : Prop := tN r.2.1 ≤ 8 ∧ tM r.2.1 ≤ 6 ∧ r.2.2.2 ≤ n ∧ r.2.2.1 ≤ r.2.2.2
theorem clP_ok {tx : List Int32} {n : Nat} {x : TeS} {p : Nat × Nat} (hr : tN x ≤ 8) (hm : tM x ≤ 6) (he : p.2 ≤ n) (hb : p.1 ≤ p.2) : RdOk n (clP tx n x p) := by
  have s1 := stepP_le tx (e := p.2) he
  have s2 := stepP_le tx (e := (stepP tx n p.2).2) s1.2.2.2
  have s3 := stepP_le tx (e := (stepP tx n (stepP tx n p.2).2).2) s2.2.2.2
  have base : ∀ (b : Bool) (q : Nat × Nat) (y : TeS), tN y ≤ 8 → tM y ≤ 6 → q.2 ≤ n → q.1 ≤ q.2 → RdOk n (b, y, q) := fun b q y h1 h2 h3 h4 => ⟨h1, h2, h3, h4⟩
  rw [clP]
  split
  · exact base _ _ _ hr hm he hb
  · rename_i hc
    have hroom : roomB x (sv (wordI tx p.1 p.2)) = true := by
      cases h : roomB x (sv (wordI tx p.1 p.2)) with
      | true => rfl
      | false => exact absurd (Or.inr h) hc
    have hw : sv (wordI tx p.1 p.2) < 10 := by
      rcases word_c tx p.1 p.2 with z | ⟨w, h1, h2⟩
      · exact absurd (Or.inl z) hc
      · rw [h2, sv_nI (by omega)]; exact h1
    generalize sv (wordI tx p.1 p.2) = w at hroom hw
    rw [bodyP]
    split
    · exact base _ _ _ (Nat.zero_le 8) (Nat.zero_le 6) s1.2.2.2 s1.2.2.1
    split
    · exact base _ _ _ hr (Nat.zero_le 6) s1.2.2.2 s1.2.2.1
    split
    · exact base _ _ _ hr hm s1.2.2.2 s1.2.2.1
    split
    · rw [ovP]
      split
      · exact base _ _ _ hr hm s1.2.2.2 s1.2.2.1
      · split
        · exact base _ _ _ hr hm s2.2.2.2 s2.2.2.1
        · exact base _ _ _ hr hm s3.2.2.2 s3.2.2.1
    split
    · rw [knP]
      split
      · exact base _ _ _ hr hm s1.2.2.2 s1.2.2.1
      · split
        · exact base _ _ _ hr hm s2.2.2.2 s2.2.2.1
        · exact base _ _ _ hr hm s3.2.2.2 s3.2.2.1
    split
    · rename_i h6
      subst h6
      have hroom : tM x < 6 := by
        rw [roomB, if_neg (by decide)] at hroom
        have := of_decide_eq_true hroom
        omega
      rw [orP]
      split
      · exact base _ _ _ hr hm s1.2.2.2 s1.2.2.1
      · split
        · exact base _ _ _ hr hm s2.2.2.2 s2.2.2.1
        · exact base _ _ (addOr _ _ _) hr (show tM x + 1 ≤ 6 by omega) s3.2.2.2 s3.2.2.1
    · rename_i h1 h2 h3 h4 h5 h6
      have hroom : tN x < 8 := by
        rw [roomB, if_pos (by omega)] at hroom
        exact of_decide_eq_true hroom
      rw [thP]
      split
      · exact base _ _ _ hr hm s1.2.2.2 s1.2.2.1
      · split
        · exact base _ _ _ hr hm s2.2.2.2 s2.2.2.1
        · exact base _ _ (addTh _ _ _ _) (show tN x + 1 ≤ 8 by omega) hm s3.2.2.2 s3.2.2.1
/-- the whole text: what fault() tells, how many clauses, what is told then -/
def ffP (tx : List Int32) (n : Nat) : Nat → Nat → TeS → Nat × Nat → Int32 × Nat × TeS
  | 0, c, x, p => (nI p.1, c, x)
  | k + 1, c, x, p => if (clP tx n x p).1 = false then (nI (clP tx n x p).2.2.1, c, (clP tx n x p).2.1) else if n ≤ (clP tx n x p).2.2.1 then (-1, c + 1, (clP tx n x p).2.1) else if ¬ tx.getD (clP tx n x p).2.2.1 0 = nI 59 ∨ c + 1 = 14 then (nI (clP tx n x p).2.2.1, c + 1, (clP tx n x p).2.1) else ffP tx n k (c + 1) (clP tx n x p).2.1 (stepP tx n (clP tx n x p).2.2.2)
theorem c_firstFault (d : Nat) (hd : 7 ≤ d) (F : FT) (G : GT) (tx : List Int32) (n b e cl : Nat) (te : TeS) (hn : n ≤ 160) (hF : F 1 1 = nI n) (hG : G 2 = tx) (hr : tN te ≤ 8) (hm : tM te ≤ 6) : Kc DX5_firstFault d [.ref 1, .ref 11] (rF F b e cl te) (rG G te) (fun v F' G' => v = some (.int (ffP tx n 14 0 te (stepP tx n 0)).1) ∧ (∃ b' e', F' = rF F b' e' (ffP tx n 14 0 te (stepP tx n 0)).2.1 (ffP tx n 14 0 te (stepP tx n 0)).2.2) ∧ G' = rG G (ffP tx n 14 0 te (stepP tx n 0)).2.2) := by
  have s0 := stepP_le tx (n := n) (e := 0) (by omega)
  refine Kc.ofT [some (.ref 1), some (.ref 11), none] pn_X5 (Nat.le_of_ble_eq_true rfl) rfl ?_
  refine T_al0 dX5_firstFault_0 ?_
  refine T_iconst (v := nI 0) dX5_firstFault_1 rfl ?_
  refine T_put5_2 pX5_19 dX5_firstFault_2 ?_
  rw [rF_u2]
  refine T_al0 dX5_firstFault_5 ?_
  refine T_iconst (v := nI 0) dX5_firstFault_6 rfl ?_
  refine T_put5_4 pX5_22 dX5_firstFault_7 ?_
  rw [rF_u4]
  refine T_al0 dX5_firstFault_10 ?_
  refine T_cV0 lX5_25 rfl (by decide) (cell_1 _ _) (c_step _ (by omega) F G tx n b 0 0 te hn hF hG (by omega)) (by omega) (Nat.le_of_ble_eq_true rfl) dX5_firstFault_11 (fun v F' G' hP => ?_)
  obtain ⟨rfl, rfl, rfl⟩ := hP
  refine T_iconst (v := nI 0) dX5_firstFault_14 rfl ?_
  refine T_is2 dX5_firstFault_15 rfl ?_
  suffices h : ∀ (k i : Nat) (x : TeS) (p : Nat × Nat), i + k = 14 → tN x ≤ 8 → tM x ≤ 6 → p.2 ≤ n → p.1 ≤ p.2 → T DX5_firstFault d 16 [some (.ref 1), some (.ref 11), some (.int (nI i))] [] (rF F p.1 p.2 i x) (rG G x) (fun v F' G' => v = some (.int (ffP tx n k i x p).1) ∧ (∃ b' e', F' = rF F b' e' (ffP tx n k i x p).2.1 (ffP tx n k i x p).2.2) ∧ G' = rG G (ffP tx n k i x p).2.2) from h 14 0 te (stepP tx n 0) rfl hr hm s0.2.2.2 s0.2.2.1
  intro k
  induction k with
  | zero =>
    intro i x p hi hx1 hx2 hp2 hp1
    refine T_il2 dX5_firstFault_16 ?_
    refine T_bipush (v := nI 14) dX5_firstFault_17 (by decide +kernel) ?_
    refine T_nge_t 96 dX5_firstFault_19 (by decide) (by omega) (by omega) (by omega) ?_
    refine T_al0 dX5_firstFault_96 ?_
    refine T_g5 gX5_32 (cell_1 _ _) rfl dX5_firstFault_97 ?_
    refine T_iret rfl dX5_firstFault_100 ?_
    rw [rF_13]
    exact ⟨rfl, ⟨_, _, rfl⟩, rfl⟩
  | succ k ih =>
    intro i x p hi hx1 hx2 hp2 hp1
    obtain ⟨r1, r2, r3, r4⟩ := clP_ok (tx := tx) hx1 hx2 hp2 hp1
    refine T_il2 dX5_firstFault_16 ?_
    refine T_bipush (v := nI 14) dX5_firstFault_17 (by decide +kernel) ?_
    refine T_nge_f 96 dX5_firstFault_19 (by decide) (by omega) (by omega) (by omega) ?_
    refine T_al0 dX5_firstFault_22 ?_
    refine T_al1 dX5_firstFault_23 ?_
    refine T_cV1 lX5_28 rfl (by decide) (cell_1 _ _) (c_clause _ (by omega) F G tx n i x p hn hF hG hp2 hp1 hx1 hx2) (by omega) (Nat.le_of_ble_eq_true rfl) dX5_firstFault_24 (fun v F' G' hP => ?_)
    obtain ⟨rfl, rfl, rfl⟩ := hP
    rw [ffP]
    refine T_bne 35 dX5_firstFault_27 (by decide) (fun h1 => ?_) (fun h1 => ?_)
    · rw [if_neg (by rw [h1]; decide)]
      refine T_al0 dX5_firstFault_35 ?_
      refine T_dup dX5_firstFault_36 rfl ?_
      refine T_g5 gX5_19 (cell_1 _ _) rfl dX5_firstFault_37 ?_
      rw [rF_12]
      refine T_iconst (v := nI 1) dX5_firstFault_40 rfl ?_
      first | refine T_iaddN dX5_firstFault_41 ?_ | refine T_iadd dX5_firstFault_41 ?_
      refine T_put5_2 pX5_19 dX5_firstFault_42 ?_
      rw [rF_u2]
      refine T_al0 dX5_firstFault_45 ?_
      refine T_g5 gX5_32 (cell_1 _ _) rfl dX5_firstFault_46 ?_
      rw [rF_13]
      refine T_al0 dX5_firstFault_49 ?_
      refine T_g5 gX5_15 (cell_1 _ _) rfl dX5_firstFault_50 ?_
      rw [rF_11, hF]
      refine T_nlt 58 dX5_firstFault_53 (by decide) (by omega) (by omega) (fun h2 => ?_) (fun h2 => ?_)
      · rw [if_neg (by omega)]
        have no : (¬ tx.getD (clP tx n x p).2.2.1 0 = nI 59 ∨ i + 1 = 14) → T DX5_firstFault d 81 [some (.ref 1), some (.ref 11), some (.int (nI i))] [] (rF F (clP tx n x p).2.2.1 (clP tx n x p).2.2.2 (i + 1) (clP tx n x p).2.1) (rG G (clP tx n x p).2.1) (fun v F' G' => v = some (.int (if ¬ tx.getD (clP tx n x p).2.2.1 0 = nI 59 ∨ i + 1 = 14 then (nI (clP tx n x p).2.2.1, i + 1, (clP tx n x p).2.1) else ffP tx n k (i + 1) (clP tx n x p).2.1 (stepP tx n (clP tx n x p).2.2.2)).1) ∧ (∃ b' e', F' = rF F b' e' (if ¬ tx.getD (clP tx n x p).2.2.1 0 = nI 59 ∨ i + 1 = 14 then (nI (clP tx n x p).2.2.1, i + 1, (clP tx n x p).2.1) else ffP tx n k (i + 1) (clP tx n x p).2.1 (stepP tx n (clP tx n x p).2.2.2)).2.1 (if ¬ tx.getD (clP tx n x p).2.2.1 0 = nI 59 ∨ i + 1 = 14 then (nI (clP tx n x p).2.2.1, i + 1, (clP tx n x p).2.1) else ffP tx n k (i + 1) (clP tx n x p).2.1 (stepP tx n (clP tx n x p).2.2.2)).2.2) ∧ G' = rG G (if ¬ tx.getD (clP tx n x p).2.2.1 0 = nI 59 ∨ i + 1 = 14 then (nI (clP tx n x p).2.2.1, i + 1, (clP tx n x p).2.1) else ffP tx n k (i + 1) (clP tx n x p).2.1 (stepP tx n (clP tx n x p).2.2.2)).2.2) := by
          intro hc
          rw [if_pos hc]
          refine T_al0 dX5_firstFault_81 ?_
          refine T_g5 gX5_32 (cell_1 _ _) rfl dX5_firstFault_82 ?_
          refine T_iret rfl dX5_firstFault_85 ?_
          rw [rF_13]
          exact ⟨rfl, ⟨_, _, rfl⟩, rfl⟩
        refine T_al0 dX5_firstFault_58 ?_
        refine T_g5 gX5_9 (cell_1 _ _) rfl dX5_firstFault_59 ?_
        refine T_al0 dX5_firstFault_62 ?_
        refine T_g5 gX5_32 (cell_1 _ _) rfl dX5_firstFault_63 ?_
        rw [rF_13]
        refine T_aldN rfl (show _ < 160 by omega) dX5_firstFault_66 ?_
        rw [rG_2, hG]
        refine T_bipush (v := nI 59) dX5_firstFault_67 (by decide +kernel) ?_
        refine T_icmp_ne 81 dX5_firstFault_69 (by decide) (fun h3 => ?_) (fun h3 => ?_)
        · exact no (Or.inl h3)
        · refine T_al0 dX5_firstFault_72 ?_
          refine T_g5 gX5_19 (cell_1 _ _) rfl dX5_firstFault_73 ?_
          rw [rF_12]
          refine T_bipush (v := nI 14) dX5_firstFault_76 (by decide +kernel) ?_
          refine T_nne 86 dX5_firstFault_78 (by decide) (by omega) (by omega) (fun h4 => ?_) (fun h4 => ?_)
          · have s1 := stepP_le tx (e := (clP tx n x p).2.2.2) r3
            rw [if_neg (fun z => z.elim (fun q => q h3) h4)]
            refine T_al0 dX5_firstFault_86 ?_
            refine T_cV0 lX5_25 rfl (by decide) (cell_1 _ _) (c_step _ (by omega) F G tx n (clP tx n x p).2.2.1 (clP tx n x p).2.2.2 (i + 1) (clP tx n x p).2.1 hn hF hG r3) (by omega) (Nat.le_of_ble_eq_true rfl) dX5_firstFault_87 (fun v F' G' hP => ?_)
            obtain ⟨rfl, rfl, rfl⟩ := hP
            refine T_ii2 dX5_firstFault_90 (by first | exact nI_inc _ | exact nI_dec _ | rfl) rfl ?_
            refine T_goto 16 dX5_firstFault_93 (by decide) ?_
            exact ih (i + 1) _ _ (by omega) r1 r2 s1.2.2.2 s1.2.2.1
          · exact no (Or.inr h4)
      · rw [if_pos (by omega)]
        refine T_iconst (v := -1) dX5_firstFault_56 rfl ?_
        refine T_iret rfl dX5_firstFault_57 ?_
        exact ⟨rfl, ⟨_, _, rfl⟩, rfl⟩
    · rw [if_pos h1]
      refine T_al0 dX5_firstFault_30 ?_
      refine T_g5 gX5_32 (cell_1 _ _) rfl dX5_firstFault_31 ?_
      refine T_iret rfl dX5_firstFault_34 ?_
      rw [rF_13]
      exact ⟨rfl, ⟨_, _, rfl⟩, rfl⟩
