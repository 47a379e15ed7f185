abbrev tN (x : TeS) : Nat := x.1
abbrev tM (x : TeS) : Nat := x.2.1
abbrev tKd (x : TeS) : List Int32 := x.2.2.1
abbrev tLn (x : TeS) : List Int32 := x.2.2.2.1
abbrev tCo (x : TeS) : List Int32 := x.2.2.2.2.1
abbrev tOv (x : TeS) : List Int32 := x.2.2.2.2.2.1
abbrev tKn (x : TeS) : List Int32 := x.2.2.2.2.2.2.1
abbrev tOt (x : TeS) : List Int32 := x.2.2.2.2.2.2.2.1
abbrev tOd (x : TeS) : List Int32 := x.2.2.2.2.2.2.2.2
def addTh (x : TeS) (k l c : Int32) : TeS := (tN x + 1, tM x, (tKd x).set (tN x) k, (tLn x).set (tN x) l, (tCo x).set (tN x) c, x.2.2.2.2.2)
def addOr (x : TeS) (t y : Int32) : TeS := (tN x, tM x + 1, tKd x, tLn x, tCo x, tOv x, tKn x, (tOt x).set (tM x) t, (tOd x).set (tM x) y)
def tOvW (x : TeS) (l : List Int32) : TeS := (tN x, tM x, tKd x, tLn x, tCo x, l, x.2.2.2.2.2.2)
def tKnW (x : TeS) (l : List Int32) : TeS := (tN x, tM x, tKd x, tLn x, tCo x, tOv x, l, x.2.2.2.2.2.2.2)
def looT (x : TeS) : TeS := (tN x, tM x, tKd x, tLn x, tCo x, List.replicate 8 (nI 0), List.replicate 8 (nI 0), x.2.2.2.2.2.2.2)
def empT (x : TeS) : TeS := (0, 0, (looT x).2.2)
def calT (x : TeS) : TeS := (tN x, 0, x.2.2)
def roomB (x : TeS) (w : Nat) : Bool := if w ≤ 3 then decide (tN x < 8) else decide (w ≠ 6 ∨ tM x < 6)
abbrev RdS : Type := Bool × TeS × (Nat × Nat)
def thP (tx : List Int32) (n w : Nat) (x : TeS) (p : Nat × Nat) : RdS := if numI tx n p.1 p.2 (nI 1) (nI 60) = -1 then (false, x, p) else if numI tx n (stepP tx n p.2).1 (stepP tx n p.2).2 (nI 0) (nI 3) = -1 then (false, x, stepP tx n p.2) else (true, addTh x (nI w) (numI tx n p.1 p.2 (nI 1) (nI 60)) (numI tx n (stepP tx n p.2).1 (stepP tx n p.2).2 (nI 0) (nI 3)), stepP tx n (stepP tx n p.2).2)
def n1I (tx : List Int32) (n : Nat) (x : TeS) (p : Nat × Nat) : Int32 := numI tx n p.1 p.2 (nI 0) (nI (tN x) - nI 1)
def ovP (tx : List Int32) (n : Nat) (x : TeS) (p : Nat × Nat) : RdS := if n1I tx n x p = -1 then (false, x, p) else if n1I tx n x (stepP tx n p.2) = -1 ∨ ringB (tOv x) (n1I tx n x p) (n1I tx n x (stepP tx n p.2)) = true then (false, x, stepP tx n p.2) else (true, tOvW x ((tOv x).set (sv (n1I tx n x (stepP tx n p.2))) ((tOv x).getD (sv (n1I tx n x (stepP tx n p.2))) 0 ||| bitI (n1I tx n x p))), stepP tx n (stepP tx n p.2).2)
def knT (l : List Int32) (i j : Int32) : List Int32 := (l.set (sv i) (l.getD (sv i) 0 ||| bitI j)).set (sv j) ((l.set (sv i) (l.getD (sv i) 0 ||| bitI j)).getD (sv j) 0 ||| bitI i)
def knP (tx : List Int32) (n : Nat) (x : TeS) (p : Nat × Nat) : RdS := if n1I tx n x p = -1 then (false, x, p) else if n1I tx n x (stepP tx n p.2) = -1 ∨ n1I tx n x (stepP tx n p.2) = n1I tx n x p then (false, x, stepP tx n p.2) else (true, tKnW x (knT (tKn x) (n1I tx n x p) (n1I tx n x (stepP tx n p.2))), stepP tx n (stepP tx n p.2).2)
def orP (tx : List Int32) (n : Nat) (x : TeS) (p : Nat × Nat) : RdS := if n1I tx n x p = -1 then (false, x, p) else if numI tx n (stepP tx n p.2).1 (stepP tx n p.2).2 (nI 0) (nI 99) = -1 then (false, x, stepP tx n p.2) else (true, addOr x (n1I tx n x p) (numI tx n (stepP tx n p.2).1 (stepP tx n p.2).2 (nI 0) (nI 99)), stepP tx n (stepP tx n p.2).2)
/-- the state while a text is read -/
def RP (F : FT) (G : GT) (cl : Nat) (r : RdS) : Option Value → FT → GT → Prop := fun v F' G' => v = some (.int (bI r.1)) ∧ F' = rF F r.2.2.1 r.2.2.2 cl r.2.1 ∧ G' = rG G r.2.1
theorem num_ge (tx : List Int32) (n b e : Nat) (lo hi : Int32) (h : ¬ numI tx n b e lo hi = -1) : ¬ numI tx n b e lo hi < lo ∧ numI tx n b e lo hi ≤ hi := by
  unfold numI at h ⊢
  split
  · rename_i q; rw [if_pos q] at h; exact absurd rfl h
  · rename_i q
    rw [if_neg q] at h
    split
    · rename_i q2; rw [if_pos q2] at h; exact absurd rfl h
    · rename_i q2
      exact ⟨fun z => q2 (Or.inl z), Int32.not_lt.mp (fun z => q2 (Or.inr z))⟩
theorem n1_ok {tx : List Int32} {n : Nat} {x : TeS} {p : Nat × Nat} (hx : tN x ≤ 8) (h : ¬ n1I tx n x p = -1) : ∃ k, k < tN x ∧ n1I tx n x p = nI k := by
  obtain ⟨h1, h2⟩ := num_ge tx n p.1 p.2 (nI 0) (nI (tN x) - nI 1) h
  have h1 : ¬ n1I tx n x p < 0 := h1
  have h2 : n1I tx n x p ≤ nI (tN x) - nI 1 := h2
  obtain ⟨j, hj, e⟩ := nI_of h1
  refine ⟨j, ?_, e⟩
  rw [e] at h2
  rcases Nat.eq_zero_or_pos (tN x) with q | q
  · rw [q] at h2
    have : nI 0 - nI 1 < 0 := by decide
    exact absurd (Int32.lt_of_le_of_lt h2 this) (nI_pos hj)
  · rw [pk_sub q] at h2
    have := (nI_leI hj (by omega)).mp h2
    omega
theorem rG_t (G : GT) (te : TeS) : rG G te 12 = tKd te ∧ rG G te 13 = tLn te ∧ rG G te 14 = tCo te ∧ rG G te 15 = tOv te ∧ rG G te 16 = tKn te ∧ rG G te 17 = tOt te ∧ rG G te 18 = tOd te := by simp [rG]
theorem rG_u15 (G : GT) (te : TeS) (l : List Int32) : u1 (rG G te) 15 l = rG G (tOvW te l) := by
  funext c; simp only [u1_at, rG, tOvW]; by_cases h : c = 15 <;> simp [h]
theorem rG_u16 (G : GT) (te : TeS) (l : List Int32) : u1 (rG G te) 16 l = rG G (tKnW te l) := by
  funext c; simp only [u1_at, rG, tKnW]; by_cases h : c = 16 <;> simp [h]
theorem rG_add (G : GT) (te : TeS) (k l c : Int32) : u1 (u1 (u1 (rG G te) (11 + 1) ((rG G te (11 + 1)).set (tN te) k)) (11 + 2) ((rG G te (11 + 2)).set (tN te) l)) (11 + 3) ((rG G te (11 + 3)).set (tN te) c) = rG G (addTh te k l c) := by
  have h := rG_t G te
  rw [show rG G te (11 + 1) = _ from h.1, show rG G te (11 + 2) = _ from h.2.1, show rG G te (11 + 3) = _ from h.2.2.1]
  funext c; simp only [u1_at, rG, addTh]
  by_cases h3 : c = 14
  · simp [h3]
  · by_cases h2 : c = 13
    · simp [h2]
    · by_cases h1 : c = 12 <;> simp [h1, h2, h3]
theorem rG_ord (G : GT) (te : TeS) (t y : Int32) : u1 (u1 (rG G te) (11 + 6) ((rG G te (11 + 6)).set (tM te) t)) (11 + 7) ((rG G te (11 + 7)).set (tM te) y) = rG G (addOr te t y) := by
  have h := rG_t G te
  rw [show rG G te (11 + 6) = _ from h.2.2.2.2.2.1, show rG G te (11 + 7) = _ from h.2.2.2.2.2.2]
  funext c; simp only [u1_at, rG, addOr]
  by_cases h3 : c = 18
  · simp [h3]
  · by_cases h2 : c = 17 <;> simp [h2, h3]
theorem rG_loo (G : GT) (te : TeS) : u1 (u1 (rG G te) (11 + 4) (List.replicate 8 (nI 0))) (11 + 5) (List.replicate 8 (nI 0)) = rG G (looT te) := by
  funext c; simp only [u1_at, rG, looT]
  by_cases h3 : c = 16
  · simp [h3]
  · by_cases h2 : c = 15 <;> simp [h2, h3]
theorem T_m1 (x : Int32) : x = -1 ∨ ¬ x = -1 := by by_cases h : x = -1 <;> simp [h]
theorem c_threadS (d : Nat) (hd : 2 ≤ d) (F : FT) (G : GT) (tx : List Int32) (n cl w : Nat) (te : TeS) (p : Nat × Nat) (hn : n ≤ 160) (hF : F 1 1 = nI n) (hG : G 2 = tx) (he : p.2 ≤ n) (hb : p.1 ≤ p.2) (hr : tN te < 8) : Kc DX5_threadStands d [.ref 1, .ref 11, .int (nI w)] (rF F p.1 p.2 cl te) (rG G te) (RP F G cl (thP tx n w te p)) := by
  have s1 := stepP_le tx (e := p.2) he
  have s2 := stepP_le tx (e := (stepP tx n p.2).2) s1.2.2.2
  refine Kc.ofT [some (.ref 1), some (.ref 11), some (.int (nI w)), none, none] pn_X5 (Nat.le_of_ble_eq_true rfl) rfl ?_
  refine T_al0 dX5_threadStands_0 ?_
  refine T_iconst (v := nI 1) dX5_threadStands_1 rfl ?_
  refine T_bipush (v := nI 60) dX5_threadStands_2 (by decide +kernel) ?_
  refine T_pV2 lX5_67 rfl (by decide) (cell_1 _ _) (c_number _ (by omega) F G tx n p.1 p.2 cl te hn hF hG he hb _ _) (by omega) (Nat.le_of_ble_eq_true rfl) dX5_threadStands_4 ?_
  refine T_is3 dX5_threadStands_7 rfl ?_
  refine T_il3 dX5_threadStands_8 ?_
  refine T_iconst (v := -1) dX5_threadStands_9 rfl ?_
  rw [thP]
  refine T_icmp_ne 15 dX5_threadStands_10 (by decide) (fun h1 => ?_) (fun h1 => ?_)
  · rw [if_neg h1]
    refine T_al0 dX5_threadStands_15 ?_
    refine T_cV0 lX5_25 rfl (by decide) (cell_1 _ _) (c_step _ (by omega) F G tx n p.1 p.2 cl te hn hF hG he) (by omega) (Nat.le_of_ble_eq_true rfl) dX5_threadStands_16 (fun v F' G' hP => ?_)
    obtain ⟨rfl, rfl, rfl⟩ := hP
    refine T_al0 dX5_threadStands_19 ?_
    refine T_iconst (v := nI 0) dX5_threadStands_20 rfl ?_
    refine T_iconst (v := nI 3) dX5_threadStands_21 rfl ?_
    refine T_pV2 lX5_67 rfl (by decide) (cell_1 _ _) (c_number _ (by omega) F G tx n (stepP tx n p.2).1 (stepP tx n p.2).2 cl te hn hF hG s1.2.2.2 s1.2.2.1 _ _) (by omega) (Nat.le_of_ble_eq_true rfl) dX5_threadStands_22 ?_
    refine T_is4 dX5_threadStands_25 rfl ?_
    refine T_il4 dX5_threadStands_27 ?_
    refine T_iconst (v := -1) dX5_threadStands_29 rfl ?_
    refine T_icmp_ne 35 dX5_threadStands_30 (by decide) (fun h2 => ?_) (fun h2 => ?_)
    · rw [if_neg h2]
      refine T_al0 dX5_threadStands_35 ?_
      refine T_cV0 lX5_25 rfl (by decide) (cell_1 _ _) (c_step _ (by omega) F G tx n (stepP tx n p.2).1 (stepP tx n p.2).2 cl te hn hF hG s1.2.2.2) (by omega) (Nat.le_of_ble_eq_true rfl) dX5_threadStands_36 (fun v F' G' hP => ?_)
      obtain ⟨rfl, rfl, rfl⟩ := hP
      refine T_al1 dX5_threadStands_39 ?_
      refine T_il2 dX5_threadStands_40 ?_
      refine T_il3 dX5_threadStands_41 ?_
      refine T_il4 dX5_threadStands_42 ?_
      refine T_cV3 lX5_71 rfl (by omega) (cell_T _ _ (by first | assumption | decide)) (c_addThread _ _ _ 11 (by decide) (tN te) (rF_t0 _ _ _ _ _) hr _ _ _) (by omega) (Nat.le_of_ble_eq_true rfl) dX5_threadStands_44 (fun v F' G' hP => ?_)
      obtain ⟨rfl, rfl, rfl⟩ := hP
      rw [rF_u0, rG_add]
      refine T_iconst (v := nI 1) dX5_threadStands_47 rfl ?_
      refine T_bret1 rfl dX5_threadStands_48 ?_
      exact ⟨rfl, rfl, rfl⟩
    · rw [if_pos h2]
      refine T_iconst (v := nI 0) dX5_threadStands_33 rfl ?_
      refine T_bret0 rfl dX5_threadStands_34 ?_
      exact ⟨rfl, rfl, rfl⟩
  · rw [if_pos h1]
    refine T_iconst (v := nI 0) dX5_threadStands_13 rfl ?_
    refine T_bret0 rfl dX5_threadStands_14 ?_
    exact ⟨rfl, rfl, rfl⟩
theorem c_orderS (d : Nat) (hd : 2 ≤ d) (F : FT) (G : GT) (tx : List Int32) (n cl : Nat) (te : TeS) (p : Nat × Nat) (hn : n ≤ 160) (hF : F 1 1 = nI n) (hG : G 2 = tx) (he : p.2 ≤ n) (hb : p.1 ≤ p.2) (hr : tM te < 6) : Kc DX5_orderStands d [.ref 1, .ref 11] (rF F p.1 p.2 cl te) (rG G te) (RP F G cl (orP tx n te p)) := by
  have s1 := stepP_le tx (e := p.2) he
  have s2 := stepP_le tx (e := (stepP tx n p.2).2) s1.2.2.2
  refine Kc.ofT [some (.ref 1), some (.ref 11), none, none] pn_X5 (Nat.le_of_ble_eq_true rfl) rfl ?_
  refine T_al0 dX5_orderStands_0 ?_
  refine T_iconst (v := nI 0) dX5_orderStands_1 rfl ?_
  refine T_al1 dX5_orderStands_2 ?_
  refine T_g4 gX5_75 (by first | assumption | decide) (cell_T _ _ (by first | assumption | decide)) rfl dX5_orderStands_3 ?_
  rw [rF_t0]
  refine T_iconst (v := nI 1) dX5_orderStands_6 rfl ?_
  refine T_isub dX5_orderStands_7 ?_
  refine T_pV2 lX5_67 rfl (by decide) (cell_1 _ _) (c_number _ (by omega) F G tx n p.1 p.2 cl te hn hF hG he hb _ _) (by omega) (Nat.le_of_ble_eq_true rfl) dX5_orderStands_8 ?_
  refine T_is2 dX5_orderStands_11 rfl ?_
  refine T_il2 dX5_orderStands_12 ?_
  refine T_iconst (v := -1) dX5_orderStands_13 rfl ?_
  rw [orP, n1I]
  refine T_icmp_ne 19 dX5_orderStands_14 (by decide) (fun h1 => ?_) (fun h1 => ?_)
  · rw [if_neg h1]
    refine T_al0 dX5_orderStands_19 ?_
    refine T_cV0 lX5_25 rfl (by decide) (cell_1 _ _) (c_step _ (by omega) F G tx n p.1 p.2 cl te hn hF hG he) (by omega) (Nat.le_of_ble_eq_true rfl) dX5_orderStands_20 (fun v F' G' hP => ?_)
    obtain ⟨rfl, rfl, rfl⟩ := hP
    refine T_al0 dX5_orderStands_23 ?_
    refine T_iconst (v := nI 0) dX5_orderStands_24 rfl ?_
    refine T_bipush (v := nI 99) dX5_orderStands_25 (by decide +kernel) ?_
    refine T_pV2 lX5_67 rfl (by decide) (cell_1 _ _) (c_number _ (by omega) F G tx n (stepP tx n p.2).1 (stepP tx n p.2).2 cl te hn hF hG s1.2.2.2 s1.2.2.1 _ _) (by omega) (Nat.le_of_ble_eq_true rfl) dX5_orderStands_27 ?_
    refine T_is3 dX5_orderStands_30 rfl ?_
    refine T_il3 dX5_orderStands_31 ?_
    refine T_iconst (v := -1) dX5_orderStands_32 rfl ?_
    refine T_icmp_ne 38 dX5_orderStands_33 (by decide) (fun h2 => ?_) (fun h2 => ?_)
    · rw [if_neg h2]
      refine T_al0 dX5_orderStands_38 ?_
      refine T_cV0 lX5_25 rfl (by decide) (cell_1 _ _) (c_step _ (by omega) F G tx n (stepP tx n p.2).1 (stepP tx n p.2).2 cl te hn hF hG s1.2.2.2) (by omega) (Nat.le_of_ble_eq_true rfl) dX5_orderStands_39 (fun v F' G' hP => ?_)
      obtain ⟨rfl, rfl, rfl⟩ := hP
      refine T_al1 dX5_orderStands_42 ?_
      refine T_il2 dX5_orderStands_43 ?_
      refine T_il3 dX5_orderStands_44 ?_
      refine T_cV2 lX5_92 rfl (by omega) (cell_T _ _ (by first | assumption | decide)) (c_addOrder _ _ _ 11 (by decide) (tM te) (rF_t1 _ _ _ _ _) hr _ _) (by omega) (Nat.le_of_ble_eq_true rfl) dX5_orderStands_45 (fun v F' G' hP => ?_)
      obtain ⟨rfl, rfl, rfl⟩ := hP
      rw [rF_u1, rG_ord]
      refine T_iconst (v := nI 1) dX5_orderStands_48 rfl ?_
      refine T_bret1 rfl dX5_orderStands_49 ?_
      exact ⟨rfl, rfl, rfl⟩
    · rw [if_pos h2]
      refine T_iconst (v := nI 0) dX5_orderStands_36 rfl ?_
      refine T_bret0 rfl dX5_orderStands_37 ?_
      exact ⟨rfl, rfl, rfl⟩
  · rw [if_pos h1]
    refine T_iconst (v := nI 0) dX5_orderStands_17 rfl ?_
    refine T_bret0 rfl dX5_orderStands_18 ?_
    exact ⟨rfl, rfl, rfl⟩
theorem c_overS (d : Nat) (hd : 3 ≤ d) (F : FT) (G : GT) (tx : List Int32) (n cl : Nat) (te : TeS) (p : Nat × Nat) (hn : n ≤ 160) (hF : F 1 1 = nI n) (hG : G 2 = tx) (he : p.2 ≤ n) (hb : p.1 ≤ p.2) (hr : tN te ≤ 8) : Kc DX5_overStands d [.ref 1, .ref 11] (rF F p.1 p.2 cl te) (rG G te) (RP F G cl (ovP tx n te p)) := by
  have s1 := stepP_le tx (e := p.2) he
  have s2 := stepP_le tx (e := (stepP tx n p.2).2) s1.2.2.2
  have g15 : rG G te 15 = tOv te := (rG_t G te).2.2.2.1
  refine Kc.ofT [some (.ref 1), some (.ref 11), none, none] pn_X5 (Nat.le_of_ble_eq_true rfl) rfl ?_
  refine T_al0 dX5_overStands_0 ?_
  refine T_iconst (v := nI 0) dX5_overStands_1 rfl ?_
  refine T_al1 dX5_overStands_2 ?_
  refine T_g4 gX5_75 (by first | assumption | decide) (cell_T _ _ (by first | assumption | decide)) rfl dX5_overStands_3 ?_
  rw [rF_t0]
  refine T_iconst (v := nI 1) dX5_overStands_6 rfl ?_
  refine T_isub dX5_overStands_7 ?_
  refine T_pV2 lX5_67 rfl (by decide) (cell_1 _ _) (c_number _ (by omega) F G tx n p.1 p.2 cl te hn hF hG he hb _ _) (by omega) (Nat.le_of_ble_eq_true rfl) dX5_overStands_8 ?_
  refine T_is2 dX5_overStands_11 rfl ?_
  refine T_il2 dX5_overStands_12 ?_
  refine T_iconst (v := -1) dX5_overStands_13 rfl ?_
  rw [ovP]
  refine T_L (L' := [some (.ref 1), some (.ref 11), some (.int (n1I tx n te p)), none]) rfl ?_
  refine T_st (st' := [.int (-1), .int (n1I tx n te p)]) rfl ?_
  refine T_icmp_ne 19 dX5_overStands_14 (by decide) (fun h1 => ?_) (fun h1 => ?_)
  · rw [if_neg h1]
    obtain ⟨i, hi, ei⟩ := n1_ok hr h1
    refine T_al0 dX5_overStands_19 ?_
    refine T_cV0 lX5_25 rfl (by decide) (cell_1 _ _) (c_step _ (by omega) F G tx n p.1 p.2 cl te hn hF hG he) (by omega) (Nat.le_of_ble_eq_true rfl) dX5_overStands_20 (fun v F' G' hP => ?_)
    obtain ⟨rfl, rfl, rfl⟩ := hP
    refine T_al0 dX5_overStands_23 ?_
    refine T_iconst (v := nI 0) dX5_overStands_24 rfl ?_
    refine T_al1 dX5_overStands_25 ?_
    refine T_g4 gX5_75 (by first | assumption | decide) (cell_T _ _ (by first | assumption | decide)) rfl dX5_overStands_26 ?_
    rw [rF_t0]
    refine T_iconst (v := nI 1) dX5_overStands_29 rfl ?_
    refine T_isub dX5_overStands_30 ?_
    refine T_pV2 lX5_67 rfl (by decide) (cell_1 _ _) (c_number _ (by omega) F G tx n (stepP tx n p.2).1 (stepP tx n p.2).2 cl te hn hF hG s1.2.2.2 s1.2.2.1 _ _) (by omega) (Nat.le_of_ble_eq_true rfl) dX5_overStands_31 ?_
    refine T_is3 dX5_overStands_34 rfl ?_
    refine T_il3 dX5_overStands_35 ?_
    refine T_iconst (v := -1) dX5_overStands_36 rfl ?_
    refine T_L (L' := [some (.ref 1), some (.ref 11), some (.int (n1I tx n te p)), some (.int (n1I tx n te (stepP tx n p.2)))]) rfl ?_
    refine T_st (st' := [.int (-1), .int (n1I tx n te (stepP tx n p.2))]) rfl ?_
    refine T_icmp_eq 52 dX5_overStands_37 (by decide) (fun h2 => ?_) (fun h2 => ?_)
    · rw [if_pos (Or.inl h2)]
      refine T_iconst (v := nI 0) dX5_overStands_52 rfl ?_
      refine T_bret0 rfl dX5_overStands_53 ?_
      exact ⟨rfl, rfl, rfl⟩
    · obtain ⟨j, hj, ej⟩ := n1_ok hr h2
      refine T_al1 dX5_overStands_40 ?_
      refine T_g4 gX5_78 (by first | assumption | decide) (cell_T _ _ (by first | assumption | decide)) rfl dX5_overStands_41 ?_
      refine T_il2 dX5_overStands_44 ?_
      refine T_il3 dX5_overStands_45 ?_
      refine T_pT3 lX5_81 (c_makesRing _ (by omega) _ _ 15 rfl rfl _ _) (by omega) (Nat.le_of_ble_eq_true rfl) dX5_overStands_46 ?_
      rw [g15]
      refine T_beq 54 dX5_overStands_49 (by decide) (fun h3 => ?_) (fun h3 => ?_)
      · rw [if_neg (fun z => by rcases z with z | z; (exact h2 z); (rw [ringB] at z; rw [z] at h3; cases h3))]
        refine T_al0 dX5_overStands_54 ?_
        refine T_cV0 lX5_25 rfl (by decide) (cell_1 _ _) (c_step _ (by omega) F G tx n (stepP tx n p.2).1 (stepP tx n p.2).2 cl te hn hF hG s1.2.2.2) (by omega) (Nat.le_of_ble_eq_true rfl) dX5_overStands_55 (fun v F' G' hP => ?_)
        obtain ⟨rfl, rfl, rfl⟩ := hP
        rw [ei, ej, sv_nI (by omega)]
        refine T_al1 dX5_overStands_58 ?_
        refine T_g4 gX5_78 (by first | assumption | decide) (cell_T _ _ (by first | assumption | decide)) rfl dX5_overStands_59 ?_
        refine T_il3 dX5_overStands_62 ?_
        refine T_dup2 dX5_overStands_63 rfl rfl ?_
        refine T_aldN (isT_I (by first | assumption | decide)).2.2.2.1 (show _ < 8 by omega) dX5_overStands_64 ?_
        refine T_il2 dX5_overStands_65 ?_
        refine T_pT1 lX5_85 (c_bit _ _ _ _) (by omega) (Nat.le_of_ble_eq_true rfl) dX5_overStands_66 ?_
        refine T_ior dX5_overStands_69 ?_
        rw [show rG G te (11 + 4) = _ from g15]
        refine T_astN (a := 15) rfl (show j < 8 by omega) dX5_overStands_70 ?_
        rw [g15, rG_u15]
        refine T_iconst (v := nI 1) dX5_overStands_71 rfl ?_
        refine T_bret1 rfl dX5_overStands_72 ?_
        exact ⟨rfl, rfl, rfl⟩
      · have h3 : ringB (tOv te) (n1I tx n te p) (n1I tx n te (stepP tx n p.2)) = true := h3
        rw [if_pos (Or.inr h3)]
        refine T_iconst (v := nI 0) dX5_overStands_52 rfl ?_
        refine T_bret0 rfl dX5_overStands_53 ?_
        exact ⟨rfl, rfl, rfl⟩
  · rw [if_pos h1]
    refine T_iconst (v := nI 0) dX5_overStands_17 rfl ?_
    refine T_bret0 rfl dX5_overStands_18 ?_
    exact ⟨rfl, rfl, rfl⟩
theorem c_knotS (d : Nat) (hd : 3 ≤ d) (F : FT) (G : GT) (tx : List Int32) (n cl : Nat) (te : TeS) (p : Nat × Nat) (hn : n ≤ 160) (hF : F 1 1 = nI n) (hG : G 2 = tx) (he : p.2 ≤ n) (hb : p.1 ≤ p.2) (hr : tN te ≤ 8) : Kc DX5_knotStands d [.ref 1, .ref 11] (rF F p.1 p.2 cl te) (rG G te) (RP F G cl (knP tx n te p)) := by
  have s1 := stepP_le tx (e := p.2) he
  have s2 := stepP_le tx (e := (stepP tx n p.2).2) s1.2.2.2
  have g16 : rG G te 16 = tKn te := (rG_t G te).2.2.2.2.1
  refine Kc.ofT [some (.ref 1), some (.ref 11), none, none] pn_X5 (Nat.le_of_ble_eq_true rfl) rfl ?_
  refine T_al0 dX5_knotStands_0 ?_
  refine T_iconst (v := nI 0) dX5_knotStands_1 rfl ?_
  refine T_al1 dX5_knotStands_2 ?_
  refine T_g4 gX5_75 (by first | assumption | decide) (cell_T _ _ (by first | assumption | decide)) rfl dX5_knotStands_3 ?_
  rw [rF_t0]
  refine T_iconst (v := nI 1) dX5_knotStands_6 rfl ?_
  refine T_isub dX5_knotStands_7 ?_
  refine T_pV2 lX5_67 rfl (by decide) (cell_1 _ _) (c_number _ (by omega) F G tx n p.1 p.2 cl te hn hF hG he hb _ _) (by omega) (Nat.le_of_ble_eq_true rfl) dX5_knotStands_8 ?_
  refine T_is2 dX5_knotStands_11 rfl ?_
  refine T_il2 dX5_knotStands_12 ?_
  refine T_iconst (v := -1) dX5_knotStands_13 rfl ?_
  rw [knP]
  refine T_L (L' := [some (.ref 1), some (.ref 11), some (.int (n1I tx n te p)), none]) rfl ?_
  refine T_st (st' := [.int (-1), .int (n1I tx n te p)]) rfl ?_
  refine T_icmp_ne 19 dX5_knotStands_14 (by decide) (fun h1 => ?_) (fun h1 => ?_)
  · rw [if_neg h1]
    obtain ⟨i, hi, ei⟩ := n1_ok hr h1
    refine T_al0 dX5_knotStands_19 ?_
    refine T_cV0 lX5_25 rfl (by decide) (cell_1 _ _) (c_step _ (by omega) F G tx n p.1 p.2 cl te hn hF hG he) (by omega) (Nat.le_of_ble_eq_true rfl) dX5_knotStands_20 (fun v F' G' hP => ?_)
    obtain ⟨rfl, rfl, rfl⟩ := hP
    refine T_al0 dX5_knotStands_23 ?_
    refine T_iconst (v := nI 0) dX5_knotStands_24 rfl ?_
    refine T_al1 dX5_knotStands_25 ?_
    refine T_g4 gX5_75 (by first | assumption | decide) (cell_T _ _ (by first | assumption | decide)) rfl dX5_knotStands_26 ?_
    rw [rF_t0]
    refine T_iconst (v := nI 1) dX5_knotStands_29 rfl ?_
    refine T_isub dX5_knotStands_30 ?_
    refine T_pV2 lX5_67 rfl (by decide) (cell_1 _ _) (c_number _ (by omega) F G tx n (stepP tx n p.2).1 (stepP tx n p.2).2 cl te hn hF hG s1.2.2.2 s1.2.2.1 _ _) (by omega) (Nat.le_of_ble_eq_true rfl) dX5_knotStands_31 ?_
    refine T_is3 dX5_knotStands_34 rfl ?_
    refine T_il3 dX5_knotStands_35 ?_
    refine T_iconst (v := -1) dX5_knotStands_36 rfl ?_
    refine T_L (L' := [some (.ref 1), some (.ref 11), some (.int (n1I tx n te p)), some (.int (n1I tx n te (stepP tx n p.2)))]) rfl ?_
    refine T_st (st' := [.int (-1), .int (n1I tx n te (stepP tx n p.2))]) rfl ?_
    refine T_icmp_eq 45 dX5_knotStands_37 (by decide) (fun h2 => ?_) (fun h2 => ?_)
    · rw [if_pos (Or.inl h2)]
      refine T_iconst (v := nI 0) dX5_knotStands_45 rfl ?_
      refine T_bret0 rfl dX5_knotStands_46 ?_
      exact ⟨rfl, rfl, rfl⟩
    · obtain ⟨j, hj, ej⟩ := n1_ok hr h2
      refine T_il3 dX5_knotStands_40 ?_
      refine T_il2 dX5_knotStands_41 ?_
      refine T_icmp_ne 47 dX5_knotStands_42 (by decide) (fun h3 => ?_) (fun h3 => ?_)
      · rw [if_neg (fun z => z.elim h2 h3)]
        refine T_al0 dX5_knotStands_47 ?_
        refine T_cV0 lX5_25 rfl (by decide) (cell_1 _ _) (c_step _ (by omega) F G tx n (stepP tx n p.2).1 (stepP tx n p.2).2 cl te hn hF hG s1.2.2.2) (by omega) (Nat.le_of_ble_eq_true rfl) dX5_knotStands_48 (fun v F' G' hP => ?_)
        obtain ⟨rfl, rfl, rfl⟩ := hP
        rw [knT, ei, ej, sv_nI (by omega), sv_nI (by omega)]
        refine T_al1 dX5_knotStands_51 ?_
        refine T_g4 gX5_89 (by first | assumption | decide) (cell_T _ _ (by first | assumption | decide)) rfl dX5_knotStands_52 ?_
        refine T_il2 dX5_knotStands_55 ?_
        refine T_dup2 dX5_knotStands_56 rfl rfl ?_
        refine T_aldN (isT_I (by first | assumption | decide)).2.2.2.2.1 (show _ < 8 by omega) dX5_knotStands_57 ?_
        refine T_il3 dX5_knotStands_58 ?_
        refine T_pT1 lX5_85 (c_bit _ _ _ _) (by omega) (Nat.le_of_ble_eq_true rfl) dX5_knotStands_59 ?_
        refine T_ior dX5_knotStands_62 ?_
        rw [show rG G te (11 + 5) = _ from g16]
        refine T_astN (a := 16) rfl (show i < 8 by omega) dX5_knotStands_63 ?_
        rw [g16]
        refine T_al1 dX5_knotStands_64 ?_
        refine T_g4 gX5_89 (by first | assumption | decide) (cell_T _ _ (by first | assumption | decide)) rfl dX5_knotStands_65 ?_
        refine T_il3 dX5_knotStands_68 ?_
        refine T_dup2 dX5_knotStands_69 rfl rfl ?_
        refine T_aldN (isT_I (by first | assumption | decide)).2.2.2.2.1 (show _ < 8 by omega) dX5_knotStands_70 ?_
        refine T_il2 dX5_knotStands_71 ?_
        refine T_pT1 lX5_85 (c_bit _ _ _ _) (by omega) (Nat.le_of_ble_eq_true rfl) dX5_knotStands_72 ?_
        refine T_ior dX5_knotStands_75 ?_
        refine T_astN (a := 16) rfl (show j < 8 by omega) dX5_knotStands_76 ?_
        rw [u1_s, u1_u1, rG_u16]
        refine T_iconst (v := nI 1) dX5_knotStands_77 rfl ?_
        refine T_bret1 rfl dX5_knotStands_78 ?_
        exact ⟨rfl, rfl, rfl⟩
      · rw [if_pos (Or.inr h3)]
        refine T_iconst (v := nI 0) dX5_knotStands_45 rfl ?_
        refine T_bret0 rfl dX5_knotStands_46 ?_
        exact ⟨rfl, rfl, rfl⟩
  · rw [if_pos h1]
    refine T_iconst (v := nI 0) dX5_knotStands_17 rfl ?_
    refine T_bret0 rfl dX5_knotStands_18 ?_
    exact ⟨rfl, rfl, rfl⟩
