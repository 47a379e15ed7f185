theorem XR.rd {a : AS} {F : FT} {G : GT} (h : XR a F G) (b e cl : Nat) (te : TeS) : XR a (rF F b e cl te) (rG G te) := by
  have f1 : ∀ c i, c ≠ 1 → c ≠ 11 → rF F b e cl te c i = F c i := fun c i h1 h2 => by simp [rF, h1, h2]
  have g1 : ∀ c, (c < 12 ∨ 18 < c) → rG G te c = G c := fun c hc => by
    simp only [rG]; rw [if_neg (by omega), if_neg (by omega), if_neg (by omega), if_neg (by omega), if_neg (by omega), if_neg (by omega), if_neg (by omega)]
  have go : ∀ k : Nat, 18 < k → gL (rF F b e cl te) (rG G te) k = gL F G k := fun k hk => gL_o (fun i => f1 k i (by omega) (by omega)) (fun c hc _ => g1 c (by omega))
  obtain ⟨hT, ⟨t1, t2, t3, t4, t5, t6, t7, t8, t9⟩, hn, ⟨p, p1, p2, p3, p4, p5⟩, k1, k2, k3⟩ := h
  refine ⟨⟨by rw [g1 _ (by decide)]; exact hT.1, by rw [rF_11]; exact hT.2⟩, ⟨by rw [f1 _ _ (by decide) (by decide)]; exact t1, by rw [f1 _ _ (by decide) (by decide)]; exact t2, by rw [g1 _ (by decide)]; exact t3, by rw [g1 _ (by decide)]; exact t4, by rw [g1 _ (by decide)]; exact t5, by rw [g1 _ (by decide)]; exact t6, by rw [g1 _ (by decide)]; exact t7, by rw [g1 _ (by decide)]; exact t8, by rw [g1 _ (by decide)]; exact t9⟩, by rw [go _ (by decide)]; exact hn, ⟨p, p1, by rw [f1 _ _ (by decide) (by decide)]; exact p2, by rw [f1 _ _ (by decide) (by decide)]; exact p3, p4, fun j x hj => by rw [go _ (by omega)]; exact p5 j x hj⟩, by rw [f1 _ _ (by decide) (by decide)]; exact k1, fun x hx => by rw [go _ (by decide)]; exact k2 x hx, fun x hx => by rw [go _ (by decide)]; exact k3 x hx⟩
theorem FrM.rd {F : FT} {G : GT} (b e cl : Nat) (te : TeS) : FrM F G (rF F b e cl te) (rG G te) := by
  refine ⟨fun i => by simp [rF], fun c hc => ?_⟩
  simp only [rG]; rw [if_neg (by omega), if_neg (by omega), if_neg (by omega), if_neg (by omega), if_neg (by omega), if_neg (by omega), if_neg (by omega)]
theorem tc_rF {F : FT} {G : GT} {x : TeS} (h : TellR 3 F G x) : ∃ b e cl, tcF F 11 3 = rF F b e cl x ∧ tcG G 11 3 = rG G x := by
  obtain ⟨t1, t2, t3, t4, t5, t6, t7, t8, t9⟩ := h
  refine ⟨(F 1 3).toBitVec.toNat, (F 1 4).toBitVec.toNat, (F 1 2).toBitVec.toNat, ?_, ?_⟩
  · funext c i
    simp only [tcF, rF]
    rw [← nI_any (F 1 3), ← nI_any (F 1 4), ← nI_any (F 1 2)]
    by_cases hc : c = 11
    · subst hc
      by_cases h0 : i = 0
      · subst h0; simp [t1]
      · by_cases h1 : i = 1
        · subst h1; simp [t2]
        · simp [h0, h1, show ¬ i < 2 by omega]
    · by_cases hc1 : c = 1
      · subst hc1
        by_cases h3 : i = 3
        · simp [h3]
        · by_cases h4 : i = 4
          · simp [h4]
          · by_cases h2 : i = 2 <;> simp [h2, h3, h4]
      · simp [hc, hc1]
  · funext c
    simp only [tcG, rG]
    by_cases hc : 11 < c ∧ c ≤ 11 + 7
    · have : c = 12 ∨ c = 13 ∨ c = 14 ∨ c = 15 ∨ c = 16 ∨ c = 17 ∨ c = 18 := by omega
      rcases this with rfl | rfl | rfl | rfl | rfl | rfl | rfl
      · simpa using t3
      · simpa using t4
      · simpa using t5
      · simpa using t6
      · simpa using t7
      · simpa using t8
      · simpa using t9
    · rw [if_neg hc, if_neg (by omega), if_neg (by omega), if_neg (by omega), if_neg (by omega), if_neg (by omega), if_neg (by omega), if_neg (by omega)]
def ffA (a : AS) : Int32 × Nat × TeS := ffP (aTx a) (aLen a) 14 0 a.2.1 (stepP (aTx a) (aLen a) 0)
theorem x_fault (d : Nat) (hd : 8 ≤ d) (F : FT) (G : GT) (a : AS) (hX : XR a F G) (hn : aN a ≤ 8) (hm : aM a ≤ 6) (hl : aLen a ≤ 160) : Kc DX6_fault d [.ref 0] F G (XP ((ffA a).1, a) F G) := by
  obtain ⟨b, e, cl, e1, e2⟩ := tc_rF hX.2.1
  refine Kc.ofT [some (.ref 0)] pn_X6 (Nat.le_of_ble_eq_true rfl) rfl ?_
  refine T_al0 dX6_fault_0 ?_
  refine T_g6 gX6_23 (cell_0 _ _) rfl dX6_fault_1 ?_
  refine T_al0 dX6_fault_4 ?_
  refine T_g6 gX6_19 (cell_0 _ _) rfl dX6_fault_5 ?_
  refine T_cV1 lX6_76 rfl (by omega) (cell_T _ _ (by first | assumption | decide)) (c_tcopy _ (by omega) F G 11 3 (by decide)) (by omega) (Nat.le_of_ble_eq_true rfl) dX6_fault_8 (fun v F' G' hP => ?_)
  obtain ⟨rfl, rfl, rfl⟩ := hP
  rw [e1, e2]
  refine T_al0 dX6_fault_11 ?_
  refine T_g6 gX6_12 (cell_0 _ _) rfl dX6_fault_12 ?_
  refine T_al0 dX6_fault_15 ?_
  refine T_g6 gX6_23 (cell_0 _ _) rfl dX6_fault_16 ?_
  refine T_cV1 lX6_79 rfl (by decide) (cell_1 _ _) (c_firstFault _ (by omega) F G (aTx a) (aLen a) b e cl a.2.1 hl hX.1.2 hX.1.1 hn hm) (by omega) (Nat.le_of_ble_eq_true rfl) dX6_fault_19 (fun v F' G' hP => ?_)
  obtain ⟨rfl, ⟨b', e', rfl⟩, rfl⟩ := hP
  refine T_iret rfl dX6_fault_22 ?_
  exact ⟨rfl, hX.rd _ _ _ _, FrM.rd _ _ _ _⟩
def s_loom (a : AS) : Int32 × AS := if (ffA a).1 = -1 then (nI (ffA a).2.1, (aTx a, 0), (ffA a).2.2, begL (tN (ffA a).2.2) (tCo (ffA a).2.2) (tOv (ffA a).2.2) (tKn (ffA a).2.2), [], none, none) else (-4, a)
theorem x_loom (d : Nat) (hd : 8 ≤ d) (F : FT) (G : GT) (a : AS) (hX : XR a F G) (hn : aN a ≤ 8) (hm : aM a ≤ 6) (hl : aLen a ≤ 160) : Kc DX6_loom d [.ref 0] F G (XP (s_loom a) F G) := by
  obtain ⟨b, e, cl, e1, e2⟩ := tc_rF hX.2.1
  obtain ⟨hT, -, -, ⟨p, p1, p2, -, -, -⟩, -⟩ := id hX
  refine Kc.ofT [some (.ref 0)] pn_X6 (Nat.le_of_ble_eq_true rfl) rfl ?_
  refine T_al0 dX6_loom_0 ?_
  refine T_g6 gX6_23 (cell_0 _ _) rfl dX6_loom_1 ?_
  refine T_al0 dX6_loom_4 ?_
  refine T_g6 gX6_19 (cell_0 _ _) rfl dX6_loom_5 ?_
  refine T_cV1 lX6_76 rfl (by omega) (cell_T _ _ (by first | assumption | decide)) (c_tcopy _ (by omega) F G 11 3 (by decide)) (by omega) (Nat.le_of_ble_eq_true rfl) dX6_loom_8 (fun v F' G' hP => ?_)
  obtain ⟨rfl, rfl, rfl⟩ := hP
  rw [e1, e2]
  refine T_al0 dX6_loom_11 ?_
  refine T_g6 gX6_12 (cell_0 _ _) rfl dX6_loom_12 ?_
  refine T_al0 dX6_loom_15 ?_
  refine T_g6 gX6_23 (cell_0 _ _) rfl dX6_loom_16 ?_
  refine T_cV1 lX6_79 rfl (by decide) (cell_1 _ _) (c_firstFault _ (by omega) F G (aTx a) (aLen a) b e cl a.2.1 hl hX.1.2 hX.1.1 hn hm) (by omega) (Nat.le_of_ble_eq_true rfl) dX6_loom_19 (fun v F' G' hP => ?_)
  obtain ⟨rfl, ⟨b', e', rfl⟩, rfl⟩ := hP
  rw [s_loom]
  show T _ _ _ _ [.int (ffA a).1] (rF F b' e' (ffA a).2.1 (ffA a).2.2) (rG G (ffA a).2.2) _
  generalize ffA a = r
  obtain ⟨v, c, te⟩ := r
  refine T_iconst (v := -1) dX6_loom_22 rfl ?_
  refine T_icmp_eq 29 dX6_loom_23 (by decide) (fun h1 => ?_) (fun h1 => ?_)
  · rw [if_pos h1]
    refine T_al0 dX6_loom_29 ?_
    refine T_g6 gX6_19 (cell_0 _ _) rfl dX6_loom_30 ?_
    refine T_al0 dX6_loom_33 ?_
    refine T_g6 gX6_23 (cell_0 _ _) rfl dX6_loom_34 ?_
    refine T_cV1 lX6_76 rfl (by omega) (cell_T _ _ (by first | assumption | decide)) (c_tcopy _ (by omega) _ _ 3 11 (by decide)) (by omega) (Nat.le_of_ble_eq_true rfl) dX6_loom_37 (fun v F' G' hP => ?_)
    obtain ⟨rfl, rfl, rfl⟩ := hP
    refine T_al0 dX6_loom_40 ?_
    refine T_g6 gX6_12 (cell_0 _ _) rfl dX6_loom_41 ?_
    refine T_iconst (v := nI 0) dX6_loom_44 rfl ?_
    refine T_put5_1 pX6_69 dX6_loom_45 ?_
    generalize hF1 : u2 (tcF (rF F b' e' c te) 3 11) 1 1 (nI 0) = F1
    generalize hG1 : tcG (rG G te) 3 11 = G1
    have ef : ∀ k i, k ≠ 1 → k ≠ 3 → k ≠ 11 → F1 k i = F k i := fun k i h1 h2 h3 => by
      rw [← hF1, u2_c _ _ h1]; simp [tcF, rF, h1, h2, h3]
    have t0 : F1 3 0 = nI (tN te) := by rw [← hF1, u2_c _ _ (by decide)]; simp [tcF, rF]
    have t1 : F1 3 1 = nI (tM te) := by rw [← hF1, u2_c _ _ (by decide)]; simp [tcF, rF]
    have t12 : F1 1 2 = nI c := by rw [← hF1, u2_f _ _ (by decide)]; simp [tcF, rF]
    have t11 : F1 1 1 = nI 0 := by rw [← hF1, u2_s]
    have tg := rG_t G te
    have g4 : G1 4 = tKd te := by rw [← hG1]; simpa [tcG] using tg.1
    have g5 : G1 5 = tLn te := by rw [← hG1]; simpa [tcG] using tg.2.1
    have g6 : G1 6 = tCo te := by rw [← hG1]; simpa [tcG] using tg.2.2.1
    have g7 : G1 7 = tOv te := by rw [← hG1]; simpa [tcG] using tg.2.2.2.1
    have g8 : G1 8 = tKn te := by rw [← hG1]; simpa [tcG] using tg.2.2.2.2.1
    have g9 : G1 9 = tOt te := by rw [← hG1]; simpa [tcG] using tg.2.2.2.2.2.1
    have g10 : G1 10 = tOd te := by rw [← hG1]; simpa [tcG] using tg.2.2.2.2.2.2
    have g2 : G1 2 = aTx a := by rw [← hG1]; simp only [tcG]; rw [if_neg (by decide), rG_2]; exact hT.1
    have g90 : ∀ k, 90 ≤ k → G1 k = G k := fun k hk => by
      rw [← hG1]; simp only [tcG]; rw [if_neg (by omega)]; exact (FrM.rd (F := F) b' e' c te).2 k hk
    refine T_F (pF_id F1 G1 19).symm (T_G (pG_id F1 G1 19).symm ?_)
    refine T_al0 dX6_loom_48 ?_
    refine T_g6 gX6_31 (cell_0 _ _) rfl dX6_loom_49 ?_
    refine T_cV0 lX6_83 rfl (by first | decide | (have := isL_lt _ (by assumption); omega)) (cell_L _ _ (by first | assumption | decide)) (c_begin _ (by omega) F1 G1 19 (by decide) (gL F1 G1 19) (tN te) t0) (by omega) (Nat.le_of_ble_eq_true rfl) dX6_loom_52 (fun v F' G' hP => ?_)
    obtain ⟨rfl, rfl, rfl⟩ := hP
    rw [g6, g7, g8]
    refine T_al0 dX6_loom_55 ?_
    refine T_g6 gX6_41 (cell_0 _ _) rfl dX6_loom_56 ?_
    refine T_iconst (v := nI 0) dX6_loom_59 rfl ?_
    refine T_put2_2 pX6_86 dX6_loom_60 ?_
    refine T_al0 dX6_loom_63 ?_
    refine T_iconst (v := nI 0) dX6_loom_64 rfl ?_
    refine T_put6_7 pX6_49 dX6_loom_65 ?_
    refine T_al0 dX6_loom_68 ?_
    refine T_g6 gX6_12 (cell_0 _ _) rfl dX6_loom_69 ?_
    refine T_g5 gX6_89 (cell_1 _ _) rfl dX6_loom_72 ?_
    refine T_iret rfl dX6_loom_75 ?_
    rw [u2_c _ _ (by decide), u2_c _ _ (by decide), pF_o _ _ _ (by decide), t12]
    refine ⟨rfl, ⟨⟨?_, ?_⟩, ⟨?_, ?_, ?_, ?_, ?_, ?_, ?_, ?_, ?_⟩, ?_, ⟨p, p1, ?_, ?_, Nat.zero_le 8, fun j x hj => ?_⟩, ?_⟩, ?_, ?_⟩
    · rw [pG_o _ _ (by decide)]; exact g2
    · rw [u2_c _ _ (by decide), u2_c _ _ (by decide), pF_o _ _ _ (by decide)]; exact t11
    · rw [u2_c _ _ (by decide), u2_c _ _ (by decide), pF_o _ _ _ (by decide)]; exact t0
    · rw [u2_c _ _ (by decide), u2_c _ _ (by decide), pF_o _ _ _ (by decide)]; exact t1
    · rw [pG_o _ _ (by decide)]; exact g4
    · rw [pG_o _ _ (by decide)]; exact g5
    · rw [pG_o _ _ (by decide)]; exact g6
    · rw [pG_o _ _ (by decide)]; exact g7
    · rw [pG_o _ _ (by decide)]; exact g8
    · rw [pG_o _ _ (by decide)]; exact g9
    · rw [pG_o _ _ (by decide)]; exact g10
    · rw [gL_o (F := pF F1 19 (begL (tN te) (tCo te) (tOv te) (tKn te))) (G := pG G1 19 (begL (tN te) (tCo te) (tOv te) (tKn te))) (fun i => by rw [u2_c _ _ (by decide), u2_c _ _ (by decide)]) (fun _ _ _ => rfl), gL_p]
    · rw [u2_c _ _ (by decide), u2_f _ _ (by decide), pF_o _ _ _ (by decide), ef 29 1 (by decide) (by decide) (by decide)]; exact p2
    · rw [u2_c _ _ (by decide), u2_s]; rfl
    · have hj : ([] : List LoS)[j]? = some x := hj
      simp at hj
    · refine ⟨u2_s _ _ _ _, ?_, ?_⟩ <;> (intro x hx; exact absurd (show (none : Option LoS) = some x from hx) (by simp))
    · intro i; rw [u2_c _ _ (by decide), u2_c _ _ (by decide), pF_o _ _ _ (by decide)]; exact ef 89 i (by decide) (by decide) (by decide)
    · intro k hk; rw [pG_o _ _ (by omega)]; exact g90 k hk
  · rw [if_neg h1]
    refine T_bipush (v := -4) dX6_loom_26 (by decide +kernel) ?_
    refine T_iret rfl dX6_loom_28 ?_
    exact ⟨rfl, hX.rd _ _ _ _, FrM.rd _ _ _ _⟩
