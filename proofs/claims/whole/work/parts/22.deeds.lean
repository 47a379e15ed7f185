/-! the class's public methods that change something: answer and state -/
def s_write (a : AS) (x : Int32) : Int32 × AS := if x < 0 ∨ nI 255 < x then (-3, a) else if aLen a < 160 then (nI (aLen a + 1), ((aTx a).set (aLen a) x, aLen a + 1), a.2) else (-5, a)
def XP (r : Int32 × AS) (F : FT) (G : GT) : Option Value → FT → GT → Prop := fun v F' G' => v = some (.int r.1) ∧ XR r.2 F' G' ∧ FrM F G F' G'
theorem XP.rf {r : Int32} {a : AS} {F : FT} {G : GT} (h : XR a F G) : XP (r, a) F G (some (.int r)) F G := ⟨rfl, h, FrM.rf⟩
theorem XR.text {a : AS} {F : FT} {G : GT} (h : XR a F G) {F' : FT} {G' : GT} {tx : List Int32} {n : Nat} (h1 : ∀ c i, c ≠ 1 → F' c i = F c i) (h2 : ∀ c, c ≠ 2 → G' c = G c) (h3 : G' 2 = tx) (h4 : F' 1 1 = nI n) : XR ((tx, n), a.2) F' G' := by
  obtain ⟨-, ⟨t1, t2, t3, t4, t5, t6, t7, t8, t9⟩, hn, ⟨p, p1, p2, p3, p4, p5⟩, k1, k2, k3⟩ := h
  have go : ∀ b : Nat, 2 < b → gL F' G' b = gL F G b := fun b hb => gL_o (fun i => h1 b i (by omega)) (fun c hc _ => h2 c (by omega))
  refine ⟨⟨h3, h4⟩, ⟨by rw [h1 _ _ (by decide)]; exact t1, by rw [h1 _ _ (by decide)]; exact t2, by rw [h2 _ (by decide)]; exact t3, by rw [h2 _ (by decide)]; exact t4, by rw [h2 _ (by decide)]; exact t5, by rw [h2 _ (by decide)]; exact t6, by rw [h2 _ (by decide)]; exact t7, by rw [h2 _ (by decide)]; exact t8, by rw [h2 _ (by decide)]; exact t9⟩, by rw [go _ (by decide)]; exact hn, ⟨p, p1, by rw [h1 _ _ (by decide)]; exact p2, by rw [h1 _ _ (by decide)]; exact p3, p4, fun j x hj => ?_⟩, by rw [h1 _ _ (by decide)]; exact k1, fun x hx => by rw [go _ (by decide)]; exact k2 x hx, fun x hx => by rw [go _ (by decide)]; exact k3 x hx⟩
  rw [go _ (by omega)]; exact p5 j x hj
theorem c_add (d : Nat) (F : FT) (G : GT) (n : Nat) (hF : F 1 1 = nI n) (hn : n < 160) (x : Int32) : Kc DX5_add d [.ref 1, .int x] F G (fun v F' G' => v = none ∧ F' = u2 F 1 1 (nI (n + 1)) ∧ G' = u1 G 2 ((G 2).set n x)) := by
  refine Kc.ofT [some (.ref 1), some (.int x)] pn_X5 (Nat.le_of_ble_eq_true rfl) rfl ?_
  refine T_al0 dX5_add_0 ?_
  refine T_g5 gX5_15 (cell_1 _ _) rfl dX5_add_1 ?_
  refine T_sipush (v := nI 160) dX5_add_4 (by decide +kernel) ?_
  rw [hF]
  refine T_nge_f 30 dX5_add_7 (by decide) (by omega) (by omega) (by omega) ?_
  refine T_al0 dX5_add_10 ?_
  refine T_g5 gX5_9 (cell_1 _ _) rfl dX5_add_11 ?_
  refine T_al0 dX5_add_14 ?_
  refine T_g5 gX5_15 (cell_1 _ _) rfl dX5_add_15 ?_
  rw [hF]
  refine T_il1 dX5_add_18 ?_
  refine T_astN rfl (show _ < 160 by omega) dX5_add_19 ?_
  refine T_al0 dX5_add_20 ?_
  refine T_dup dX5_add_21 rfl ?_
  refine T_g5 gX5_15 (cell_1 _ _) rfl dX5_add_22 ?_
  rw [hF]
  refine T_iconst (v := nI 1) dX5_add_25 rfl ?_
  first | refine T_iaddN dX5_add_26 ?_ | refine T_iadd dX5_add_26 ?_
  refine T_put5_1 pX5_15 dX5_add_27 ?_
  refine T_vret rfl dX5_add_30 ?_
  exact ⟨rfl, rfl, rfl⟩
theorem x_write (d : Nat) (hd : 1 ≤ d) (F : FT) (G : GT) (a : AS) (hX : XR a F G) (hl : aLen a ≤ 160) (x : Int32) : Kc DX6_write d [.ref 0, .int x] F G (XP (s_write a x) F G) := by
  have eL := hX.1.2
  have eT := hX.1.1
  refine Kc.ofT [some (.ref 0), some (.int x)] pn_X6 (Nat.le_of_ble_eq_true rfl) rfl ?_
  refine T_il1 dX6_write_0 ?_
  refine T_if_lt 11 dX6_write_1 (by decide) (fun h1 => ?_) (fun h1 => ?_)
  · refine T_bipush (v := -3) dX6_write_11 (by decide +kernel) ?_
    refine T_iret rfl dX6_write_13 ?_
    rw [s_write, if_pos (Or.inl h1)]; exact XP.rf hX
  · refine T_il1 dX6_write_4 ?_
    refine T_sipush (v := nI 255) dX6_write_5 (by decide +kernel) ?_
    refine T_icmp_le 14 dX6_write_8 (by decide) (fun h2 => ?_) (fun h2 => ?_)
    · have h12 : ¬ (x < 0 ∨ nI 255 < x) := fun z => z.elim h1 (Int32.not_lt.mpr h2)
      refine T_al0 dX6_write_14 ?_
      refine T_g6 gX6_12 (cell_0 _ _) rfl dX6_write_15 ?_
      refine T_g5 gX6_69 (cell_1 _ _) rfl dX6_write_18 ?_
      refine T_sipush (v := nI 160) dX6_write_21 (by decide +kernel) ?_
      rw [eL]
      refine T_nlt 30 dX6_write_24 (by decide) (by omega) (by omega) (fun h3 => ?_) (fun h3 => ?_)
      · refine T_al0 dX6_write_30 ?_
        refine T_g6 gX6_12 (cell_0 _ _) rfl dX6_write_31 ?_
        refine T_il1 dX6_write_34 ?_
        refine T_cV1 lX6_72 rfl (by decide) (cell_1 _ _) (c_add _ F G (aLen a) eL h3 x) (by omega) (Nat.le_of_ble_eq_true rfl) dX6_write_35 (fun v F' G' hP => ?_)
        obtain ⟨rfl, rfl, rfl⟩ := hP
        refine T_al0 dX6_write_38 ?_
        refine T_g6 gX6_12 (cell_0 _ _) rfl dX6_write_39 ?_
        refine T_g5 gX6_69 (cell_1 _ _) rfl dX6_write_42 ?_
        rw [u2_s]
        refine T_iret rfl dX6_write_45 ?_
        rw [s_write, if_neg h12, if_pos h3]
        refine ⟨rfl, hX.text (fun c i hc => u2_c _ _ hc) (fun c hc => u1_n _ _ hc) ?_ (u2_s _ _ _ _), (FrM.rf.u2 (by decide)).u1 (by decide)⟩
        rw [u1_s, eT]
      · refine T_bipush (v := -5) dX6_write_27 (by decide +kernel) ?_
        refine T_iret rfl dX6_write_29 ?_
        rw [s_write, if_neg h12, if_neg (by omega)]; exact XP.rf hX
    · refine T_bipush (v := -3) dX6_write_11 (by decide +kernel) ?_
      refine T_iret rfl dX6_write_13 ?_
      rw [s_write, if_pos (Or.inr (Int32.not_le.mp h2))]; exact XP.rf hX
def s_erase (a : AS) : Int32 × AS := (nI (aLen a), (aTx a, 0), a.2)
theorem x_erase (d : Nat) (F : FT) (G : GT) (a : AS) (hX : XR a F G) : Kc DX6_erase d [.ref 0] F G (XP (s_erase a) F G) := by
  have eL := hX.1.2
  have eT := hX.1.1
  refine Kc.ofT [some (.ref 0), none] pn_X6 (Nat.le_of_ble_eq_true rfl) rfl ?_
  refine T_al0 dX6_erase_0 ?_
  refine T_g6 gX6_12 (cell_0 _ _) rfl dX6_erase_1 ?_
  refine T_g5 gX6_69 (cell_1 _ _) rfl dX6_erase_4 ?_
  rw [eL]
  refine T_is1 dX6_erase_7 rfl ?_
  refine T_al0 dX6_erase_8 ?_
  refine T_g6 gX6_12 (cell_0 _ _) rfl dX6_erase_9 ?_
  refine T_iconst (v := nI 0) dX6_erase_12 rfl ?_
  refine T_put5_1 pX6_69 dX6_erase_13 ?_
  refine T_il1 dX6_erase_16 ?_
  refine T_iret rfl dX6_erase_17 ?_
  exact ⟨rfl, hX.text (fun c i hc => u2_c _ _ hc) (fun c hc => rfl) eT (u2_s _ _ _ _), FrM.rf.u2 (by decide)⟩
theorem XR.pp {a : AS} {F : FT} {G : GT} (h : XR a F G) : F = pF F 19 (aNow a) ∧ G = pG G 19 (aNow a) := by
  have e := h.2.2.1
  exact ⟨by rw [← e, pF_id], by rw [← e, pG_id]⟩
def s_cut (a : AS) (t : Int32) : Int32 × AS := if knB (aN a) t = true then (if hasI (lWhole (aNow a)) t = true then (nI (pop8 (sv (fallA a (sv t)))), wDo a (cutS (aN a) (aKd a) (aLn a) (sv t) (aNow a))) else (-4, a)) else (-2, a)
theorem x_cut (d : Nat) (hd : 4 ≤ d) (F : FT) (G : GT) (a : AS) (hX : XR a F G) (hn : aN a ≤ 8) (ho : okS (lOv (aNow a))) (hk : okS (lKn (aNow a))) (t : Int32) : Kc DX6_cut d [.ref 0, .int t] F G (XP (s_cut a t) F G) := by
  obtain ⟨e0, e1, e4, e5, e9, e10, f1, f2, f3, f4, g0, g1, g2, g3⟩ := hX.eqs
  refine Kc.ofT [some (.ref 0), some (.int t)] pn_X6 (Nat.le_of_ble_eq_true rfl) rfl ?_
  refine T_al0 dX6_cut_0 ?_
  refine T_il1 dX6_cut_1 ?_
  refine T_pV1 lX6_92 rfl (by decide) (cell_0 _ _) (c_known _ _ _ _ (by assumption) _) (by omega) (Nat.le_of_ble_eq_true rfl) dX6_cut_2 ?_
  refine T_bne 11 dX6_cut_5 (by decide) (fun h1 => ?_) (fun h1 => ?_)
  · obtain ⟨k, hk', rfl⟩ := knB_ok hn h1
    have hs : sv (nI k) = k := sv_nI (by omega)
    refine T_al0 dX6_cut_11 ?_
    refine T_g6 gX6_31 (cell_0 _ _) rfl dX6_cut_12 ?_
    refine T_il1 dX6_cut_15 ?_
    refine T_pV1 lX6_123 rfl (by first | decide | (have := isL_lt _ (by assumption); omega)) (cell_L _ _ (by first | assumption | decide)) (c_isWhole _ (by omega) _ _ _ (by first | assumption | decide) _) (by omega) (Nat.le_of_ble_eq_true rfl) dX6_cut_16 ?_
    refine T_bne 25 dX6_cut_19 (by decide) (fun h2 => ?_) (fun h2 => ?_)
    · rw [f3] at h2
      refine T_al0 dX6_cut_25 ?_
      refine T_g6 gX6_41 (cell_0 _ _) rfl dX6_cut_26 ?_
      refine T_al0 dX6_cut_29 ?_
      refine T_g6 gX6_31 (cell_0 _ _) rfl dX6_cut_30 ?_
      refine T_cV1 lX6_148 rfl (by decide) (cell_29 _ _) (c_remember _ (by omega) F G a hX) (by omega) (Nat.le_of_ble_eq_true rfl) dX6_cut_33 (fun v F' G' hP => ?_)
      obtain ⟨rfl, hX1, hM1, hF3, hG24⟩ := hP
      obtain ⟨p1, p2⟩ := hX1.pp
      have k0 : F' 3 0 = nI (aN a) := by rw [hF3]; exact e0
      have k4 : G' 4 = aKd a := (hG24 4 (by decide)).trans e4
      have k5 : G' 5 = aLn a := (hG24 5 (by decide)).trans e5
      refine T_al0 dX6_cut_36 ?_
      refine T_g6 gX6_31 (cell_0 _ _) rfl dX6_cut_37 ?_
      refine T_il1 dX6_cut_40 ?_
      refine T_F p1 (T_G p2 ?_)
      refine T_cV1 lX6_152 rfl (by omega) (cell_L _ _ (by decide)) (c_cutAt _ (by omega) F' G' 19 (by decide) (aNow a) ho (aN a) hn k0 k (by omega)) (by omega) (Nat.le_of_ble_eq_true rfl) dX6_cut_41 (fun v F2 G2 hP => ?_)
      obtain ⟨rfl, rfl, rfl⟩ := hP
      obtain ⟨m, hm, em⟩ := fall_S8 (kd := G' 4) ho hk (lWhole (aNow a)) (i := k) (by omega)
      show T _ _ _ _ [.int (fallI (G' 4) (lOv (aNow a)) (lKn (aNow a)) (lWhole (aNow a)) k)] _ _ _
      rw [em]
      refine T_pS1 lX6_155 (c_bitCount _ _ _ _ (by assumption)) (by omega) (Nat.le_of_ble_eq_true rfl) dX6_cut_44 ?_
      refine T_iret rfl dX6_cut_47 ?_
      rw [s_cut, if_pos h1, if_pos h2, hs]
      have eF : fallA a k = nI m := by rw [fallA, ← k4]; exact em
      rw [eF, sv_nI (by omega), k4, k5]
      exact ⟨rfl, hX1.now _, hM1.p (by decide)⟩
    · rw [f3] at h2
      refine T_bipush (v := -4) dX6_cut_22 (by decide +kernel) ?_
      refine T_iret rfl dX6_cut_24 ?_
      rw [s_cut, if_pos h1, if_neg (by rw [h2]; decide)]; exact XP.rf hX
  · refine T_bipush (v := -2) dX6_cut_8 (by decide +kernel) ?_
    refine T_iret rfl dX6_cut_10 ?_
    rw [s_cut, if_neg (by rw [h1]; decide)]; exact XP.rf hX
def wOv (x : LoS) (l : List Int32) : LoS := (x.1, x.2.1, x.2.2.1, x.2.2.2.1, x.2.2.2.2.1, l, x.2.2.2.2.2.2)
def wKn (x : LoS) (l : List Int32) : LoS := (x.1, x.2.1, x.2.2.1, x.2.2.2.1, x.2.2.2.2.1, x.2.2.2.2.2.1, l, x.2.2.2.2.2.2.2)
def wCol (x : LoS) (l : List Int32) : LoS := (x.1, x.2.1, x.2.2.1, x.2.2.2.1, l, x.2.2.2.2.2)
theorem XR.ov {a : AS} {F : FT} {G : GT} (h : XR a F G) (l : List Int32) : XR (wNow a (wOv (aNow a) l)) F (u1 G 21 l) := by
  obtain ⟨p1, p2⟩ := h.pp
  have h2 := h.now (wOv (aNow a) l)
  have q1 : pF F 19 (wOv (aNow a) l) = F := (show pF F 19 (wOv (aNow a) l) = pF F 19 (aNow a) from rfl).trans p1.symm
  have q2 : pG G 19 (wOv (aNow a) l) = u1 G 21 l := (uG_2 G 19 (aNow a) l).symm.trans (congrArg (fun g => u1 g 21 l) p2.symm)
  rw [q1, q2] at h2; exact h2
theorem XR.kn {a : AS} {F : FT} {G : GT} (h : XR a F G) (l : List Int32) : XR (wNow a (wKn (aNow a) l)) F (u1 G 22 l) := by
  obtain ⟨p1, p2⟩ := h.pp
  have h2 := h.now (wKn (aNow a) l)
  have q1 : pF F 19 (wKn (aNow a) l) = F := (show pF F 19 (wKn (aNow a) l) = pF F 19 (aNow a) from rfl).trans p1.symm
  have q2 : pG G 19 (wKn (aNow a) l) = u1 G 22 l := (uG_3 G 19 (aNow a) l).symm.trans (congrArg (fun g => u1 g 22 l) p2.symm)
  rw [q1, q2] at h2; exact h2
theorem XR.col {a : AS} {F : FT} {G : GT} (h : XR a F G) (l : List Int32) : XR (wNow a (wCol (aNow a) l)) F (u1 G 20 l) := by
  obtain ⟨p1, p2⟩ := h.pp
  have h2 := h.now (wCol (aNow a) l)
  have q1 : pF F 19 (wCol (aNow a) l) = F := (show pF F 19 (wCol (aNow a) l) = pF F 19 (aNow a) from rfl).trans p1.symm
  have q2 : pG G 19 (wCol (aNow a) l) = u1 G 20 l := (uG_1 G 19 (aNow a) l).symm.trans (congrArg (fun g => u1 g 20 l) p2.symm)
  rw [q1, q2] at h2; exact h2
def prB (a : AS) (x y : Int32) : Bool := knB (aN a) x && knB (aN a) y && decide (¬ x = y)
theorem prB_ok {a : AS} (hn : aN a ≤ 8) {x y : Int32} (h : prB a x y = true) : ∃ i j, i < aN a ∧ j < aN a ∧ i ≠ j ∧ x = nI i ∧ y = nI j := by
  simp only [prB, Bool.and_eq_true] at h
  obtain ⟨i, hi, rfl⟩ := knB_ok hn h.1.1
  obtain ⟨j, hj, rfl⟩ := knB_ok hn h.1.2
  exact ⟨i, j, hi, hj, fun e => of_decide_eq_true h.2 (by rw [e]), rfl, rfl⟩
def ringB (ov : List Int32) (x y : Int32) : Bool := hasI (spO ov (-1) 8 (bitI x)) y
def s_put (a : AS) (x y : Int32) : Int32 × AS := if prB a x y = true then (if hasI (lWhole (aNow a)) x = true ∧ hasI (lWhole (aNow a)) y = true then (if hasI ((lOv (aNow a)).getD (sv y) 0) x = true ∨ ringB (lOv (aNow a)) x y = true then (-4, a) else (nI (pop8 (sv ((lOv (aNow a)).getD (sv y) 0 ||| bitI x))), wDo a (wOv (aNow a) ((lOv (aNow a)).set (sv y) ((lOv (aNow a)).getD (sv y) 0 ||| bitI x))))) else (-4, a)) else (-2, a)
theorem x_put (d : Nat) (hd : 4 ≤ d) (F : FT) (G : GT) (a : AS) (hX : XR a F G) (hn : aN a ≤ 8) (ho : okS (lOv (aNow a))) (hl : (lOv (aNow a)).length = 8) (x y : Int32) : Kc DX6_put d [.ref 0, .int x, .int y] F G (XP (s_put a x y) F G) := by
  obtain ⟨e0, e1, e4, e5, e9, e10, f1, f2, f3, f4, g0, g1, g2, g3⟩ := hX.eqs
  have i21 : isI 21 = true := rfl
  have l21 : gLen 21 = 8 := rfl
  refine Kc.ofT [some (.ref 0), some (.int x), some (.int y)] pn_X6 (Nat.le_of_ble_eq_true rfl) rfl ?_
  refine T_al0 dX6_put_0 ?_
  refine T_il1 dX6_put_1 ?_
  refine T_il2 dX6_put_2 ?_
  refine T_pV2 lX6_160 rfl (by decide) (cell_0 _ _) (c_knownPair _ (by omega) _ _ _ (by assumption) _ _) (by omega) (Nat.le_of_ble_eq_true rfl) dX6_put_3 ?_
  refine T_bne 12 dX6_put_6 (by decide) (fun h1 => ?_) (fun h1 => ?_)
  · have h1 : prB a x y = true := h1
    obtain ⟨i, j, hi, hj, hij, rfl, rfl⟩ := prB_ok hn h1
    have hs : sv (nI j) = j := sv_nI (by omega)
    have no : ¬ (hasI (lWhole (aNow a)) (nI i) = true ∧ hasI (lWhole (aNow a)) (nI j) = true) → T DX6_put d 34 [some (.ref 0), some (.int (nI i)), some (.int (nI j))] [] F G (XP (s_put a (nI i) (nI j)) F G) := by
      intro hc
      refine T_bipush (v := -4) dX6_put_34 (by decide +kernel) ?_
      refine T_iret rfl dX6_put_36 ?_
      rw [s_put, if_pos h1, if_neg hc]; exact XP.rf hX
    refine T_al0 dX6_put_12 ?_
    refine T_g6 gX6_31 (cell_0 _ _) rfl dX6_put_13 ?_
    refine T_il1 dX6_put_16 ?_
    refine T_pV1 lX6_123 rfl (by first | decide | (have := isL_lt _ (by assumption); omega)) (cell_L _ _ (by first | assumption | decide)) (c_isWhole _ (by omega) _ _ _ (by first | assumption | decide) _) (by omega) (Nat.le_of_ble_eq_true rfl) dX6_put_17 ?_
    refine T_beq 34 dX6_put_20 (by decide) (fun h2 => ?_) (fun h2 => ?_)
    · rw [f3] at h2
      exact no (fun z => by rw [z.1] at h2; cases h2)
    · rw [f3] at h2
      refine T_al0 dX6_put_23 ?_
      refine T_g6 gX6_31 (cell_0 _ _) rfl dX6_put_24 ?_
      refine T_il2 dX6_put_27 ?_
      refine T_pV1 lX6_123 rfl (by first | decide | (have := isL_lt _ (by assumption); omega)) (cell_L _ _ (by first | assumption | decide)) (c_isWhole _ (by omega) _ _ _ (by first | assumption | decide) _) (by omega) (Nat.le_of_ble_eq_true rfl) dX6_put_28 ?_
      refine T_bne 37 dX6_put_31 (by decide) (fun h3 => ?_) (fun h3 => ?_)
      · rw [f3] at h3
        have no2 : (hasI ((lOv (aNow a)).getD j 0) (nI i) = true ∨ ringB (lOv (aNow a)) (nI i) (nI j) = true) → T DX6_put d 68 [some (.ref 0), some (.int (nI i)), some (.int (nI j))] [] F G (XP (s_put a (nI i) (nI j)) F G) := by
          intro hc
          refine T_bipush (v := -4) dX6_put_68 (by decide +kernel) ?_
          refine T_iret rfl dX6_put_70 ?_
          rw [s_put, if_pos h1, if_pos ⟨h2, h3⟩, hs, if_pos hc]; exact XP.rf hX
        refine T_al0 dX6_put_37 ?_
        refine T_g6 gX6_31 (cell_0 _ _) rfl dX6_put_38 ?_
        refine T_g1 gX6_110 (by first | assumption | decide) (cell_L _ _ (by first | assumption | decide)) rfl dX6_put_41 ?_
        refine T_il2 dX6_put_44 ?_
        refine T_aldN (isL_I (by first | assumption | decide)).2.1 (by rw [(gL_L (by first | assumption | decide)).2.1]; omega) dX6_put_45 ?_
        rw [show G (19 + 2) = _ from g1]
        refine T_il1 dX6_put_46 ?_
        refine T_pS2 lX6_163 (c_has _ _ _ _ _) (by omega) (Nat.le_of_ble_eq_true rfl) dX6_put_47 ?_
        refine T_bne 68 dX6_put_50 (by decide) (fun h4 => ?_) (fun h4 => ?_)
        · exact no2 (Or.inl h4)
        · refine T_al0 dX6_put_53 ?_
          refine T_g6 gX6_31 (cell_0 _ _) rfl dX6_put_54 ?_
          refine T_g1 gX6_110 (by first | assumption | decide) (cell_L _ _ (by first | assumption | decide)) rfl dX6_put_57 ?_
          refine T_il1 dX6_put_60 ?_
          refine T_il2 dX6_put_61 ?_
          refine T_pS3 lX6_166 (c_makesRing _ (by omega) _ _ 21 i21 l21 _ _) (by omega) (Nat.le_of_ble_eq_true rfl) dX6_put_62 ?_
          refine T_beq 71 dX6_put_65 (by decide) (fun h5 => ?_) (fun h5 => ?_)
          · rw [g1] at h5
            refine T_al0 dX6_put_71 ?_
            refine T_g6 gX6_41 (cell_0 _ _) rfl dX6_put_72 ?_
            refine T_al0 dX6_put_75 ?_
            refine T_g6 gX6_31 (cell_0 _ _) rfl dX6_put_76 ?_
            refine T_cV1 lX6_148 rfl (by decide) (cell_29 _ _) (c_remember _ (by omega) F G a hX) (by omega) (Nat.le_of_ble_eq_true rfl) dX6_put_79 (fun v F' G' hP => ?_)
            obtain ⟨rfl, hX1, hM1, hF3, hG24⟩ := hP
            have k1 : G' 21 = lOv (aNow a) := (hG24 21 (by decide)).trans g1
            obtain ⟨m, hm, em⟩ := S8_or (ho j) (S8_b (k := i) (by omega))
            refine T_al0 dX6_put_82 ?_
            refine T_g6 gX6_31 (cell_0 _ _) rfl dX6_put_83 ?_
            refine T_g1 gX6_110 (by first | assumption | decide) (cell_L _ _ (by first | assumption | decide)) rfl dX6_put_86 ?_
            refine T_il2 dX6_put_89 ?_
            refine T_dup2 dX6_put_90 rfl rfl ?_
            refine T_aldN (isL_I (by first | assumption | decide)).2.1 (by rw [(gL_L (by first | assumption | decide)).2.1]; omega) dX6_put_91 ?_
            refine T_il1 dX6_put_92 ?_
            refine T_pS1 lX6_170 (c_bit _ _ _ _) (by omega) (Nat.le_of_ble_eq_true rfl) dX6_put_93 ?_
            refine T_ior dX6_put_96 ?_
            rw [show G' (19 + 2) = _ from k1]
            refine T_astN (a := 21) rfl (show j < 8 by omega) dX6_put_97 ?_
            refine T_al0 dX6_put_98 ?_
            refine T_g6 gX6_31 (cell_0 _ _) rfl dX6_put_99 ?_
            refine T_g1 gX6_110 (by first | assumption | decide) (cell_L _ _ (by first | assumption | decide)) rfl dX6_put_102 ?_
            refine T_il2 dX6_put_105 ?_
            refine T_aldN (isL_I (by first | assumption | decide)).2.1 (by rw [(gL_L (by first | assumption | decide)).2.1]; omega) dX6_put_106 ?_
            rw [show u1 G' 21 ((G' 21).set j ((lOv (aNow a)).getD j 0 ||| bitI (nI i))) (19 + 2) = (lOv (aNow a)).set j ((lOv (aNow a)).getD j 0 ||| bitI (nI i)) by rw [k1]; exact u1_s _ _ _]
            rw [show ((lOv (aNow a)).set j ((lOv (aNow a)).getD j 0 ||| bitI (nI i))).getD j 0 = nI m by rw [← em, List.getD_eq_getElem?_getD, List.getElem?_set_self (by omega)]; rfl]
            refine T_pS1 lX6_155 (c_bitCount _ _ _ _ (by assumption)) (by omega) (Nat.le_of_ble_eq_true rfl) dX6_put_107 ?_
            refine T_iret rfl dX6_put_110 ?_
            rw [s_put, if_pos h1, if_pos ⟨h2, h3⟩, hs, if_neg (fun z => by rcases z with z | z; (rw [z] at h4; cases h4); (rw [ringB] at z; rw [z] at h5; cases h5)), em, sv_nI (by omega), k1]
            exact ⟨rfl, hX1.ov _, hM1.u1 (by decide)⟩
          · rw [g1] at h5
            exact no2 (Or.inr h5)
      · rw [f3] at h3
        exact no (fun z => by rw [z.2] at h3; cases h3)
  · refine T_bipush (v := -2) dX6_put_9 (by decide +kernel) ?_
    refine T_iret rfl dX6_put_11 ?_
    rw [s_put, if_neg (by rw [prB, h1]; decide)]; exact XP.rf hX
