def keptAt (k : Option LoS × Option LoS) (i : Nat) : Option LoS := if i = 0 then k.1 else k.2
def putK (k : Option LoS × Option LoS) (i : Nat) (x : LoS) : Option LoS × Option LoS := if i = 0 then (some x, k.2) else (k.1, some x)
theorem kp_d1 : ∀ b0 b1 : Bool, hasI (nI ((if b0 then 1 else 0) + (if b1 then 2 else 0))) (nI 0) = b0 ∧ hasI (nI ((if b0 then 1 else 0) + (if b1 then 2 else 0))) (nI 1) = b1 := by decide +kernel
theorem kp_d2 : ∀ b0 b1 : Bool, nI ((if b0 then 1 else 0) + (if b1 then 2 else 0)) ||| bitI (nI 0) = nI (1 + (if b1 then 2 else 0)) ∧ nI ((if b0 then 1 else 0) + (if b1 then 2 else 0)) ||| bitI (nI 1) = nI ((if b0 then 1 else 0) + 2) := by decide +kernel
theorem kp_bit (k : Option LoS × Option LoS) : ∀ i, i < 2 → hasI (nI (kpN k)) (nI i) = (keptAt k i).isSome := by
  intro i hi
  match i, hi with
  | 0, _ => exact (kp_d1 k.1.isSome k.2.isSome).1
  | 1, _ => exact (kp_d1 k.1.isSome k.2.isSome).2
theorem kp_put (k : Option LoS × Option LoS) (x : LoS) : ∀ i, i < 2 → nI (kpN k) ||| bitI (nI i) = nI (kpN (putK k i x)) := by
  intro i hi
  match i, hi with
  | 0, _ => exact (kp_d2 k.1.isSome k.2.isSome).1
  | 1, _ => exact (kp_d2 k.1.isSome k.2.isSome).2
theorem kept_at : ∀ p, p < 2 → ([some 72, some 77] : List (Option Nat)).getD p none = some (72 + 5 * p) := by decide
theorem kept_L : ∀ p, p < 2 → isL (72 + 5 * p) = true := by decide
def s_keep (a : AS) (k : Int32) : Int32 × AS := if k < 0 ∨ nI 2 ≤ k then (-2, a) else (lDay (aNow a), a.1, a.2.1, aNow a, aPast a, putK (aKept a) (sv k) (aNow a))
theorem out2 {k : Int32} (h1 : ¬ k < 0) (h2 : k < nI 2) : ∃ i, i < 2 ∧ k = nI i := by
  obtain ⟨j, hj, rfl⟩ := nI_of h1
  exact ⟨j, (nI_ltI hj (by decide)).mp h2, rfl⟩
theorem x_keep (d : Nat) (hd : 2 ≤ d) (F : FT) (G : GT) (a : AS) (hX : XR a F G) (k : Int32) : Kc DX6_keep d [.ref 0, .int k] F G (XP (s_keep a k) F G) := by
  obtain ⟨hT, h3, h4, ⟨p, p1, p2, p3, p4, p5⟩, k1, k2, k3⟩ := id hX
  refine Kc.ofT [some (.ref 0), some (.int k)] pn_X6 (Nat.le_of_ble_eq_true rfl) rfl ?_
  refine T_il1 dX6_keep_0 ?_
  refine T_if_lt 9 dX6_keep_1 (by decide) (fun h1 => ?_) (fun h1 => ?_)
  · refine T_bipush (v := -2) dX6_keep_9 (by decide +kernel) ?_
    refine T_iret rfl dX6_keep_11 ?_
    rw [s_keep, if_pos (Or.inl h1)]; exact XP.rf hX
  · refine T_il1 dX6_keep_4 ?_
    refine T_iconst (v := nI 2) dX6_keep_5 rfl ?_
    refine T_icmp_lt 12 dX6_keep_6 (by decide) (fun h2 => ?_) (fun h2 => ?_)
    · have h12 : ¬ (k < 0 ∨ nI 2 ≤ k) := fun z => z.elim h1 (Int32.not_le.mpr h2)
      obtain ⟨i, hi, rfl⟩ := out2 h1 h2
      have hs : sv (nI i) = i := sv_nI (by omega)
      have hL := kept_L i hi
      refine T_al0 dX6_keep_12 ?_
      refine T_g6 gX6_45 (cell_0 _ _) rfl dX6_keep_13 ?_
      refine T_il1 dX6_keep_16 ?_
      refine T_aald (by decide) (cell_71 _ _) hi (by omega) (kept_at i hi) dX6_keep_17 ?_
      refine T_al0 dX6_keep_18 ?_
      refine T_g6 gX6_31 (cell_0 _ _) rfl dX6_keep_19 ?_
      refine T_cV1 lX6_188 rfl (by omega) (cell_L _ _ hL) (c_lcopy _ (by omega) F G (72 + 5 * i) 19 hL (by decide) (by omega)) (by omega) (Nat.le_of_ble_eq_true rfl) dX6_keep_22 (fun v F' G' hP => ?_)
      obtain ⟨rfl, rfl, rfl⟩ := hP
      refine T_al0 dX6_keep_25 ?_
      refine T_dup dX6_keep_26 rfl ?_
      refine T_g6 gX6_49 (cell_0 _ _) rfl dX6_keep_27 ?_
      refine T_il1 dX6_keep_30 ?_
      refine T_pS1 lX6_170 (c_bit _ _ _ _) (by omega) (Nat.le_of_ble_eq_true rfl) dX6_keep_31 ?_
      rw [pF_o F _ _ (show (0 : Nat) ≠ 72 + 5 * i by omega), k1]
      refine T_ior dX6_keep_34 ?_
      rw [kp_put _ (aNow a) i hi]
      refine T_put6_7 pX6_49 dX6_keep_35 ?_
      refine T_al0 dX6_keep_38 ?_
      refine T_g6 gX6_31 (cell_0 _ _) rfl dX6_keep_39 ?_
      refine T_g1 gX6_126 (by first | assumption | decide) (cell_L _ _ (by first | assumption | decide)) rfl dX6_keep_42 ?_
      rw [u2_c _ _ (by decide), pF_o F _ _ (show (19 : Nat) ≠ 72 + 5 * i by omega)]
      refine T_iret rfl dX6_keep_45 ?_
      rw [s_keep, if_neg h12, hs]
      have go : ∀ b : Nat, b ≠ 0 → (72 + 5 * i + 4 < b ∨ b + 4 < 72 + 5 * i) → gL (u2 (pF F (72 + 5 * i) (gL F G 19)) 0 7 (nI (kpN (putK (aKept a) i (aNow a))))) (pG G (72 + 5 * i) (gL F G 19)) b = gL F G b := fun b hb hc => by
        rw [gL_o (F := pF F (72 + 5 * i) (gL F G 19)) (G := pG G (72 + 5 * i) (gL F G 19)) (fun j => by rw [u2_c _ _ hb]) (fun _ _ _ => rfl), gL_pp hc]
      have gs : gL (u2 (pF F (72 + 5 * i) (gL F G 19)) 0 7 (nI (kpN (putK (aKept a) i (aNow a))))) (pG G (72 + 5 * i) (gL F G 19)) (72 + 5 * i) = aNow a := by
        rw [gL_o (F := pF F (72 + 5 * i) (gL F G 19)) (G := pG G (72 + 5 * i) (gL F G 19)) (fun j => by rw [u2_c _ _ (by omega)]) (fun _ _ _ => rfl), gL_p]; exact h4
      refine ⟨by rw [← h4]; rfl, ⟨⟨?_, ?_⟩, ?_, ?_, ⟨p, p1, ?_, ?_, p4, fun j x hj => ?_⟩, u2_s _ _ _ _, fun x hx => ?_, fun x hx => ?_⟩, (FrM.rf.p (by omega)).u2 (by decide)⟩
      · rw [pG_o _ _ (by omega)]; exact hT.1
      · rw [u2_c _ _ (by decide), pF_o _ _ _ (by omega)]; exact hT.2
      · obtain ⟨t1, t2, tt⟩ := h3.pp (b := 72 + 5 * i) (y := gL F G 19) (by omega)
        exact ⟨by rw [u2_c _ _ (by decide)]; exact t1, by rw [u2_c _ _ (by decide)]; exact t2, tt⟩
      · rw [go 19 (by decide) (by omega)]; exact h4
      · rw [u2_c _ _ (by decide), pF_o _ _ _ (by omega)]; exact p2
      · rw [u2_c _ _ (by decide), pF_o _ _ _ (by omega)]; exact p3
      · rw [go _ (by omega) (by omega)]; exact p5 j x hj
      · match i, hi with
        | 0, _ => cases hx; exact gs
        | 1, _ => rw [go 72 (by decide) (by omega)]; exact k2 x hx
      · match i, hi with
        | 0, _ => rw [go 77 (by decide) (by omega)]; exact k3 x hx
        | 1, _ => cases hx; exact gs
    · refine T_bipush (v := -2) dX6_keep_9 (by decide +kernel) ?_
      refine T_iret rfl dX6_keep_11 ?_
      rw [s_keep, if_pos (Or.inr (Int32.not_lt.mp h2))]; exact XP.rf hX
def s_back (a : AS) (k : Int32) : Int32 × AS := if k < 0 ∨ nI 2 ≤ k then (-2, a) else match keptAt (aKept a) (sv k) with
  | some x => (lDay x, a.1, a.2.1, x, [], aKept a)
  | none => (-4, a)
theorem x_back (d : Nat) (hd : 2 ≤ d) (F : FT) (G : GT) (a : AS) (hX : XR a F G) (k : Int32) : Kc DX6_back d [.ref 0, .int k] F G (XP (s_back a k) F G) := by
  obtain ⟨hT, h3, h4, ⟨p, p1, p2, p3, p4, p5⟩, k1, k2, k3⟩ := id hX
  refine Kc.ofT [some (.ref 0), some (.int k)] pn_X6 (Nat.le_of_ble_eq_true rfl) rfl ?_
  refine T_il1 dX6_back_0 ?_
  refine T_if_lt 9 dX6_back_1 (by decide) (fun h1 => ?_) (fun h1 => ?_)
  · refine T_bipush (v := -2) dX6_back_9 (by decide +kernel) ?_
    refine T_iret rfl dX6_back_11 ?_
    rw [s_back, if_pos (Or.inl h1)]; exact XP.rf hX
  · refine T_il1 dX6_back_4 ?_
    refine T_iconst (v := nI 2) dX6_back_5 rfl ?_
    refine T_icmp_lt 12 dX6_back_6 (by decide) (fun h2 => ?_) (fun h2 => ?_)
    · have h12 : ¬ (k < 0 ∨ nI 2 ≤ k) := fun z => z.elim h1 (Int32.not_le.mpr h2)
      obtain ⟨i, hi, rfl⟩ := out2 h1 h2
      have hs : sv (nI i) = i := sv_nI (by omega)
      have hL := kept_L i hi
      rw [s_back, if_neg h12, hs]
      cases hk : keptAt (aKept a) i with
      | none =>
        refine T_al0 dX6_back_12 ?_
        refine T_g6 gX6_49 (cell_0 _ _) rfl dX6_back_13 ?_
        rw [k1]
        refine T_il1 dX6_back_16 ?_
        refine T_pS2 lX6_163 (c_has _ _ _ _ _) (by omega) (Nat.le_of_ble_eq_true rfl) dX6_back_17 ?_
        refine T_bne_f 26 dX6_back_20 (by decide) (by rw [kp_bit _ i hi, hk]; rfl) ?_
        refine T_bipush (v := -4) dX6_back_23 (by decide +kernel) ?_
        refine T_iret rfl dX6_back_25 ?_
        exact XP.rf hX
      | some x =>
        refine T_al0 dX6_back_12 ?_
        refine T_g6 gX6_49 (cell_0 _ _) rfl dX6_back_13 ?_
        rw [k1]
        refine T_il1 dX6_back_16 ?_
        refine T_pS2 lX6_163 (c_has _ _ _ _ _) (by omega) (Nat.le_of_ble_eq_true rfl) dX6_back_17 ?_
        refine T_bne_t 26 dX6_back_20 (by decide) (by rw [kp_bit _ i hi, hk]; rfl) ?_
        refine T_al0 dX6_back_26 ?_
        refine T_g6 gX6_31 (cell_0 _ _) rfl dX6_back_27 ?_
        refine T_al0 dX6_back_30 ?_
        refine T_g6 gX6_45 (cell_0 _ _) rfl dX6_back_31 ?_
        refine T_il1 dX6_back_34 ?_
        refine T_aald (by decide) (cell_71 _ _) hi (by omega) (kept_at i hi) dX6_back_35 ?_
        refine T_cV1 lX6_188 rfl (by omega) (cell_L _ _ (by decide)) (c_lcopy _ (by omega) F G 19 (72 + 5 * i) (by decide) hL (by omega)) (by omega) (Nat.le_of_ble_eq_true rfl) dX6_back_36 (fun v F' G' hP => ?_)
        obtain ⟨rfl, rfl, rfl⟩ := hP
        have ex : gL F G (72 + 5 * i) = x := by
          match i, hi with
          | 0, _ => exact k2 x hk
          | 1, _ => exact k3 x hk
        rw [ex]
        have hX1 := hX.now x
        refine T_al0 dX6_back_39 ?_
        refine T_g6 gX6_41 (cell_0 _ _) rfl dX6_back_40 ?_
        refine T_iconst (v := nI 0) dX6_back_43 rfl ?_
        refine T_put2_2 pX6_86 dX6_back_44 ?_
        refine T_al0 dX6_back_47 ?_
        refine T_g6 gX6_31 (cell_0 _ _) rfl dX6_back_48 ?_
        refine T_g1 gX6_126 (by first | assumption | decide) (cell_L _ _ (by first | assumption | decide)) rfl dX6_back_51 ?_
        rw [u2_c _ _ (by decide), pF_1]
        refine T_iret rfl dX6_back_54 ?_
        obtain ⟨hT', h3', h4', ⟨q, q1, q2, q3, q4, q5⟩, kk⟩ := hX1
        have go : ∀ b : Nat, b ≠ 29 → gL (u2 (pF F 19 x) 29 2 (nI 0)) (pG G 19 x) b = gL (pF F 19 x) (pG G 19 x) b := fun b hb => gL_o (fun j => u2_c _ _ hb) (fun _ _ _ => rfl)
        refine ⟨rfl, ⟨⟨hT'.1, by rw [u2_c _ _ (by decide)]; exact hT'.2⟩, ?_, by rw [go 19 (by decide)]; exact h4', ⟨q, q1, by rw [u2_f _ _ (by decide)]; exact q2, u2_s _ _ _ _, Nat.zero_le 8, fun j y hj => by have hj : ([] : List LoS)[j]? = some y := hj; simp at hj⟩, by rw [u2_c _ _ (by decide)]; exact kk.1, fun y hy => by rw [go 72 (by decide)]; exact kk.2.1 y hy, fun y hy => by rw [go 77 (by decide)]; exact kk.2.2 y hy⟩, (FrM.rf.p (by decide)).u2 (by decide)⟩
        obtain ⟨t1, t2, tt⟩ := h3'
        exact ⟨by rw [u2_c _ _ (by decide)]; exact t1, by rw [u2_c _ _ (by decide)]; exact t2, tt⟩
    · refine T_bipush (v := -2) dX6_back_9 (by decide +kernel) ?_
      refine T_iret rfl dX6_back_11 ?_
      rw [s_back, if_pos (Or.inr (Int32.not_lt.mp h2))]; exact XP.rf hX
theorem XR.spare {a : AS} {F : FT} {G : GT} (h : XR a F G) (x : LoS) : XR a (pF F 24 x) (pG G 24 x) := by
  obtain ⟨hT, h3, h4, ⟨p, p1, p2, p3, p4, p5⟩, k1, k2, k3⟩ := h
  refine ⟨⟨by rw [pG_o _ _ (by omega)]; exact hT.1, by rw [pF_o _ _ _ (by omega)]; exact hT.2⟩, h3.pp (by omega), by rw [gL_pp (by omega)]; exact h4, ⟨p, p1, by rw [pF_o _ _ _ (by omega)]; exact p2, by rw [pF_o _ _ _ (by omega)]; exact p3, p4, fun j y hj => by rw [gL_pp (by omega)]; exact p5 j y hj⟩, by rw [pF_o _ _ _ (by omega)]; exact k1, fun y hy => by rw [gL_pp (by omega)]; exact k2 y hy, fun y hy => by rw [gL_pp (by omega)]; exact k3 y hy⟩
def doomA (a : AS) (dd : Nat) : LoS := daysA a (100 - dd)
def s_doom (a : AS) (w : Int32) : Int32 := if w < 0 ∨ nI 1 < w then -3 else if w = 0 then lLost (doomA a (sv (lDay (aNow a)))) - lLost (aNow a) else lCut (doomA a (sv (lDay (aNow a)))) &&& (lCut (aNow a) ^^^ (-1))
theorem sub_le {dd : Nat} (h : dd ≤ 999) : ∀ r, r ≤ 100 - dd → (nI 100 - nI dd ≤ nI r ↔ 100 - dd ≤ r) := by
  intro r hr
  rcases Nat.lt_or_ge 100 dd with q | q
  · have : nI 100 - nI dd < 0 := pk_sneg (by omega) q
    exact ⟨fun _ => by omega, fun _ => Int32.le_trans (Int32.le_of_lt this) (nI_pos' (by omega))⟩
  · rw [pk_sub q]; exact nI_leI (by omega) (by omega)
theorem x_doom (d : Nat) (hd : 6 ≤ d) (F : FT) (G : GT) (a : AS) (hX : XR a F G) (hn : aN a ≤ 8) (hm : aM a ≤ 6) (ho : okS (lOv (aNow a))) (hO : ∀ o, o < aM a → ∃ j, j < 8 ∧ (aOt a).getD o 0 = nI j) (dd : Nat) (hdd : dd ≤ 999) (hday : lDay (aNow a) = nI dd) (w : Int32) : Kc DX6_doom d [.ref 0, .int w] F G (XP (s_doom a w, a) F G) := by
  obtain ⟨e0, e1, e4, e5, e9, e10, f1, f2, f3, f4, g0, g1, g2, g3⟩ := hX.eqs
  refine Kc.ofT [some (.ref 0), some (.int w)] pn_X6 (Nat.le_of_ble_eq_true rfl) rfl ?_
  refine T_il1 dX6_doom_0 ?_
  refine T_if_lt 9 dX6_doom_1 (by decide) (fun h1 => ?_) (fun h1 => ?_)
  · refine T_bipush (v := -3) dX6_doom_9 (by decide +kernel) ?_
    refine T_iret rfl dX6_doom_11 ?_
    rw [s_doom, if_pos (Or.inl h1)]; exact XP.rf hX
  · refine T_il1 dX6_doom_4 ?_
    refine T_iconst (v := nI 1) dX6_doom_5 rfl ?_
    refine T_icmp_le 12 dX6_doom_6 (by decide) (fun h2 => ?_) (fun h2 => ?_)
    · have h12 : ¬ (w < 0 ∨ nI 1 < w) := fun z => z.elim h1 (Int32.not_lt.mpr h2)
      refine T_al0 dX6_doom_12 ?_
      refine T_g6 gX6_35 (cell_0 _ _) rfl dX6_doom_13 ?_
      refine T_al0 dX6_doom_16 ?_
      refine T_g6 gX6_31 (cell_0 _ _) rfl dX6_doom_17 ?_
      refine T_cV1 lX6_188 rfl (by first | decide | (have := isL_lt _ (by assumption); omega)) (cell_L _ _ (by first | assumption | decide)) (c_lcopy _ (by omega) F G 24 19 (by decide) (by decide) (by decide)) (by omega) (Nat.le_of_ble_eq_true rfl) dX6_doom_20 (fun v F' G' hP => ?_)
      obtain ⟨rfl, rfl, rfl⟩ := hP
      rw [hX.2.2.1]
      refine T_al0 dX6_doom_23 ?_
      refine T_g6 gX6_35 (cell_0 _ _) rfl dX6_doom_24 ?_
      refine T_bipush (v := nI 100) dX6_doom_27 (by decide +kernel) ?_
      refine T_al0 dX6_doom_29 ?_
      refine T_g6 gX6_31 (cell_0 _ _) rfl dX6_doom_30 ?_
      refine T_g1 gX6_126 (by first | assumption | decide) (cell_L _ _ (by first | assumption | decide)) rfl dX6_doom_33 ?_
      rw [pF_o F _ _ (by decide), f1, hday]
      refine T_isub dX6_doom_36 ?_
      refine T_cV1 lX6_182 rfl (by omega) (cell_L _ _ (by decide)) (c_endDays _ (by omega) F G 24 (by decide) (aNow a) ho (aN a) (aM a) hn hm e0 e1 (by rw [e9]; exact hO) (nI 100 - nI dd) (100 - dd) (by omega) (sub_le hdd)) (by omega) (Nat.le_of_ble_eq_true rfl) dX6_doom_37 (fun v F2 G2 hP => ?_)
      obtain ⟨rfl, rfl, rfl⟩ := hP
      rw [e4, e5, e9, e10]
      rw [s_doom, if_neg h12, hday, sv_nI (by omega)]
      refine T_il1 dX6_doom_40 ?_
      refine T_if_ne 62 dX6_doom_41 (by decide) (fun h3 => ?_) (fun h3 => ?_)
      · rw [if_neg h3]
        refine T_al0 dX6_doom_62 ?_
        refine T_g6 gX6_35 (cell_0 _ _) rfl dX6_doom_63 ?_
        refine T_g1 gX6_196 (by first | assumption | decide) (cell_L _ _ (by first | assumption | decide)) rfl dX6_doom_66 ?_
        refine T_al0 dX6_doom_69 ?_
        refine T_g6 gX6_31 (cell_0 _ _) rfl dX6_doom_70 ?_
        refine T_g1 gX6_196 (by first | assumption | decide) (cell_L _ _ (by first | assumption | decide)) rfl dX6_doom_73 ?_
        rw [pF_4, pF_o F _ _ (by decide), f4]
        refine T_iconst (v := -1) dX6_doom_76 rfl ?_
        refine T_ixor dX6_doom_77 ?_
        refine T_iand dX6_doom_78 ?_
        refine T_iret rfl dX6_doom_79 ?_
        exact ⟨rfl, hX.spare _, FrM.rf.p (by decide)⟩
      · rw [if_pos h3]
        refine T_al0 dX6_doom_44 ?_
        refine T_g6 gX6_35 (cell_0 _ _) rfl dX6_doom_45 ?_
        refine T_g1 gX6_179 (by first | assumption | decide) (cell_L _ _ (by first | assumption | decide)) rfl dX6_doom_48 ?_
        refine T_al0 dX6_doom_51 ?_
        refine T_g6 gX6_31 (cell_0 _ _) rfl dX6_doom_52 ?_
        refine T_g1 gX6_179 (by first | assumption | decide) (cell_L _ _ (by first | assumption | decide)) rfl dX6_doom_55 ?_
        rw [pF_2, pF_o F _ _ (by decide), f2]
        refine T_isub dX6_doom_58 ?_
        refine T_goto 79 dX6_doom_59 (by decide) ?_
        refine T_iret rfl dX6_doom_79 ?_
        exact ⟨rfl, hX.spare _, FrM.rf.p (by decide)⟩
    · refine T_bipush (v := -3) dX6_doom_9 (by decide +kernel) ?_
      refine T_iret rfl dX6_doom_11 ?_
      rw [s_doom, if_pos (Or.inr (Int32.not_le.mp h2))]; exact XP.rf hX
