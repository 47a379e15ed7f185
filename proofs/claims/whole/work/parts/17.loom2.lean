theorem cutS_ov (n : Nat) (kd ln : List Int32) (i : Nat) (x : LoS) : lOv (cutS n kd ln i x) = lOv x := rfl
theorem ordS_ov (n : Nat) (kd ln oth od : List Int32) (o : Nat) (x : LoS) : lOv (ordS n kd ln oth od o x) = lOv x := by
  unfold ordS; split <;> rfl
theorem dayS_ov (n m : Nat) (kd ln oth od : List Int32) (x : LoS) : lOv (dayS n m kd ln oth od x) = lOv x := by
  show lOv (iter (ordS n kd ln oth od) m 0 x) = lOv x
  exact iter_inv (ordS n kd ln oth od) m (fun _ y => lOv y = lOv x) (fun k y _ h => (ordS_ov n kd ln oth od k y).trans h) m 0 x (by omega) rfl
theorem c_endDay (d : Nat) (hd : 4 ≤ d) (F : FT) (G : GT) (b : Nat) (hb : isL b = true) (x : LoS) (ho : okS (lOv x)) (n m : Nat) (hn : n ≤ 8) (hm : m ≤ 6) (hF : F 3 0 = nI n) (hF1 : F 3 1 = nI m) (hO : ∀ o, o < m → ∃ j, j < 8 ∧ (G 9).getD o 0 = nI j) : Kc DX1_endDay d [.ref b] (pF F b x) (pG G b x) (fun v F' G' => v = none ∧ F' = pF F b (dayS n m (G 4) (G 5) (G 9) (G 10) x) ∧ G' = pG G b (dayS n m (G 4) (G 5) (G 9) (G 10) x)) := by
  refine Kc.ofT [some (.ref b), none] pn_X1 (Nat.le_of_ble_eq_true rfl) rfl ?_
  have hF' : ∀ y : LoS, pF F b y 3 0 = nI n := fun y => by rw [pF_t F hb]; exact hF
  have hF1' : ∀ y : LoS, pF F b y 3 1 = nI m := fun y => by rw [pF_t F hb]; exact hF1
  have gt : ∀ (y : LoS) (c : Nat), c ≤ 19 → pG G b y c = G c := fun y c hc => pG_t G hb y hc
  refine T_iconst (v := nI 0) dX1_endDay_0 rfl ?_
  refine T_is1 dX1_endDay_1 rfl ?_
  refine for_inv (ordS n (G 4) (G 5) (G 9) (G 10)) m (fun k y => T DX1_endDay d 2 [some (.ref b), some (.int (nI k))] [] (pF F b y) (pG G b y) _) (fun _ y => okS (lOv y)) (fun k y _ h => by rw [ordS_ov]; exact h) ?_ m 0 x (by omega) ho ?_
  · intro k y hk hy h
    obtain ⟨j, hj, ej⟩ := hO k hk
    refine T_il1 dX1_endDay_2 ?_
    refine T_al0 dX1_endDay_3 ?_
    refine T_g1 gX1_24 (by first | assumption | decide) (cell_L _ _ (by first | assumption | decide)) rfl dX1_endDay_4 ?_
    refine T_g4 gX1_90 (by first | assumption | decide) (cell_T _ _ (by first | assumption | decide)) rfl dX1_endDay_7 ?_
    rw [hF1']
    refine T_nge_f 49 dX1_endDay_10 (by decide) (by omega) (by omega) (by omega) ?_
    refine T_al0 dX1_endDay_13 ?_
    refine T_g1 gX1_24 (by first | assumption | decide) (cell_L _ _ (by first | assumption | decide)) rfl dX1_endDay_14 ?_
    refine T_g4 gX1_93 (by first | assumption | decide) (cell_T _ _ (by first | assumption | decide)) rfl dX1_endDay_17 ?_
    refine T_il1 dX1_endDay_20 ?_
    refine T_aldN (isT_I (by first | assumption | decide)).2.2.2.2.2.2 (show _ < 6 by omega) dX1_endDay_21 ?_
    refine T_al0 dX1_endDay_22 ?_
    refine T_g1 gX1_28 (by first | assumption | decide) (cell_L _ _ (by first | assumption | decide)) rfl dX1_endDay_23 ?_
    rw [gt y (3 + 7) (by decide), pF_1]
    refine T_icmp_ne 43 dX1_endDay_26 (by decide) (fun hq => ?_) (fun hq => ?_)
    · rw [ordS, if_neg hq] at h
      refine T_ii1 dX1_endDay_43 (by first | exact nI_inc _ | exact nI_dec _ | rfl) rfl ?_
      refine T_goto 2 dX1_endDay_46 (by decide) ?_
      exact h
    · rw [ordS, if_pos hq, ej, sv_nI (by omega)] at h
      refine T_al0 dX1_endDay_29 ?_
      refine T_al0 dX1_endDay_30 ?_
      refine T_g1 gX1_24 (by first | assumption | decide) (cell_L _ _ (by first | assumption | decide)) rfl dX1_endDay_31 ?_
      refine T_g4 gX1_96 (by first | assumption | decide) (cell_T _ _ (by first | assumption | decide)) rfl dX1_endDay_34 ?_
      refine T_il1 dX1_endDay_37 ?_
      refine T_aldN (isT_I (by first | assumption | decide)).2.2.2.2.2.1 (show _ < 6 by omega) dX1_endDay_38 ?_
      rw [gt y (3 + 6) (by decide), show (3 + 6 : Nat) = 9 from rfl, ej]
      refine T_cV1 lX1_99 rfl (by first | decide | (have := isL_lt _ (by assumption); omega)) (cell_L _ _ (by first | assumption | decide)) (c_cutAt _ (by omega) F G b hb y hy n hn hF j hj) (by omega) (Nat.le_of_ble_eq_true rfl) dX1_endDay_39 (fun v F' G' hP => ?_)
      obtain ⟨rfl, rfl, rfl⟩ := hP
      refine T_pop dX1_endDay_42 rfl ?_
      refine T_ii1 dX1_endDay_43 (by first | exact nI_inc _ | exact nI_dec _ | rfl) rfl ?_
      refine T_goto 2 dX1_endDay_46 (by decide) ?_
      exact h
  · intro hy
    generalize hz : iter (ordS n (G 4) (G 5) (G 9) (G 10)) m 0 x = z at hy ⊢
    have hFz := hF' z
    have hFz' := hF' (z.1 + nI 1, z.2)
    refine T_il1 dX1_endDay_2 ?_
    refine T_al0 dX1_endDay_3 ?_
    refine T_g1 gX1_24 (by first | assumption | decide) (cell_L _ _ (by first | assumption | decide)) rfl dX1_endDay_4 ?_
    refine T_g4 gX1_90 (by first | assumption | decide) (cell_T _ _ (by first | assumption | decide)) rfl dX1_endDay_7 ?_
    rw [hF1']
    refine T_nge_t 49 dX1_endDay_10 (by decide) (by omega) (by omega) (by omega) ?_
    refine T_al0 dX1_endDay_49 ?_
    refine T_dup dX1_endDay_50 rfl ?_
    refine T_g1 gX1_28 (by first | assumption | decide) (cell_L _ _ (by first | assumption | decide)) rfl dX1_endDay_51 ?_
    refine T_iconst (v := nI 1) dX1_endDay_54 rfl ?_
    rw [pF_1]
    refine T_iadd dX1_endDay_55 ?_
    refine T_put1_1 pX1_28 (by first | assumption | decide) dX1_endDay_56 ?_
    rw [uF_1]
    refine T_al0 dX1_endDay_59 ?_
    refine T_al0 dX1_endDay_60 ?_
    refine T_g1 gX1_24 (by first | assumption | decide) (cell_L _ _ (by first | assumption | decide)) rfl dX1_endDay_61 ?_
    refine T_al0 dX1_endDay_64 ?_
    refine T_g1 gX1_41 (by first | assumption | decide) (cell_L _ _ (by first | assumption | decide)) rfl dX1_endDay_65 ?_
    refine T_al0 dX1_endDay_68 ?_
    refine T_g1 gX1_28 (by first | assumption | decide) (cell_L _ _ (by first | assumption | decide)) rfl dX1_endDay_69 ?_
    rw [pF_3, pF_1]
    refine T_pV2 lX1_102 rfl (by omega) (cell_T _ _ (by first | assumption | decide)) (c_lasting _ _ _ _ (by first | assumption | decide) (by omega) _ (by assumption) (by assumption) _ _) (by omega) (Nat.le_of_ble_eq_true rfl) dX1_endDay_72 ?_
    rw [gt z (3 + 1) (by decide), gt z (3 + 2) (by decide)]
    refine T_put1_3 pX1_41 (by first | assumption | decide) dX1_endDay_75 ?_
    rw [uF_3]
    refine T_vret rfl dX1_endDay_78 ?_
    refine ⟨rfl, ?_, ?_⟩
    · rw [dayS, hz]; try rfl
    · rw [dayS, hz]; try rfl
def daysS (n m : Nat) (kd ln oth od : List Int32) (k : Nat) (x : LoS) : LoS := iter (fun _ => dayS n m kd ln oth od) k 0 x
theorem c_endDays (d : Nat) (hd : 5 ≤ d) (F : FT) (G : GT) (b : Nat) (hb : isL b = true) (x : LoS) (ho : okS (lOv x)) (n m : Nat) (hn : n ≤ 8) (hm : m ≤ 6) (hF : F 3 0 = nI n) (hF1 : F 3 1 = nI m) (hO : ∀ o, o < m → ∃ j, j < 8 ∧ (G 9).getD o 0 = nI j) (ds : Int32) (e : Nat) (he : e ≤ 1000) (hds : ∀ r, r ≤ e → (ds ≤ nI r ↔ e ≤ r)) : Kc DX1_endDays d [.ref b, .int ds] (pF F b x) (pG G b x) (fun v F' G' => v = none ∧ F' = pF F b (daysS n m (G 4) (G 5) (G 9) (G 10) e x) ∧ G' = pG G b (daysS n m (G 4) (G 5) (G 9) (G 10) e x)) := by
  refine Kc.ofT [some (.ref b), some (.int ds), none] pn_X1 (Nat.le_of_ble_eq_true rfl) rfl ?_
  refine T_iconst (v := nI 0) dX1_endDays_0 rfl ?_
  refine T_is2 dX1_endDays_1 rfl ?_
  refine for_inv (fun _ => dayS n m (G 4) (G 5) (G 9) (G 10)) e (fun k y => T DX1_endDays d 2 [some (.ref b), some (.int ds), some (.int (nI k))] [] (pF F b y) (pG G b y) _) (fun _ y => okS (lOv y)) (fun k y _ h => by rw [dayS_ov]; exact h) ?_ e 0 x (by omega) ho ?_
  · intro k y hk hy h
    refine T_il2 dX1_endDays_2 ?_
    refine T_il1 dX1_endDays_3 ?_
    refine T_icmp_ge_f 17 dX1_endDays_4 (by decide) (fun z => absurd ((hds k (by omega)).mp z) (by omega)) ?_
    refine T_al0 dX1_endDays_7 ?_
    refine T_cV0 lX1_87 rfl (by first | decide | (have := isL_lt _ (by assumption); omega)) (cell_L _ _ (by first | assumption | decide)) (c_endDay _ (by omega) F G b hb y hy n m hn hm hF hF1 hO) (by omega) (Nat.le_of_ble_eq_true rfl) dX1_endDays_8 (fun v F' G' hP => ?_)
    obtain ⟨rfl, rfl, rfl⟩ := hP
    refine T_ii2 dX1_endDays_11 (by first | exact nI_inc _ | exact nI_dec _ | rfl) rfl ?_
    refine T_goto 2 dX1_endDays_14 (by decide) ?_
    exact h
  · intro hy
    refine T_il2 dX1_endDays_2 ?_
    refine T_il1 dX1_endDays_3 ?_
    refine T_icmp_ge_t 17 dX1_endDays_4 (by decide) ((hds e (by omega)).mpr (by omega)) ?_
    refine T_vret rfl dX1_endDays_17 ?_
    exact ⟨rfl, rfl, rfl⟩
def setS (m : List Int32) : Nat → List Int32 → List Int32 := fun k l => l.set k (m.getD k 0)
theorem iter_set (m : List Int32) : ∀ (n k : Nat) (l : List Int32), l.length = k + n → m.length = k + n → iter (setS m) n k l = l.take k ++ m.drop k := by
  intro n
  induction n with
  | zero => intro k l hl hm; rw [iter, List.take_of_length_le (by omega), List.drop_eq_nil_of_le (by omega), List.append_nil]
  | succ n ih =>
    intro k l hl hm
    have hk : k < l.length := by omega
    have hk' : k < m.length := by omega
    rw [iter, ih (k + 1) (setS m k l) (by simp [setS]; omega) (by omega), setS, List.drop_eq_getElem_cons hk', List.getD_eq_getElem?_getD, List.getElem?_eq_getElem hk', Option.getD_some]
    rw [List.take_succ_eq_append_getElem (by simpa using hk), List.getElem_set_self, List.take_set_of_le (Nat.le_refl k), List.append_assoc]
    rfl
theorem iter_set8 {m l : List Int32} (hl : l.length = 8) (hm : m.length = 8) : iter (setS m) 8 0 l = m := by
  rw [iter_set m 8 0 l (by omega) (by omega)]; rfl
def begS (c o k : List Int32) : Nat → LoS → LoS := fun j y => (y.1, y.2.1, y.2.2.1, y.2.2.2.1, setS c j (lCol y), setS o j (lOv y), setS k j (lKn y), setS (List.replicate 8 (-1)) j (lCd y))
theorem begS_it (c o k : List Int32) : ∀ (n j : Nat) (y : LoS), iter (begS c o k) n j y = (y.1, y.2.1, y.2.2.1, y.2.2.2.1, iter (setS c) n j (lCol y), iter (setS o) n j (lOv y), iter (setS k) n j (lKn y), iter (setS (List.replicate 8 (-1))) n j (lCd y)) := by
  intro n
  induction n with
  | zero => intro j y; rfl
  | succ n ih => intro j y; rw [iter, ih]; rfl
/-- a loom at its beginning -/
def begL (n : Nat) (c o k : List Int32) : LoS := (nI 0, nI 0, bitI (nI n) - nI 1, nI 0, c, o, k, List.replicate 8 (-1))
theorem c_begin (d : Nat) (hd : 2 ≤ d) (F : FT) (G : GT) (b : Nat) (hb : isL b = true) (x : LoS) (n : Nat) (hF : F 3 0 = nI n) : Kc DX1_begin d [.ref b] (pF F b x) (pG G b x) (fun v F' G' => v = none ∧ F' = pF F b (begL n (G 6) (G 7) (G 8)) ∧ G' = pG G b (begL n (G 6) (G 7) (G 8))) := by
  refine Kc.ofT [some (.ref b), none] pn_X1 (Nat.le_of_ble_eq_true rfl) rfl ?_
  refine T_len (fun hlen => ?_)
  have gt : ∀ (y : LoS) (c : Nat), c ≤ 19 → pG G b y c = G c := fun y c hc => pG_t G hb y hc
  have l1 : (lCol x).length = 8 := by have := hlen (b + 1); rw [pG_1, (gL_L hb).1] at this; exact this
  have l2 : (lOv x).length = 8 := by have := hlen (b + 2); rw [pG_2, (gL_L hb).2.1] at this; exact this
  have l3 : (lKn x).length = 8 := by have := hlen (b + 3); rw [pG_3, (gL_L hb).2.2.1] at this; exact this
  have l4 : (lCd x).length = 8 := by have := hlen (b + 4); rw [pG_4, (gL_L hb).2.2.2] at this; exact this
  have l6 : (G 6).length = 8 := by have := hlen 6; rw [gt x 6 (by decide)] at this; exact this
  have l7 : (G 7).length = 8 := by have := hlen 7; rw [gt x 7 (by decide)] at this; exact this
  have l8 : (G 8).length = 8 := by have := hlen 8; rw [gt x 8 (by decide)] at this; exact this
  refine T_al0 dX1_begin_0 ?_
  refine T_iconst (v := nI 0) dX1_begin_1 rfl ?_
  refine T_put1_1 pX1_28 (by first | assumption | decide) dX1_begin_2 ?_
  rw [uF_1]
  refine T_al0 dX1_begin_5 ?_
  refine T_iconst (v := nI 0) dX1_begin_6 rfl ?_
  refine T_put1_2 pX1_32 (by first | assumption | decide) dX1_begin_7 ?_
  rw [uF_2]
  refine T_al0 dX1_begin_10 ?_
  refine T_al0 dX1_begin_11 ?_
  refine T_g1 gX1_24 (by first | assumption | decide) (cell_L _ _ (by first | assumption | decide)) rfl dX1_begin_12 ?_
  refine T_pV0 lX1_35 rfl (by omega) (cell_T _ _ (by first | assumption | decide)) (c_all _ _ _ _ (by first | assumption | decide) (by omega)) (by omega) (Nat.le_of_ble_eq_true rfl) dX1_begin_15 ?_
  rw [pF_t F hb, hF]
  refine T_put1_3 pX1_41 (by first | assumption | decide) dX1_begin_18 ?_
  rw [uF_3]
  refine T_al0 dX1_begin_21 ?_
  refine T_iconst (v := nI 0) dX1_begin_22 rfl ?_
  refine T_put1_4 pX1_44 (by first | assumption | decide) dX1_begin_23 ?_
  rw [uF_4]
  refine T_iconst (v := nI 0) dX1_begin_26 rfl ?_
  refine T_is1 dX1_begin_27 rfl ?_
  refine for_up (begS (G 6) (G 7) (G 8)) 8 (fun k y => T DX1_begin d 28 [some (.ref b), some (.int (nI k))] [] (pF F b (nI 0, nI 0, bitI (nI n) - nI 1, nI 0, x.2.2.2.2)) (pG G b y) _) ?_ 8 0 x rfl ?_
  · intro k y hk h
    refine T_il1 dX1_begin_28 ?_
    refine T_bipush (v := nI 8) dX1_begin_29 (by decide +kernel) ?_
    refine T_nge_f 92 dX1_begin_31 (by decide) (by omega) (by omega) (by omega) ?_
    refine T_al0 dX1_begin_34 ?_
    refine T_g1 gX1_9 (by first | assumption | decide) (cell_L _ _ (by first | assumption | decide)) rfl dX1_begin_35 ?_
    refine T_il1 dX1_begin_38 ?_
    refine T_al0 dX1_begin_39 ?_
    refine T_g1 gX1_24 (by first | assumption | decide) (cell_L _ _ (by first | assumption | decide)) rfl dX1_begin_40 ?_
    refine T_g4 gX1_47 (by first | assumption | decide) (cell_T _ _ (by first | assumption | decide)) rfl dX1_begin_43 ?_
    refine T_il1 dX1_begin_46 ?_
    refine T_aldN (isT_I (by first | assumption | decide)).2.2.1 (by rw [(gL_T (by first | assumption | decide)).2.2.1]; omega) dX1_begin_47 ?_
    rw [gt y (3 + 3) (by decide)]
    refine T_astN (isL_I (by first | assumption | decide)).1 (by rw [(gL_L (by first | assumption | decide)).1]; omega) dX1_begin_48 ?_
    refine T_al0 dX1_begin_49 ?_
    refine T_g1 gX1_15 (by first | assumption | decide) (cell_L _ _ (by first | assumption | decide)) rfl dX1_begin_50 ?_
    refine T_il1 dX1_begin_53 ?_
    refine T_al0 dX1_begin_54 ?_
    refine T_g1 gX1_24 (by first | assumption | decide) (cell_L _ _ (by first | assumption | decide)) rfl dX1_begin_55 ?_
    refine T_g4 gX1_48 (by first | assumption | decide) (cell_T _ _ (by first | assumption | decide)) rfl dX1_begin_58 ?_
    refine T_il1 dX1_begin_61 ?_
    refine T_aldN (isT_I (by first | assumption | decide)).2.2.2.1 (by rw [(gL_T (by first | assumption | decide)).2.2.2.1]; omega) dX1_begin_62 ?_
    rw [uG_1, pG_1, gt _ (3 + 4) (by decide)]
    refine T_astN (isL_I (by first | assumption | decide)).2.1 (by rw [(gL_L (by first | assumption | decide)).2.1]; omega) dX1_begin_63 ?_
    refine T_al0 dX1_begin_64 ?_
    refine T_g1 gX1_18 (by first | assumption | decide) (cell_L _ _ (by first | assumption | decide)) rfl dX1_begin_65 ?_
    refine T_il1 dX1_begin_68 ?_
    refine T_al0 dX1_begin_69 ?_
    refine T_g1 gX1_24 (by first | assumption | decide) (cell_L _ _ (by first | assumption | decide)) rfl dX1_begin_70 ?_
    refine T_g4 gX1_49 (by first | assumption | decide) (cell_T _ _ (by first | assumption | decide)) rfl dX1_begin_73 ?_
    refine T_il1 dX1_begin_76 ?_
    refine T_aldN (isT_I (by first | assumption | decide)).2.2.2.2.1 (by rw [(gL_T (by first | assumption | decide)).2.2.2.2.1]; omega) dX1_begin_77 ?_
    rw [uG_2, pG_2, gt _ (3 + 5) (by decide)]
    refine T_astN (isL_I (by first | assumption | decide)).2.2.1 (by rw [(gL_L (by first | assumption | decide)).2.2.1]; omega) dX1_begin_78 ?_
    refine T_al0 dX1_begin_79 ?_
    refine T_g1 gX1_21 (by first | assumption | decide) (cell_L _ _ (by first | assumption | decide)) rfl dX1_begin_80 ?_
    refine T_il1 dX1_begin_83 ?_
    refine T_iconst (v := -1) dX1_begin_84 rfl ?_
    refine T_astN (isL_I (by first | assumption | decide)).2.2.2 (by rw [(gL_L (by first | assumption | decide)).2.2.2]; omega) dX1_begin_85 ?_
    rw [uG_3, pG_3, uG_4, pG_4]
    refine T_ii1 dX1_begin_86 (by first | exact nI_inc _ | exact nI_dec _ | rfl) rfl ?_
    refine T_goto 28 dX1_begin_89 (by decide) ?_
    refine T_G ?_ h
    have e8 : (List.replicate 8 (-1 : Int32)).getD k 0 = -1 := by
      rw [List.getD_eq_getElem?_getD, List.getElem?_replicate, if_pos hk]; rfl
    simp only [begS, setS, e8]
  · refine T_il1 dX1_begin_28 ?_
    refine T_bipush (v := nI 8) dX1_begin_29 (by decide +kernel) ?_
    refine T_nge_t 92 dX1_begin_31 (by decide) (by omega) (by omega) (by omega) ?_
    refine T_vret rfl dX1_begin_92 ?_
    refine ⟨rfl, ?_, ?_⟩
    · rfl
    · rw [begS_it, iter_set8 l1 l6, iter_set8 l2 l7, iter_set8 l3 l8, iter_set8 l4 (by simp)]
      rfl
def lieS (ov : List Int32) (t : Int32) : Nat → Nat → Nat := fun k c => if hasI (ov.getD k 0) t = true then c + 1 else c
theorem c_liesOver (d : Nat) (hd : 1 ≤ d) (F : FT) (G : GT) (b : Nat) (hb : isL b = true) (t : Int32) : Kp DX1_liesOver d [.ref b, .int t] F G (some (.int (nI (iter (lieS (G (b + 2)) t) 8 0 0)))) := by
  refine Kc.ofT [some (.ref b), some (.int t), none, none] pn_X1 (Nat.le_of_ble_eq_true rfl) rfl ?_
  refine T_iconst (v := nI 0) dX1_liesOver_0 rfl ?_
  refine T_is2 dX1_liesOver_1 rfl ?_
  refine T_iconst (v := nI 0) dX1_liesOver_2 rfl ?_
  refine T_is3 dX1_liesOver_3 rfl ?_
  refine for_up (lieS (G (b + 2)) t) 8 (fun k c => T DX1_liesOver d 4 [some (.ref b), some (.int t), some (.int (nI c)), some (.int (nI k))] [] F G _) ?_ 8 0 0 rfl ?_
  · intro k c hk h
    refine T_il3 dX1_liesOver_4 ?_
    refine T_bipush (v := nI 8) dX1_liesOver_5 (by decide +kernel) ?_
    refine T_nge_f 32 dX1_liesOver_7 (by decide) (by omega) (by omega) (by omega) ?_
    refine T_al0 dX1_liesOver_10 ?_
    refine T_g1 gX1_15 (by first | assumption | decide) (cell_L _ _ (by first | assumption | decide)) rfl dX1_liesOver_11 ?_
    refine T_il3 dX1_liesOver_14 ?_
    refine T_aldN (isL_I (by first | assumption | decide)).2.1 (by rw [(gL_L (by first | assumption | decide)).2.1]; omega) dX1_liesOver_15 ?_
    refine T_il1 dX1_liesOver_16 ?_
    refine T_pT2 lX1_56 (c_has _ _ _ _ _) (by omega) (Nat.le_of_ble_eq_true rfl) dX1_liesOver_17 ?_
    refine T_beq 26 dX1_liesOver_20 (by decide) (fun hq => ?_) (fun hq => ?_)
    · rw [lieS, if_neg (by rw [hq]; decide)] at h
      refine T_ii3 dX1_liesOver_26 (by first | exact nI_inc _ | exact nI_dec _ | rfl) rfl ?_
      refine T_goto 4 dX1_liesOver_29 (by decide) ?_
      exact h
    · rw [lieS, if_pos hq] at h
      refine T_ii2 dX1_liesOver_23 (by first | exact nI_inc _ | exact nI_dec _ | rfl) rfl ?_
      refine T_ii3 dX1_liesOver_26 (by first | exact nI_inc _ | exact nI_dec _ | rfl) rfl ?_
      refine T_goto 4 dX1_liesOver_29 (by decide) ?_
      exact h
  · refine T_il3 dX1_liesOver_4 ?_
    refine T_bipush (v := nI 8) dX1_liesOver_5 (by decide +kernel) ?_
    refine T_nge_t 32 dX1_liesOver_7 (by decide) (by omega) (by omega) (by omega) ?_
    refine T_il2 dX1_liesOver_32 ?_
    refine T_iret rfl dX1_liesOver_33 ?_
    exact ⟨rfl, rfl, rfl⟩
def offS (t : Int32) : Nat → List Int32 → List Int32 := fun k l => l.set k (l.getD k 0 &&& (bitI t ^^^ (-1)))
theorem c_takeOff (d : Nat) (hd : 1 ≤ d) (F : FT) (G : GT) (b : Nat) (hb : isL b = true) (t : Int32) : Kc DX1_takeOff d [.ref b, .int t] F G (fun v F' G' => v = none ∧ F' = F ∧ G' = u1 G (b + 2) (iter (offS t) 8 0 (G (b + 2)))) := by
  refine Kc.ofT [some (.ref b), some (.int t), none] pn_X1 (Nat.le_of_ble_eq_true rfl) rfl ?_
  refine T_iconst (v := nI 0) dX1_takeOff_0 rfl ?_
  refine T_is2 dX1_takeOff_1 rfl ?_
  refine T_G (u1_id G (b + 2)).symm ?_
  refine for_up (offS t) 8 (fun k l => T DX1_takeOff d 2 [some (.ref b), some (.int t), some (.int (nI k))] [] F (u1 G (b + 2) l) _) ?_ 8 0 (G (b + 2)) rfl ?_
  · intro k l hk h
    refine T_il2 dX1_takeOff_2 ?_
    refine T_bipush (v := nI 8) dX1_takeOff_3 (by decide +kernel) ?_
    refine T_nge_f 29 dX1_takeOff_5 (by decide) (by omega) (by omega) (by omega) ?_
    refine T_al0 dX1_takeOff_8 ?_
    refine T_g1 gX1_15 (by first | assumption | decide) (cell_L _ _ (by first | assumption | decide)) rfl dX1_takeOff_9 ?_
    refine T_il2 dX1_takeOff_12 ?_
    refine T_dup2 dX1_takeOff_13 rfl rfl ?_
    refine T_aldN (isL_I (by first | assumption | decide)).2.1 (by rw [(gL_L (by first | assumption | decide)).2.1]; omega) dX1_takeOff_14 ?_
    refine T_il1 dX1_takeOff_15 ?_
    refine T_pT1 lX1_74 (c_bit _ _ _ _) (by omega) (Nat.le_of_ble_eq_true rfl) dX1_takeOff_16 ?_
    refine T_iconst (v := -1) dX1_takeOff_19 rfl ?_
    refine T_ixor dX1_takeOff_20 ?_
    refine T_iand dX1_takeOff_21 ?_
    rw [u1_s]
    refine T_astN (isL_I (by first | assumption | decide)).2.1 (by rw [(gL_L (by first | assumption | decide)).2.1]; omega) dX1_takeOff_22 ?_
    rw [u1_u1, u1_s]
    refine T_ii2 dX1_takeOff_23 (by first | exact nI_inc _ | exact nI_dec _ | rfl) rfl ?_
    refine T_goto 2 dX1_takeOff_26 (by decide) ?_
    exact h
  · refine T_il2 dX1_takeOff_2 ?_
    refine T_bipush (v := nI 8) dX1_takeOff_3 (by decide +kernel) ?_
    refine T_nge_t 29 dX1_takeOff_5 (by decide) (by omega) (by omega) (by omega) ?_
    refine T_vret rfl dX1_takeOff_29 ?_
    exact ⟨rfl, rfl, rfl⟩
def givI (kd ln : List Int32) (w day m : Int32) (i : Nat) : Int32 := if hasI w (nI i) = true then (if endB kd i = true then nI 0 else if nI 0 < (yrsI kd ln i day - m) / (if kd.getD i 0 = nI 1 then nI 2 else nI 1) then (yrsI kd ln i day - m) / (if kd.getD i 0 = nI 1 then nI 2 else nI 1) else nI 0) else nI 0
theorem c_canGive (d : Nat) (hd : 2 ≤ d) (F : FT) (G : GT) (b : Nat) (hb : isL b = true) (i : Nat) (hi : i < 8) (m : Int32) : Kp DX1_canGive d [.ref b, .int (nI i), .int m] F G (some (.int (givI (G 4) (G 5) (F b 3) (F b 1) m i))) := by
  refine Kc.ofT [some (.ref b), some (.int (nI i)), some (.int m), none] pn_X1 (Nat.le_of_ble_eq_true rfl) rfl ?_
  refine T_al0 dX1_canGive_0 ?_
  refine T_il1 dX1_canGive_1 ?_
  refine T_pV1 lX1_105 rfl (by first | decide | (have := isL_lt _ (by assumption); omega)) (cell_L _ _ (by first | assumption | decide)) (c_isWhole _ (by omega) _ _ _ (by first | assumption | decide) _) (by omega) (Nat.le_of_ble_eq_true rfl) dX1_canGive_2 ?_
  refine T_beq 19 dX1_canGive_5 (by decide) (fun h1 => ?_) (fun h1 => ?_)
  · refine T_iconst (v := nI 0) dX1_canGive_19 rfl ?_
    refine T_iret rfl dX1_canGive_20 ?_
    exact ⟨by simp only [givI, h1, Bool.false_eq_true, if_false], rfl, rfl⟩
  · refine T_al0 dX1_canGive_8 ?_
    refine T_g1 gX1_24 (by first | assumption | decide) (cell_L _ _ (by first | assumption | decide)) rfl dX1_canGive_9 ?_
    refine T_il1 dX1_canGive_12 ?_
    refine T_pV1 lX1_70 rfl (by omega) (cell_T _ _ (by first | assumption | decide)) (c_isEndless _ _ _ _ (by first | assumption | decide) _ (by omega)) (by omega) (Nat.le_of_ble_eq_true rfl) dX1_canGive_13 ?_
    refine T_beq 21 dX1_canGive_16 (by decide) (fun h2 => ?_) (fun h2 => ?_)
    · refine T_al0 dX1_canGive_21 ?_
      refine T_g1 gX1_24 (by first | assumption | decide) (cell_L _ _ (by first | assumption | decide)) rfl dX1_canGive_22 ?_
      refine T_g4 gX1_108 (by first | assumption | decide) (cell_T _ _ (by first | assumption | decide)) rfl dX1_canGive_25 ?_
      refine T_il1 dX1_canGive_28 ?_
      refine T_aldN (isT_I (by first | assumption | decide)).1 (by rw [(gL_T (by first | assumption | decide)).1]; omega) dX1_canGive_29 ?_
      refine T_iconst (v := nI 1) dX1_canGive_30 rfl ?_
      refine T_icmp_ne 38 dX1_canGive_31 (by decide) (fun h3 => ?_) (fun h3 => ?_)
      · refine T_iconst (v := nI 1) dX1_canGive_38 rfl ?_
        refine T_is3 dX1_canGive_39 rfl ?_
        refine T_iconst (v := nI 0) dX1_canGive_40 rfl ?_
        refine T_al0 dX1_canGive_41 ?_
        refine T_g1 gX1_24 (by first | assumption | decide) (cell_L _ _ (by first | assumption | decide)) rfl dX1_canGive_42 ?_
        refine T_il1 dX1_canGive_45 ?_
        refine T_al0 dX1_canGive_46 ?_
        refine T_g1 gX1_28 (by first | assumption | decide) (cell_L _ _ (by first | assumption | decide)) rfl dX1_canGive_47 ?_
        refine T_pV2 lX1_111 rfl (by omega) (cell_T _ _ (by first | assumption | decide)) (c_yearsOn _ _ _ _ (by first | assumption | decide) (by omega) _ (by omega) _) (by omega) (Nat.le_of_ble_eq_true rfl) dX1_canGive_50 ?_
        refine T_il2 dX1_canGive_53 ?_
        refine T_isub dX1_canGive_54 ?_
        refine T_il3 dX1_canGive_55 ?_
        refine T_idiv dX1_canGive_56 (by decide) ?_
        refine T_max lX1_114 (by omega) (Nat.le_of_ble_eq_true rfl) dX1_canGive_57 ?_
        refine T_iret rfl dX1_canGive_60 ?_
        exact ⟨by simp only [givI, h1, h2, h3, Bool.false_eq_true, if_false, if_true], rfl, rfl⟩
      · refine T_iconst (v := nI 2) dX1_canGive_34 rfl ?_
        refine T_goto 39 dX1_canGive_35 (by decide) ?_
        refine T_is3 dX1_canGive_39 rfl ?_
        refine T_iconst (v := nI 0) dX1_canGive_40 rfl ?_
        refine T_al0 dX1_canGive_41 ?_
        refine T_g1 gX1_24 (by first | assumption | decide) (cell_L _ _ (by first | assumption | decide)) rfl dX1_canGive_42 ?_
        refine T_il1 dX1_canGive_45 ?_
        refine T_al0 dX1_canGive_46 ?_
        refine T_g1 gX1_28 (by first | assumption | decide) (cell_L _ _ (by first | assumption | decide)) rfl dX1_canGive_47 ?_
        refine T_pV2 lX1_111 rfl (by omega) (cell_T _ _ (by first | assumption | decide)) (c_yearsOn _ _ _ _ (by first | assumption | decide) (by omega) _ (by omega) _) (by omega) (Nat.le_of_ble_eq_true rfl) dX1_canGive_50 ?_
        refine T_il2 dX1_canGive_53 ?_
        refine T_isub dX1_canGive_54 ?_
        refine T_il3 dX1_canGive_55 ?_
        refine T_idiv dX1_canGive_56 (by decide) ?_
        refine T_max lX1_114 (by omega) (Nat.le_of_ble_eq_true rfl) dX1_canGive_57 ?_
        refine T_iret rfl dX1_canGive_60 ?_
        exact ⟨by simp only [givI, h1, h2, h3, Bool.false_eq_true, if_false, if_true], rfl, rfl⟩
    · refine T_iconst (v := nI 0) dX1_canGive_19 rfl ?_
      refine T_iret rfl dX1_canGive_20 ?_
      exact ⟨by simp only [givI, h1, h2, if_true], rfl, rfl⟩
theorem isL_apart {a b : Nat} (ha : isL a = true) (hb : isL b = true) (h : a ≠ b) : a + 4 < b ∨ b + 4 < a := by
  simp only [isL, Bool.or_eq_true, Bool.and_eq_true, beq_iff_eq, decide_eq_true_eq] at ha hb
  omega
theorem c_lcopy (d : Nat) (hd : 1 ≤ d) (F : FT) (G : GT) (b s : Nat) (hb : isL b = true) (hs : isL s = true) (hbs : b ≠ s) : Kc DX1_copyFrom d [.ref b, .ref s] F G (fun v F' G' => v = none ∧ F' = pF F b (gL F G s) ∧ G' = pG G b (gL F G s)) := by
  have hap := isL_apart hb hs hbs
  refine Kc.ofT [some (.ref b), some (.ref s)] pn_X1 (Nat.le_of_ble_eq_true rfl) rfl ?_
  refine T_F (pF_id F G b).symm ?_
  refine T_G (pG_id F G b).symm ?_
  generalize gL F G b = x
  have fo : ∀ (y : LoS) (i : Nat), pF F b y s i = F s i := fun y i => pF_o F y i (fun e => hbs e.symm)
  have go : ∀ (y : LoS) (j : Nat), 1 ≤ j → j ≤ 4 → pG G b y (s + j) = G (s + j) := fun y j h1 h2 => pG_o G y (by omega)
  refine T_al0 dX1_copyFrom_0 ?_
  refine T_al1 dX1_copyFrom_1 ?_
  refine T_g1 gX1_28 (by first | assumption | decide) (cell_L _ _ (by first | assumption | decide)) rfl dX1_copyFrom_2 ?_
  rw [fo]
  refine T_put1_1 pX1_28 (by first | assumption | decide) dX1_copyFrom_5 ?_
  rw [uF_1]
  refine T_al0 dX1_copyFrom_8 ?_
  refine T_al1 dX1_copyFrom_9 ?_
  refine T_g1 gX1_32 (by first | assumption | decide) (cell_L _ _ (by first | assumption | decide)) rfl dX1_copyFrom_10 ?_
  rw [fo]
  refine T_put1_2 pX1_32 (by first | assumption | decide) dX1_copyFrom_13 ?_
  rw [uF_2]
  refine T_al0 dX1_copyFrom_16 ?_
  refine T_al1 dX1_copyFrom_17 ?_
  refine T_g1 gX1_41 (by first | assumption | decide) (cell_L _ _ (by first | assumption | decide)) rfl dX1_copyFrom_18 ?_
  rw [fo]
  refine T_put1_3 pX1_41 (by first | assumption | decide) dX1_copyFrom_21 ?_
  rw [uF_3]
  refine T_al0 dX1_copyFrom_24 ?_
  refine T_al1 dX1_copyFrom_25 ?_
  refine T_g1 gX1_44 (by first | assumption | decide) (cell_L _ _ (by first | assumption | decide)) rfl dX1_copyFrom_26 ?_
  rw [fo]
  refine T_put1_4 pX1_44 (by first | assumption | decide) dX1_copyFrom_29 ?_
  rw [uF_4]
  refine T_al1 dX1_copyFrom_32 ?_
  refine T_g1 gX1_9 (by first | assumption | decide) (cell_L _ _ (by first | assumption | decide)) rfl dX1_copyFrom_33 ?_
  refine T_iconst (v := nI 0) dX1_copyFrom_36 rfl ?_
  refine T_al0 dX1_copyFrom_37 ?_
  refine T_g1 gX1_9 (by first | assumption | decide) (cell_L _ _ (by first | assumption | decide)) rfl dX1_copyFrom_38 ?_
  refine T_iconst (v := nI 0) dX1_copyFrom_41 rfl ?_
  refine T_bipush (v := nI 8) dX1_copyFrom_42 (by decide +kernel) ?_
  refine T_acopy lX1_50 (isL_I hs).1 (isL_I hb).1 (gL_L hs).1 (gL_L hb).1 (by omega) dX1_copyFrom_44 ?_
  rw [uG_1, go _ 1 (by decide) (by decide)]
  refine T_al1 dX1_copyFrom_47 ?_
  refine T_g1 gX1_15 (by first | assumption | decide) (cell_L _ _ (by first | assumption | decide)) rfl dX1_copyFrom_48 ?_
  refine T_iconst (v := nI 0) dX1_copyFrom_51 rfl ?_
  refine T_al0 dX1_copyFrom_52 ?_
  refine T_g1 gX1_15 (by first | assumption | decide) (cell_L _ _ (by first | assumption | decide)) rfl dX1_copyFrom_53 ?_
  refine T_iconst (v := nI 0) dX1_copyFrom_56 rfl ?_
  refine T_bipush (v := nI 8) dX1_copyFrom_57 (by decide +kernel) ?_
  refine T_acopy lX1_50 (isL_I hs).2.1 (isL_I hb).2.1 (gL_L hs).2.1 (gL_L hb).2.1 (by omega) dX1_copyFrom_59 ?_
  rw [uG_2, go _ 2 (by decide) (by decide)]
  refine T_al1 dX1_copyFrom_62 ?_
  refine T_g1 gX1_18 (by first | assumption | decide) (cell_L _ _ (by first | assumption | decide)) rfl dX1_copyFrom_63 ?_
  refine T_iconst (v := nI 0) dX1_copyFrom_66 rfl ?_
  refine T_al0 dX1_copyFrom_67 ?_
  refine T_g1 gX1_18 (by first | assumption | decide) (cell_L _ _ (by first | assumption | decide)) rfl dX1_copyFrom_68 ?_
  refine T_iconst (v := nI 0) dX1_copyFrom_71 rfl ?_
  refine T_bipush (v := nI 8) dX1_copyFrom_72 (by decide +kernel) ?_
  refine T_acopy lX1_50 (isL_I hs).2.2.1 (isL_I hb).2.2.1 (gL_L hs).2.2.1 (gL_L hb).2.2.1 (by omega) dX1_copyFrom_74 ?_
  rw [uG_3, go _ 3 (by decide) (by decide)]
  refine T_al1 dX1_copyFrom_77 ?_
  refine T_g1 gX1_21 (by first | assumption | decide) (cell_L _ _ (by first | assumption | decide)) rfl dX1_copyFrom_78 ?_
  refine T_iconst (v := nI 0) dX1_copyFrom_81 rfl ?_
  refine T_al0 dX1_copyFrom_82 ?_
  refine T_g1 gX1_21 (by first | assumption | decide) (cell_L _ _ (by first | assumption | decide)) rfl dX1_copyFrom_83 ?_
  refine T_iconst (v := nI 0) dX1_copyFrom_86 rfl ?_
  refine T_bipush (v := nI 8) dX1_copyFrom_87 (by decide +kernel) ?_
  refine T_acopy lX1_50 (isL_I hs).2.2.2 (isL_I hb).2.2.2 (gL_L hs).2.2.2 (gL_L hb).2.2.2 (by omega) dX1_copyFrom_89 ?_
  rw [uG_4, go _ 4 (by decide) (by decide)]
  refine T_vret rfl dX1_copyFrom_92 ?_
  exact ⟨rfl, rfl, rfl⟩
