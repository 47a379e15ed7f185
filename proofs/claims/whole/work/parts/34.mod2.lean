theorem how_0 {n : Nat} {x : LoS} {t : Nat} (ht : t < n) : howI n x t = 0 ↔ hasI (lWhole x) (nI t) = true := by
  unfold howI
  rw [if_pos ht]
  constructor
  · intro h
    by_cases h1 : hasI (lWhole x) (nI t) = true
    · exact h1
    · rw [if_neg h1] at h
      split at h
      · exact absurd h (by decide)
      · exact absurd h (by decide)
  · intro h; rw [if_pos h]
theorem m_isWhole (d : Nat) (F : FT) (G : GT) (n : Nat) (kd ln : List Int32) (x : LoS) (hM : McR n kd ln x F G) (hn : n ≤ 8) (t : Nat) (ht : t < n) : Kp DX7_isWhole d [.ref 89, .int (nI t)] F G (some (.int (bI (hasI (lWhole x) (nI t))))) := by
  obtain ⟨h1, h2, h3, h4, l1, l2, l3, l4⟩ := hM
  refine Kc.ofT [some (.ref 89), some (.int (nI t))] pn_X7 (Nat.le_of_ble_eq_true rfl) rfl ?_
  refine T_al0 dX7_isWhole_0 ?_
  refine T_g7 gX7_25 (cell_89 _ _) rfl dX7_isWhole_1 ?_
  refine T_bipush (v := nI 8) dX7_isWhole_4 (by decide +kernel) ?_
  refine T_il1 dX7_isWhole_6 ?_
  first | refine T_iaddN dX7_isWhole_7 ?_ | refine T_iadd dX7_isWhole_7 ?_
  refine T_aldN rfl (show _ < 42 by omega) dX7_isWhole_8 ?_
  rw [h4, enc_how l1 (by omega)]
  refine T_if_ne 16 dX7_isWhole_9 (by decide) (fun h5 => ?_) (fun h5 => ?_)
  · refine T_iconst (v := nI 0) dX7_isWhole_16 rfl ?_
    refine T_bret0 rfl dX7_isWhole_17 ?_
    exact ⟨by rw [show hasI (lWhole x) (nI t) = false by cases hq : hasI (lWhole x) (nI t) with | true => exact absurd ((how_0 ht).mpr hq) h5 | false => rfl], rfl, rfl⟩
  · refine T_iconst (v := nI 1) dX7_isWhole_12 rfl ?_
    refine T_goto 17 dX7_isWhole_13 (by decide) ?_
    refine T_bret1 rfl dX7_isWhole_17 ?_
    exact ⟨by rw [(how_0 ht).mp h5], rfl, rfl⟩
def whS (w : Int32) : Nat → Int32 → Int32 := fun t s => if hasI w (nI t) = true then s ||| bitI (nI t) else s
theorem wh_all : ∀ n, n < 9 → ∀ w, w < 2 ^ n → iter (whS (nI w)) n 0 (nI 0) = nI w := by decide +kernel
theorem or_0 (x : Int32) : x ||| nI 0 = x := by
  rw [nI_any x, nI_or, Nat.or_zero]
theorem m_wholes (d : Nat) (hd : 1 ≤ d) (F : FT) (G : GT) (n : Nat) (kd ln : List Int32) (x : LoS) (hM : McR n kd ln x F G) (hn : n ≤ 8) (w : Nat) (hw : lWhole x = nI w) (hw2 : w < 2 ^ n) : Kp DX7_wholes d [.ref 89] F G (some (.int (lWhole x))) := by
  have e0 := hM.1
  refine Kc.ofT [some (.ref 89), none, none] pn_X7 (Nat.le_of_ble_eq_true rfl) rfl ?_
  refine T_iconst (v := nI 0) dX7_wholes_0 rfl ?_
  refine T_is1 dX7_wholes_1 rfl ?_
  refine T_iconst (v := nI 0) dX7_wholes_2 rfl ?_
  refine T_is2 dX7_wholes_3 rfl ?_
  refine for_up (whS (lWhole x)) n (fun k s => T DX7_wholes d 4 [some (.ref 89), some (.int s), some (.int (nI k))] [] F G _) ?_ n 0 _ (by omega) ?_
  · intro k s hk h
    refine T_il2 dX7_wholes_4 ?_
    refine T_al0 dX7_wholes_5 ?_
    refine T_g7 gX7_74 (cell_89 _ _) rfl dX7_wholes_6 ?_
    rw [e0]
    refine T_nge_f 36 dX7_wholes_9 (by decide) (by omega) (by omega) (by omega) ?_
    refine T_il1 dX7_wholes_12 ?_
    refine T_al0 dX7_wholes_13 ?_
    refine T_il2 dX7_wholes_14 ?_
    refine T_pV1 lX7_169 rfl (by decide) (cell_89 _ _) (m_isWhole _ F G n kd ln x hM hn k hk) (by omega) (Nat.le_of_ble_eq_true rfl) dX7_wholes_15 ?_
    refine T_beq 27 dX7_wholes_18 (by decide) (fun h5 => ?_) (fun h5 => ?_)
    · rw [whS, if_neg (by rw [h5]; decide)] at h
      refine T_iconst (v := nI 0) dX7_wholes_27 rfl ?_
      refine T_ior dX7_wholes_28 ?_
      rw [or_0]
      refine T_is1 dX7_wholes_29 rfl ?_
      refine T_ii2 dX7_wholes_30 (by first | exact nI_inc _ | exact nI_dec _ | rfl) rfl ?_
      refine T_goto 4 dX7_wholes_33 (by decide) ?_
      exact h
    · rw [whS, if_pos h5] at h
      refine T_iconst (v := nI 1) dX7_wholes_21 rfl ?_
      refine T_il2 dX7_wholes_22 ?_
      refine T_ishl dX7_wholes_23 ?_
      refine T_goto 28 dX7_wholes_24 (by decide) ?_
      refine T_ior dX7_wholes_28 ?_
      refine T_is1 dX7_wholes_29 rfl ?_
      refine T_ii2 dX7_wholes_30 (by first | exact nI_inc _ | exact nI_dec _ | rfl) rfl ?_
      refine T_goto 4 dX7_wholes_33 (by decide) ?_
      exact h
  · refine T_il2 dX7_wholes_4 ?_
    refine T_al0 dX7_wholes_5 ?_
    refine T_g7 gX7_74 (cell_89 _ _) rfl dX7_wholes_6 ?_
    rw [e0]
    refine T_nge_t 36 dX7_wholes_9 (by decide) (by omega) (by omega) (by omega) ?_
    refine T_il1 dX7_wholes_36 ?_
    refine T_iret rfl dX7_wholes_37 ?_
    rw [hw, wh_all n (by omega) w hw2]
    exact ⟨rfl, rfl, rfl⟩
theorem yrs_eq (kd ln : List Int32) (t : Nat) (day : Int32) (h : endB kd t = false) : yrsI kd ln t day = if ln.getD t 0 - day < 0 then nI 0 else if kd.getD t 0 = nI 1 then nI 2 * (ln.getD t 0 - day) else ln.getD t 0 - day := by
  unfold yrsI
  rw [if_neg (by rw [h]; decide)]
  generalize ln.getD t 0 - day = z
  by_cases h1 : z < 0
  · rw [if_pos h1, if_neg (fun q : nI 0 < z => Int32.lt_irrefl (Int32.lt_trans q h1))]
    split <;> rfl
  · rw [if_neg h1]
    by_cases h2 : nI 0 < z
    · rw [if_pos h2]
    · have hz : z = nI 0 := Int32.le_antisymm (Int32.not_lt.mp h2) (Int32.not_lt.mp h1)
      rw [if_neg h2, hz]
def yrM (kd ln : List Int32) (x : LoS) (t : Nat) : Int32 := if hasI (lWhole x) (nI t) = true then yrsI kd ln t (lDay x) else nI 0
theorem m_yearsOf (d : Nat) (hd : 1 ≤ d) (F : FT) (G : GT) (n : Nat) (kd ln : List Int32) (x : LoS) (hM : McR n kd ln x F G) (hn : n ≤ 8) (t : Nat) (ht : t < n) : Kp DX7_yearsOf d [.ref 89, .int (nI t)] F G (some (.int (yrM kd ln x t))) := by
  obtain ⟨h1, h2, h3, h4, l1, l2, l3, l4⟩ := id hM
  refine Kc.ofT [some (.ref 89), some (.int (nI t)), none] pn_X7 (Nat.le_of_ble_eq_true rfl) rfl ?_
  refine T_al0 dX7_yearsOf_0 ?_
  refine T_g7 gX7_13 (cell_89 _ _) rfl dX7_yearsOf_1 ?_
  refine T_il1 dX7_yearsOf_4 ?_
  refine T_aldN rfl (show _ < 8 by omega) dX7_yearsOf_5 ?_
  refine T_al0 dX7_yearsOf_6 ?_
  refine T_g7 gX7_25 (cell_89 _ _) rfl dX7_yearsOf_7 ?_
  refine T_bipush (v := nI 40) dX7_yearsOf_10 (by decide +kernel) ?_
  refine T_aldN rfl (show _ < 42 by omega) dX7_yearsOf_12 ?_
  rw [h3, h4, (enc_day l1 l2 l3 l4).1]
  refine T_isub dX7_yearsOf_13 ?_
  refine T_is2 dX7_yearsOf_14 rfl ?_
  refine T_al0 dX7_yearsOf_15 ?_
  refine T_il1 dX7_yearsOf_16 ?_
  refine T_pV1 lX7_169 rfl (by decide) (cell_89 _ _) (m_isWhole _ F G n kd ln x hM hn t ht) (by omega) (Nat.le_of_ble_eq_true rfl) dX7_yearsOf_17 ?_
  have zero : yrM kd ln x t = nI 0 → T DX7_yearsOf d 37 [some (.ref 89), some (.int (nI t)), some (.int (ln.getD t 0 - lDay x))] [] F G (fun v F' G' => v = some (.int (yrM kd ln x t)) ∧ F' = F ∧ G' = G) := by
    intro hz
    refine T_iconst (v := nI 0) dX7_yearsOf_37 rfl ?_
    refine T_iret rfl dX7_yearsOf_38 ?_
    exact ⟨by rw [hz], rfl, rfl⟩
  refine T_beq 37 dX7_yearsOf_20 (by decide) (fun b1 => ?_) (fun b1 => ?_)
  · exact zero (by rw [yrM, if_neg (by rw [b1]; decide)])
  · refine T_al0 dX7_yearsOf_23 ?_
    refine T_g7 gX7_7 (cell_89 _ _) rfl dX7_yearsOf_24 ?_
    refine T_il1 dX7_yearsOf_27 ?_
    refine T_aldN rfl (show _ < 8 by omega) dX7_yearsOf_28 ?_
    refine T_iconst (v := nI 3) dX7_yearsOf_29 rfl ?_
    refine T_icmp_eq 37 dX7_yearsOf_30 (by decide) (fun b2 => ?_) (fun b2 => ?_)
    · rw [h2] at b2
      exact zero (by rw [yrM, if_pos b1, yrsI, if_pos (show endB kd t = true from decide_eq_true b2)])
    · rw [h2] at b2
      have hy : yrM kd ln x t = _ := (if_pos b1).trans (yrs_eq kd ln t (lDay x) (decide_eq_false b2))
      refine T_il2 dX7_yearsOf_33 ?_
      refine T_if_ge 39 dX7_yearsOf_34 (by decide) (fun b3 => ?_) (fun b3 => ?_)
      · rw [if_neg (Int32.not_lt.mpr b3)] at hy
        refine T_al0 dX7_yearsOf_39 ?_
        refine T_g7 gX7_7 (cell_89 _ _) rfl dX7_yearsOf_40 ?_
        refine T_il1 dX7_yearsOf_43 ?_
        refine T_aldN rfl (show _ < 8 by omega) dX7_yearsOf_44 ?_
        refine T_iconst (v := nI 1) dX7_yearsOf_45 rfl ?_
        refine T_icmp_ne 55 dX7_yearsOf_46 (by decide) (fun b4 => ?_) (fun b4 => ?_)
        · rw [h2] at b4
          rw [if_neg b4] at hy
          refine T_il2 dX7_yearsOf_55 ?_
          refine T_iret rfl dX7_yearsOf_56 ?_
          exact ⟨by rw [hy], rfl, rfl⟩
        · rw [h2] at b4
          rw [if_pos b4] at hy
          refine T_iconst (v := nI 2) dX7_yearsOf_49 rfl ?_
          refine T_il2 dX7_yearsOf_50 ?_
          refine T_imul dX7_yearsOf_51 ?_
          refine T_goto 56 dX7_yearsOf_52 (by decide) ?_
          refine T_iret rfl dX7_yearsOf_56 ?_
          exact ⟨by rw [hy], rfl, rfl⟩
      · exact zero (by rw [hy, if_pos (Int32.not_le.mp b3)])
theorem add_0 (x : Int32) : x + nI 0 = x := by rw [nI_0]; exact Int32.add_zero x
theorem m_lossOf (d : Nat) (hd : 2 ≤ d) (F : FT) (G : GT) (n : Nat) (kd ln : List Int32) (x : LoS) (hM : McR n kd ln x F G) (hn : n ≤ 8) (set : Int32) (hs : ∀ t, t < n → hasI set (nI t) = true → hasI (lWhole x) (nI t) = true) : Kp DX7_lossOf d [.ref 89, .int set] F G (some (.int (lossI kd ln n set (lDay x)))) := by
  obtain ⟨h1, h2, h3, h4, l1, l2, l3, l4⟩ := id hM
  refine Kc.ofT [some (.ref 89), some (.int set), none, none] pn_X7 (Nat.le_of_ble_eq_true rfl) rfl ?_
  refine T_iconst (v := nI 0) dX7_lossOf_0 rfl ?_
  refine T_is2 dX7_lossOf_1 rfl ?_
  refine T_iconst (v := nI 0) dX7_lossOf_2 rfl ?_
  refine T_is3 dX7_lossOf_3 rfl ?_
  refine for_up (lossS kd ln set (lDay x)) n (fun k s => T DX7_lossOf d 4 [some (.ref 89), some (.int set), some (.int s), some (.int (nI k))] [] F G _) ?_ n 0 _ (by omega) ?_
  · intro k s hk h
    have no : ¬ (hasI set (nI k) = true ∧ ¬ kd.getD k 0 = nI 2) → T DX7_lossOf d 39 [some (.ref 89), some (.int set), some (.int s), some (.int (nI k))] [.int s] F G (fun v F' G' => v = some (.int (lossI kd ln n set (lDay x))) ∧ F' = F ∧ G' = G) := by
      intro hc
      rw [lossS, if_neg hc] at h
      refine T_iconst (v := nI 0) dX7_lossOf_39 rfl ?_
      refine T_iadd dX7_lossOf_40 ?_
      rw [add_0]
      refine T_is2 dX7_lossOf_41 rfl ?_
      refine T_ii3 dX7_lossOf_42 (by first | exact nI_inc _ | exact nI_dec _ | rfl) rfl ?_
      refine T_goto 4 dX7_lossOf_45 (by decide) ?_
      exact h
    refine T_il3 dX7_lossOf_4 ?_
    refine T_al0 dX7_lossOf_5 ?_
    refine T_g7 gX7_74 (cell_89 _ _) rfl dX7_lossOf_6 ?_
    rw [h1]
    refine T_nge_f 48 dX7_lossOf_9 (by decide) (by omega) (by omega) (by omega) ?_
    refine T_il2 dX7_lossOf_12 ?_
    refine T_il1 dX7_lossOf_13 ?_
    refine T_il3 dX7_lossOf_14 ?_
    refine T_pS2 lX7_124 (m_has _ _ _ _ _) (by omega) (Nat.le_of_ble_eq_true rfl) dX7_lossOf_15 ?_
    refine T_beq 39 dX7_lossOf_18 (by decide) (fun b1 => ?_) (fun b1 => ?_)
    · exact no (fun z => by rw [z.1] at b1; cases b1)
    · refine T_al0 dX7_lossOf_21 ?_
      refine T_g7 gX7_7 (cell_89 _ _) rfl dX7_lossOf_22 ?_
      refine T_il3 dX7_lossOf_25 ?_
      refine T_aldN rfl (show _ < 8 by omega) dX7_lossOf_26 ?_
      refine T_iconst (v := nI 2) dX7_lossOf_27 rfl ?_
      refine T_icmp_eq 39 dX7_lossOf_28 (by decide) (fun b2 => ?_) (fun b2 => ?_)
      · rw [h2] at b2
        exact no (fun z => z.2 b2)
      · rw [h2] at b2
        rw [lossS, if_pos ⟨b1, b2⟩] at h
        refine T_al0 dX7_lossOf_31 ?_
        refine T_il3 dX7_lossOf_32 ?_
        refine T_pV1 lX7_177 rfl (by decide) (cell_89 _ _) (m_yearsOf _ (by omega) F G n kd ln x hM hn k hk) (by omega) (Nat.le_of_ble_eq_true rfl) dX7_lossOf_33 ?_
        refine T_goto 40 dX7_lossOf_36 (by decide) ?_
        rw [yrM, if_pos (hs k hk b1)]
        refine T_iadd dX7_lossOf_40 ?_
        refine T_is2 dX7_lossOf_41 rfl ?_
        refine T_ii3 dX7_lossOf_42 (by first | exact nI_inc _ | exact nI_dec _ | rfl) rfl ?_
        refine T_goto 4 dX7_lossOf_45 (by decide) ?_
        exact h
  · refine T_il3 dX7_lossOf_4 ?_
    refine T_al0 dX7_lossOf_5 ?_
    refine T_g7 gX7_74 (cell_89 _ _) rfl dX7_lossOf_6 ?_
    rw [h1]
    refine T_nge_t 48 dX7_lossOf_9 (by decide) (by omega) (by omega) (by omega) ?_
    refine T_il2 dX7_lossOf_48 ?_
    refine T_iret rfl dX7_lossOf_49 ?_
    exact ⟨rfl, rfl, rfl⟩
theorem has_tb : ∀ m, m < 256 → ∀ k, k < 8 → hasI (nI m) (nI k) = m.testBit k := by decide +kernel
theorem tz_lo : ∀ m, m < 256 → 0 < m → ∀ k, k < 8 → (k < tz8 m → m.testBit k = false) ∧ (k = tz8 m → m.testBit k = true) := by decide +kernel
theorem m_topOf (d : Nat) (hd : 2 ≤ d) (F : FT) (G : GT) (n : Nat) (kd ln : List Int32) (x : LoS) (hM : McR n kd ln x F G) (hn : n ≤ 8) (w : Nat) (hw : lWhole x = nI w) (hw2 : w < 2 ^ n) (ho : okS (lOv x)) (hE : ∀ i, i < 8 → sv ((lOv x).getD (topN (lOv x) (lWhole x) 8 i) 0 &&& lWhole x) = 0) (t : Nat) (ht : t < 8) : Kp DX7_topOf d [.ref 89, .int (nI t)] F G (some (.int (nI (topN (lOv x) (lWhole x) 8 t)))) := by
  obtain ⟨h1, h2, h3, h4, l1, l2, l3, l4⟩ := id hM
  have cW := m_wholes (d - 1) (by omega) F G n kd ln x hM hn w hw hw2
  refine Kc.ofT [some (.ref 89), some (.int (nI t)), none, none] pn_X7 (Nat.le_of_ble_eq_true rfl) rfl ?_
  refine T_il1 dX7_topOf_0 ?_
  refine T_is2 dX7_topOf_1 rfl ?_
  refine T_al0 dX7_topOf_2 ?_
  refine T_g7 gX7_25 (cell_89 _ _) rfl dX7_topOf_3 ?_
  refine T_bipush (v := nI 24) dX7_topOf_6 (by decide +kernel) ?_
  refine T_il1 dX7_topOf_8 ?_
  first | refine T_iaddN dX7_topOf_9 ?_ | refine T_iadd dX7_topOf_9 ?_
  refine T_aldN rfl (show _ < 42 by omega) dX7_topOf_10 ?_
  refine T_al0 dX7_topOf_11 ?_
  refine T_pV0 lX7_180 rfl (by decide) (cell_89 _ _) cW (by omega) (Nat.le_of_ble_eq_true rfl) dX7_topOf_12 ?_
  rw [h4, enc_ov l1 l2 l3 (by omega)]
  refine T_iand dX7_topOf_15 ?_
  refine T_is3 dX7_topOf_16 rfl ?_
  suffices h : ∀ (k i : Nat), i < 8 → sv ((lOv x).getD (topN (lOv x) (lWhole x) k i) 0 &&& lWhole x) = 0 → T DX7_topOf d 17 [some (.ref 89), some (.int (nI t)), some (.int (nI i)), some (.int ((lOv x).getD i 0 &&& lWhole x))] [] F G (fun v F' G' => v = some (.int (nI (topN (lOv x) (lWhole x) k i))) ∧ F' = F ∧ G' = G) from h 8 t ht (hE t ht)
  intro k
  induction k with
  | zero =>
    intro i hi hz
    obtain ⟨m, hm, e⟩ := S8_and (ho i) (lWhole x)
    have hz : sv ((lOv x).getD i 0 &&& lWhole x) = 0 := hz
    rw [e, sv_nI (by omega)] at hz
    subst hz
    rw [e]
    refine T_il3 dX7_topOf_17 ?_
    refine T_if_eq_t 55 dX7_topOf_18 (by decide) rfl ?_
    refine T_il2 dX7_topOf_55 ?_
    refine T_iret rfl dX7_topOf_56 ?_
    exact ⟨rfl, rfl, rfl⟩
  | succ k ih =>
    intro i hi hz
    obtain ⟨m, hm, e⟩ := S8_and (ho i) (lWhole x)
    rw [topN] at hz ⊢
    rw [e, sv_nI (by omega)] at hz ⊢
    rcases Nat.eq_zero_or_pos m with q | q
    · subst q
      rw [if_pos rfl]
      refine T_il3 dX7_topOf_17 ?_
      refine T_if_eq_t 55 dX7_topOf_18 (by decide) rfl ?_
      refine T_il2 dX7_topOf_55 ?_
      refine T_iret rfl dX7_topOf_56 ?_
      exact ⟨rfl, rfl, rfl⟩
    · rw [if_neg (by omega)] at hz ⊢
      have ht8 := tz8_lt m hm q
      refine T_il3 dX7_topOf_17 ?_
      refine T_if_eq_f 55 dX7_topOf_18 (by decide) (nI_ne0 q (by omega)) ?_
      refine T_iconst (v := nI 0) dX7_topOf_21 rfl ?_
      refine T_is2 dX7_topOf_22 rfl ?_
      suffices h : ∀ (f j : Nat), j + f = tz8 m → T DX7_topOf d 23 [some (.ref 89), some (.int (nI t)), some (.int (nI j)), some (.int (nI m))] [] F G (fun v F' G' => v = some (.int (nI (topN (lOv x) (lWhole x) k (tz8 m)))) ∧ F' = F ∧ G' = G) from h (tz8 m) 0 (by omega)
      intro f
      induction f with
      | zero =>
        intro j hj
        have hj : j = tz8 m := by omega
        subst hj
        refine T_il3 dX7_topOf_23 ?_
        refine T_il2 dX7_topOf_24 ?_
        refine T_pS2 lX7_124 (m_has _ _ _ _ _) (by omega) (Nat.le_of_ble_eq_true rfl) dX7_topOf_25 ?_
        refine T_bne_t 37 dX7_topOf_28 (by decide) (by rw [has_tb m hm _ ht8]; exact (tz_lo m hm q _ ht8).2 rfl) ?_
        refine T_al0 dX7_topOf_37 ?_
        refine T_g7 gX7_25 (cell_89 _ _) rfl dX7_topOf_38 ?_
        refine T_bipush (v := nI 24) dX7_topOf_41 (by decide +kernel) ?_
        refine T_il2 dX7_topOf_43 ?_
        first | refine T_iaddN dX7_topOf_44 ?_ | refine T_iadd dX7_topOf_44 ?_
        refine T_aldN rfl (show _ < 42 by omega) dX7_topOf_45 ?_
        refine T_al0 dX7_topOf_46 ?_
        refine T_pV0 lX7_180 rfl (by decide) (cell_89 _ _) cW (by omega) (Nat.le_of_ble_eq_true rfl) dX7_topOf_47 ?_
        rw [h4, enc_ov l1 l2 l3 ht8]
        refine T_iand dX7_topOf_50 ?_
        refine T_is3 dX7_topOf_51 rfl ?_
        refine T_goto 17 dX7_topOf_52 (by decide) ?_
        exact ih (tz8 m) ht8 hz
      | succ f ih2 =>
        intro j hj
        refine T_il3 dX7_topOf_23 ?_
        refine T_il2 dX7_topOf_24 ?_
        refine T_pS2 lX7_124 (m_has _ _ _ _ _) (by omega) (Nat.le_of_ble_eq_true rfl) dX7_topOf_25 ?_
        refine T_bne_f 37 dX7_topOf_28 (by decide) (by rw [has_tb m hm _ (by omega)]; exact (tz_lo m hm q _ (by omega)).1 (by omega)) ?_
        refine T_ii2 dX7_topOf_31 (by first | exact nI_inc _ | exact nI_dec _ | rfl) rfl ?_
        refine T_goto 23 dX7_topOf_34 (by decide) ?_
        exact ih2 (j + 1) (by omega)
