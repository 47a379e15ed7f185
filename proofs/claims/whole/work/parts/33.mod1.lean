/-! THE REFERENCE -/
theorem wide_le (a b : Int32) : a.toInt64 ≤ b.toInt64 ↔ a ≤ b := by rw [Int64.le_iff_toInt_le, Int32.le_iff_toInt_le, Int32.toInt_toInt64, Int32.toInt_toInt64]
def inL (v lo hi : Int64) : Bool := decide (lo ≤ v ∧ v ≤ hi)
theorem in_I (x lo hi : Int32) : inL x.toInt64 lo.toInt64 hi.toInt64 = decide (lo ≤ x ∧ x ≤ hi) := by
  unfold inL
  rw [decide_eq_decide, wide_le, wide_le]
theorem m_in (d : Nat) (F : FT) (G : GT) (v lo hi : Int64) : Kp DX7_in d [.long v, .long lo, .long hi] F G (some (.int (bI (inL v lo hi)))) := by
  refine Kc.ofT [some (.long v), none, some (.long lo), none, some (.long hi), none] pn_X7 (Nat.le_of_ble_eq_true rfl) rfl ?_
  refine T_ll0 dX7_in_0 ?_
  refine T_ll2 dX7_in_1 ?_
  refine T_lcmp dX7_in_2 ?_
  refine T_if_lt 17 dX7_in_3 (by decide) (fun h1 => ?_) (fun h1 => ?_)
  · refine T_iconst (v := nI 0) dX7_in_17 rfl ?_
    refine T_bret0 rfl dX7_in_18 ?_
    exact ⟨by rw [inL, decide_eq_false (fun z => absurd ((lg_cmp_lt v lo).mp h1) (Int64.not_lt.mpr z.1))], rfl, rfl⟩
  · refine T_ll0 dX7_in_6 ?_
    refine T_ll4 dX7_in_7 ?_
    refine T_lcmp dX7_in_9 ?_
    refine T_if_gt 17 dX7_in_10 (by decide) (fun h2 => ?_) (fun h2 => ?_)
    · refine T_iconst (v := nI 0) dX7_in_17 rfl ?_
      refine T_bret0 rfl dX7_in_18 ?_
      exact ⟨by rw [inL, decide_eq_false (fun z => absurd ((lg_cmp_gt v hi).mp h2) (Int64.not_lt.mpr z.2))], rfl, rfl⟩
    · refine T_iconst (v := nI 1) dX7_in_13 rfl ?_
      refine T_goto 18 dX7_in_14 (by decide) ?_
      refine T_bret1 rfl dX7_in_18 ?_
      exact ⟨by rw [inL, decide_eq_true ⟨Int64.not_lt.mp (fun z => h1 ((lg_cmp_lt v lo).mpr z)), Int64.not_lt.mp (fun z => h2 ((lg_cmp_gt v hi).mpr z))⟩], rfl, rfl⟩
theorem bit01 (x : Int32) : x &&& nI 1 = 0 ∨ x &&& nI 1 = nI 1 := by
  obtain ⟨j, hj, e⟩ := pk_andE x (m := nI 1) 1 (by decide +kernel)
  have : j = 0 ∨ j = 1 := by omega
  rcases this with rfl | rfl
  · exact Or.inl (e.trans nI_0)
  · exact Or.inr e
theorem m_has (d : Nat) (F : FT) (G : GT) (x y : Int32) : Kp DX7_has d [.int x, .int y] F G (some (.int (bI (hasI x y)))) := by
  refine Kc.ofT [some (.int x), some (.int y)] pn_X7 (Nat.le_of_ble_eq_true rfl) rfl ?_
  refine T_il0 dX7_has_0 ?_
  refine T_il1 dX7_has_1 ?_
  refine T_ishr dX7_has_2 ?_
  refine T_iconst (v := nI 1) dX7_has_3 rfl ?_
  refine T_iand dX7_has_4 ?_
  refine T_iconst (v := nI 1) dX7_has_5 rfl ?_
  refine T_icmp_ne 13 dX7_has_6 (by decide) (fun h => ?_) (fun h => ?_)
  · refine T_iconst (v := nI 0) dX7_has_13 rfl ?_
    refine T_bret0 rfl dX7_has_14 ?_
    have h0 := (bit01 (x >>> (y &&& 31))).resolve_right h
    exact ⟨by rw [show hasI x y = false by simp [hasI, h0]], rfl, rfl⟩
  · refine T_iconst (v := nI 1) dX7_has_9 rfl ?_
    refine T_goto 14 dX7_has_10 (by decide) ?_
    refine T_bret1 rfl dX7_has_14 ?_
    have h0 : ¬ (x >>> (y &&& 31)) &&& nI 1 = 0 := by rw [h]; decide
    exact ⟨by rw [show hasI x y = true by simp [hasI, h0]], rfl, rfl⟩
theorem pop_dec : ∀ m, m < 256 → 0 < m → nI m &&& (nI m - nI 1) = nI (m &&& (m - 1)) ∧ pop8 (m &&& (m - 1)) + 1 = pop8 m ∧ m &&& (m - 1) < m := by decide +kernel
theorem m_ones (d : Nat) (F : FT) (G : GT) (m : Nat) (hm : m < 256) : Kp DX7_ones d [.int (nI m)] F G (some (.int (nI (pop8 m)))) := by
  refine Kc.ofT [some (.int (nI m)), none, none] pn_X7 (Nat.le_of_ble_eq_true rfl) rfl ?_
  refine T_iconst (v := nI 0) dX7_ones_0 rfl ?_
  refine T_is1 dX7_ones_1 rfl ?_
  refine T_il0 dX7_ones_2 ?_
  refine T_is2 dX7_ones_3 rfl ?_
  suffices h : ∀ (n m' c : Nat), m' ≤ n → m' < 256 → T DX7_ones d 4 [some (.int (nI m)), some (.int (nI c)), some (.int (nI m'))] [] F G (fun v F' G' => v = some (.int (nI (c + pop8 m'))) ∧ F' = F ∧ G' = G) by
    have h := h m m 0 (by omega) hm
    rw [Nat.zero_add] at h
    exact h
  intro n
  induction n with
  | zero =>
    intro m' c h1 h2
    have : m' = 0 := by omega
    subst this
    refine T_il2 dX7_ones_4 ?_
    refine T_if_eq_t 20 dX7_ones_5 (by decide) rfl ?_
    refine T_il1 dX7_ones_20 ?_
    refine T_iret rfl dX7_ones_21 ?_
    exact ⟨rfl, rfl, rfl⟩
  | succ n ih =>
    intro m' c h1 h2
    rcases Nat.eq_zero_or_pos m' with h0 | h0
    · subst h0
      refine T_il2 dX7_ones_4 ?_
      refine T_if_eq_t 20 dX7_ones_5 (by decide) rfl ?_
      refine T_il1 dX7_ones_20 ?_
      refine T_iret rfl dX7_ones_21 ?_
      exact ⟨rfl, rfl, rfl⟩
    · obtain ⟨p1, p2, p3⟩ := pop_dec m' h2 h0
      refine T_il2 dX7_ones_4 ?_
      refine T_if_eq_f 20 dX7_ones_5 (by decide) (nI_ne0 h0 (by omega)) ?_
      refine T_ii1 dX7_ones_8 (by first | exact nI_inc _ | exact nI_dec _ | rfl) rfl ?_
      refine T_il2 dX7_ones_11 ?_
      refine T_il2 dX7_ones_12 ?_
      refine T_iconst (v := nI 1) dX7_ones_13 rfl ?_
      refine T_isub dX7_ones_14 ?_
      refine T_iand dX7_ones_15 ?_
      rw [p1]
      refine T_is2 dX7_ones_16 rfl ?_
      refine T_goto 4 dX7_ones_17 (by decide) ?_
      have h := ih (m' &&& (m' - 1)) (c + 1) (by omega) (by omega)
      rw [show c + 1 + pop8 (m' &&& (m' - 1)) = c + pop8 m' by omega] at h
      exact h
theorem in_kn {n : Nat} (hn : n ≤ 8) (x : Int32) : inL x.toInt64 0 (nI n - nI 1).toInt64 = knB n x := by
  rw [show (0 : Int64) = (0 : Int32).toInt64 by decide +kernel, in_I, knB, decide_eq_decide]
  constructor
  · intro ⟨h1, h2⟩
    refine ⟨Int32.not_lt.mpr h1, ?_⟩
    rcases Nat.eq_zero_or_pos n with q | q
    · subst q
      exact absurd (Int32.le_trans h1 h2) (by decide)
    · rw [pk_sub q] at h2
      exact Int32.lt_of_le_of_lt h2 (nI_lt (by omega) (by omega))
  · intro ⟨h1, h2⟩
    obtain ⟨j, hj, rfl⟩ := nI_of h1
    have hjn := (nI_ltI hj (by omega)).mp h2
    refine ⟨nI_pos' hj, ?_⟩
    rw [pk_sub (by omega)]
    exact nI_le (by omega) (by omega)
theorem m_isThread (d : Nat) (hd : 1 ≤ d) (F : FT) (G : GT) (n : Nat) (hF : F 89 2 = nI n) (hn : n ≤ 8) (x : Int32) : Kp DX7_isThread d [.ref 89, .int x] F G (some (.int (bI (knB n x)))) := by
  refine Kc.ofT [some (.ref 89), some (.int x)] pn_X7 (Nat.le_of_ble_eq_true rfl) rfl ?_
  refine T_il1 dX7_isThread_0 ?_
  refine T_i2l dX7_isThread_1 ?_
  refine T_lconst (v := 0) dX7_isThread_2 (by decide +kernel) ?_
  refine T_al0 dX7_isThread_3 ?_
  refine T_g7 gX7_74 (cell_89 _ _) rfl dX7_isThread_4 ?_
  rw [hF]
  refine T_iconst (v := nI 1) dX7_isThread_7 rfl ?_
  refine T_isub dX7_isThread_8 ?_
  refine T_i2l dX7_isThread_9 ?_
  refine T_pS3 lX7_78 (m_in _ _ _ _ _ _) (by omega) (Nat.le_of_ble_eq_true rfl) dX7_isThread_10 ?_
  rw [in_kn hn]
  refine T_bret rfl dX7_isThread_13 ?_
  exact ⟨rfl, rfl, rfl⟩
theorem m_letterAt (d : Nat) (F : FT) (G : GT) (n k : Nat) (hF : F 89 9 = nI n) (hn : n ≤ 160) (hk : k ≤ n) : Kp DX7_letterAt d [.ref 89, .int (nI k)] F G (some (.int (if k < n then (G 96).getD k 0 else nI 0))) := by
  refine Kc.ofT [some (.ref 89), some (.int (nI k))] pn_X7 (Nat.le_of_ble_eq_true rfl) rfl ?_
  refine T_il1 dX7_letterAt_0 ?_
  refine T_al0 dX7_letterAt_1 ?_
  refine T_g7 gX7_84 (cell_89 _ _) rfl dX7_letterAt_2 ?_
  rw [hF]
  refine T_nge 17 dX7_letterAt_5 (by decide) (by omega) (by omega) (fun h1 => ?_) (fun h1 => ?_)
  · refine T_iconst (v := nI 0) dX7_letterAt_17 rfl ?_
    refine T_iret rfl dX7_letterAt_18 ?_
    exact ⟨by rw [if_neg (by omega)], rfl, rfl⟩
  · refine T_al0 dX7_letterAt_8 ?_
    refine T_g7 gX7_28 (cell_89 _ _) rfl dX7_letterAt_9 ?_
    refine T_il1 dX7_letterAt_12 ?_
    refine T_aldN rfl (show _ < 160 by omega) dX7_letterAt_13 ?_
    refine T_goto 18 dX7_letterAt_14 (by decide) ?_
    refine T_iret rfl dX7_letterAt_18 ?_
    exact ⟨by rw [if_pos h1], rfl, rfl⟩
/-- how a thread is; the reference's row of 42 -/
def howI (n : Nat) (x : LoS) (i : Nat) : Int32 := if i < n then (if hasI (lWhole x) (nI i) = true then 0 else if hasI (lCut x) (nI i) = true then 1 else 2) else 0
def enc (n : Nat) (x : LoS) : List Int32 := lCol x ++ ((List.range 8).map (howI n x) ++ (lCd x ++ (lOv x ++ (lKn x ++ [lDay x, lLost x]))))
/-- the reference's rows that a loom x is read from -/
def McR (n : Nat) (kd ln : List Int32) (x : LoS) (F : FT) (G : GT) : Prop := F 89 2 = nI n ∧ G 90 = kd ∧ G 91 = ln ∧ G 95 = enc n x ∧ (lCol x).length = 8 ∧ (lCd x).length = 8 ∧ (lOv x).length = 8 ∧ (lKn x).length = 8
theorem getD_app {l m : List Int32} {k : Nat} : (l ++ m).getD (l.length + k) 0 = m.getD k 0 := by
  rw [List.getD_eq_getElem?_getD, List.getElem?_append_right (by omega), Nat.add_sub_cancel_left, ← List.getD_eq_getElem?_getD]
theorem getD_apl {l m : List Int32} {k : Nat} (h : k < l.length) : (l ++ m).getD k 0 = l.getD k 0 := by
  rw [List.getD_eq_getElem?_getD, List.getElem?_append_left h, ← List.getD_eq_getElem?_getD]
theorem enc_col {n : Nat} {x : LoS} (h : (lCol x).length = 8) {i : Nat} (hi : i < 8) : (enc n x).getD (0 + i) 0 = (lCol x).getD i 0 := by
  rw [enc, Nat.zero_add, getD_apl (by omega)]
theorem enc_how {n : Nat} {x : LoS} (h : (lCol x).length = 8) {i : Nat} (hi : i < 8) : (enc n x).getD (8 + i) 0 = howI n x i := by
  rw [enc, show 8 + i = (lCol x).length + i by omega, getD_app, getD_apl (by simpa using hi), List.getD_eq_getElem?_getD, List.getElem?_map, List.getElem?_range hi]; rfl
theorem enc_cd {n : Nat} {x : LoS} (h : (lCol x).length = 8) (h2 : (lCd x).length = 8) {i : Nat} (hi : i < 8) : (enc n x).getD (16 + i) 0 = (lCd x).getD i 0 := by
  rw [enc, show 16 + i = (lCol x).length + (((List.range 8).map (howI n x)).length + i) by simp; omega, getD_app, getD_app, getD_apl (by omega)]
theorem enc_ov {n : Nat} {x : LoS} (h : (lCol x).length = 8) (h2 : (lCd x).length = 8) (h3 : (lOv x).length = 8) {i : Nat} (hi : i < 8) : (enc n x).getD (24 + i) 0 = (lOv x).getD i 0 := by
  rw [enc, show 24 + i = (lCol x).length + (((List.range 8).map (howI n x)).length + ((lCd x).length + i)) by simp; omega, getD_app, getD_app, getD_app, getD_apl (by omega)]
theorem enc_kn {n : Nat} {x : LoS} (h : (lCol x).length = 8) (h2 : (lCd x).length = 8) (h3 : (lOv x).length = 8) (h4 : (lKn x).length = 8) {i : Nat} (hi : i < 8) : (enc n x).getD (32 + i) 0 = (lKn x).getD i 0 := by
  rw [enc, show 32 + i = (lCol x).length + (((List.range 8).map (howI n x)).length + ((lCd x).length + ((lOv x).length + i))) by simp; omega, getD_app, getD_app, getD_app, getD_app, getD_apl (by omega)]
theorem enc_day {n : Nat} {x : LoS} (h : (lCol x).length = 8) (h2 : (lCd x).length = 8) (h3 : (lOv x).length = 8) (h4 : (lKn x).length = 8) : (enc n x).getD 40 0 = lDay x ∧ (enc n x).getD 41 0 = lLost x := by
  constructor
  · rw [enc, show 40 = (lCol x).length + (((List.range 8).map (howI n x)).length + ((lCd x).length + ((lOv x).length + ((lKn x).length + 0)))) by simp; omega, getD_app, getD_app, getD_app, getD_app, getD_app]; rfl
  · rw [enc, show 41 = (lCol x).length + (((List.range 8).map (howI n x)).length + ((lCd x).length + ((lOv x).length + ((lKn x).length + 1)))) by simp; omega, getD_app, getD_app, getD_app, getD_app, getD_app]; rfl
