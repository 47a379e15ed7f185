/-! Loom: its state is a row LoS: day, lost, whole, cut, colours, over, knots, cutDays -/
abbrev LoS : Type := Int32 × Int32 × Int32 × Int32 × List Int32 × List Int32 × List Int32 × List Int32
abbrev lDay (x : LoS) : Int32 := x.1
abbrev lLost (x : LoS) : Int32 := x.2.1
abbrev lWhole (x : LoS) : Int32 := x.2.2.1
abbrev lCut (x : LoS) : Int32 := x.2.2.2.1
abbrev lCol (x : LoS) : List Int32 := x.2.2.2.2.1
abbrev lOv (x : LoS) : List Int32 := x.2.2.2.2.2.1
abbrev lKn (x : LoS) : List Int32 := x.2.2.2.2.2.2.1
abbrev lCd (x : LoS) : List Int32 := x.2.2.2.2.2.2.2
def gL (F : FT) (G : GT) (b : Nat) : LoS := (F b 1, F b 2, F b 3, F b 4, G (b + 1), G (b + 2), G (b + 3), G (b + 4))
def pF (F : FT) (b : Nat) (x : LoS) : FT := fun c i => if c = b ∧ i = 1 then x.1 else if c = b ∧ i = 2 then x.2.1 else if c = b ∧ i = 3 then x.2.2.1 else if c = b ∧ i = 4 then x.2.2.2.1 else F c i
def pG (G : GT) (b : Nat) (x : LoS) : GT := fun c => if c = b + 1 then x.2.2.2.2.1 else if c = b + 2 then x.2.2.2.2.2.1 else if c = b + 3 then x.2.2.2.2.2.2.1 else if c = b + 4 then x.2.2.2.2.2.2.2 else G c
theorem pF_1 (F : FT) (b : Nat) (x : LoS) : pF F b x b 1 = x.1 := by simp [pF]
theorem pF_2 (F : FT) (b : Nat) (x : LoS) : pF F b x b 2 = x.2.1 := by simp [pF]
theorem pF_3 (F : FT) (b : Nat) (x : LoS) : pF F b x b 3 = x.2.2.1 := by simp [pF]
theorem pF_4 (F : FT) (b : Nat) (x : LoS) : pF F b x b 4 = x.2.2.2.1 := by simp [pF]
theorem pG_1 (G : GT) (b : Nat) (x : LoS) : pG G b x (b + 1) = x.2.2.2.2.1 := by simp [pG]
theorem pG_2 (G : GT) (b : Nat) (x : LoS) : pG G b x (b + 2) = x.2.2.2.2.2.1 := by simp [pG]
theorem pG_3 (G : GT) (b : Nat) (x : LoS) : pG G b x (b + 3) = x.2.2.2.2.2.2.1 := by simp [pG]
theorem pG_4 (G : GT) (b : Nat) (x : LoS) : pG G b x (b + 4) = x.2.2.2.2.2.2.2 := by simp [pG]
theorem uF_1 (F : FT) (b : Nat) (x : LoS) (v : Int32) : u2 (pF F b x) b 1 v = pF F b (v, x.2) := by
  funext c i; simp only [u2_at, pF]; by_cases h : c = b ∧ i = 1 <;> simp [h]
theorem uF_2 (F : FT) (b : Nat) (x : LoS) (v : Int32) : u2 (pF F b x) b 2 v = pF F b (x.1, v, x.2.2) := by
  funext c i; simp only [u2_at, pF]; by_cases h : c = b ∧ i = 2 <;> simp [h]
theorem uF_3 (F : FT) (b : Nat) (x : LoS) (v : Int32) : u2 (pF F b x) b 3 v = pF F b (x.1, x.2.1, v, x.2.2.2) := by
  funext c i; simp only [u2_at, pF]; by_cases h : c = b ∧ i = 3 <;> simp [h]
theorem uF_4 (F : FT) (b : Nat) (x : LoS) (v : Int32) : u2 (pF F b x) b 4 v = pF F b (x.1, x.2.1, x.2.2.1, v, x.2.2.2.2) := by
  funext c i; simp only [u2_at, pF]; by_cases h : c = b ∧ i = 4 <;> simp [h]
theorem uG_1 (G : GT) (b : Nat) (x : LoS) (l : List Int32) : u1 (pG G b x) (b + 1) l = pG G b (x.1, x.2.1, x.2.2.1, x.2.2.2.1, l, x.2.2.2.2.2) := by
  funext c; simp only [u1_at, pG]; by_cases h : c = b + 1 <;> simp [h]
theorem uG_2 (G : GT) (b : Nat) (x : LoS) (l : List Int32) : u1 (pG G b x) (b + 2) l = pG G b (x.1, x.2.1, x.2.2.1, x.2.2.2.1, x.2.2.2.2.1, l, x.2.2.2.2.2.2) := by
  funext c; simp only [u1_at, pG]; by_cases h : c = b + 2 <;> simp [h]
theorem uG_3 (G : GT) (b : Nat) (x : LoS) (l : List Int32) : u1 (pG G b x) (b + 3) l = pG G b (x.1, x.2.1, x.2.2.1, x.2.2.2.1, x.2.2.2.2.1, x.2.2.2.2.2.1, l, x.2.2.2.2.2.2.2) := by
  funext c; simp only [u1_at, pG]; by_cases h : c = b + 3 <;> simp [h]
theorem uG_4 (G : GT) (b : Nat) (x : LoS) (l : List Int32) : u1 (pG G b x) (b + 4) l = pG G b (x.1, x.2.1, x.2.2.1, x.2.2.2.1, x.2.2.2.2.1, x.2.2.2.2.2.1, x.2.2.2.2.2.2.1, l) := by
  funext c; simp only [u1_at, pG]; by_cases h : c = b + 4 <;> simp [h]
theorem pF_id (F : FT) (G : GT) (b : Nat) : pF F b (gL F G b) = F := by
  funext c i; simp only [pF, gL]
  by_cases h : c = b
  · subst h; by_cases h1 : i = 1 <;> by_cases h2 : i = 2 <;> by_cases h3 : i = 3 <;> by_cases h4 : i = 4 <;> simp_all
  · simp [h]
theorem pG_id (F : FT) (G : GT) (b : Nat) : pG G b (gL F G b) = G := by
  funext c; simp only [pG, gL]
  by_cases h1 : c = b + 1 <;> by_cases h2 : c = b + 2 <;> by_cases h3 : c = b + 3 <;> by_cases h4 : c = b + 4 <;> simp_all
theorem pF_pF (F : FT) (b : Nat) (x y : LoS) : pF (pF F b x) b y = pF F b y := by
  funext c i; simp only [pF]; by_cases h : c = b
  · subst h; by_cases h1 : i = 1 <;> by_cases h2 : i = 2 <;> by_cases h3 : i = 3 <;> by_cases h4 : i = 4 <;> simp_all
  · simp [h]
theorem pG_pG (G : GT) (b : Nat) (x y : LoS) : pG (pG G b x) b y = pG G b y := by
  funext c; simp only [pG]
  by_cases h1 : c = b + 1 <;> by_cases h2 : c = b + 2 <;> by_cases h3 : c = b + 3 <;> by_cases h4 : c = b + 4 <;> simp_all
theorem gL_p (F : FT) (G : GT) (b : Nat) (x : LoS) : gL (pF F b x) (pG G b x) b = x := by
  simp only [gL, pF_1, pF_2, pF_3, pF_4, pG_1, pG_2, pG_3, pG_4]
theorem pF_o (F : FT) {b c : Nat} (x : LoS) (i : Nat) (h : c ≠ b) : pF F b x c i = F c i := by simp [pF, h]
theorem pG_o (G : GT) {b c : Nat} (x : LoS) (h : c < b + 1 ∨ b + 4 < c) : pG G b x c = G c := by
  simp only [pG]; rw [if_neg (by omega), if_neg (by omega), if_neg (by omega), if_neg (by omega)]
theorem isL_ge {b : Nat} (h : isL b = true) : 19 ≤ b := by
  simp only [isL, Bool.or_eq_true, Bool.and_eq_true, beq_iff_eq, decide_eq_true_eq] at h
  omega
theorem pF_t (F : FT) {b : Nat} (hb : isL b = true) (x : LoS) (i : Nat) : pF F b x 3 i = F 3 i := pF_o F x i (by have := isL_ge hb; omega)
theorem pG_t (G : GT) {b : Nat} (hb : isL b = true) (x : LoS) {c : Nat} (hc : c ≤ 19) : pG G b x c = G c := pG_o G x (by have := isL_ge hb; omega)
def S8 (x : Int32) : Prop := ∃ m, m < 256 ∧ x = nI m
def okS (l : List Int32) : Prop := ∀ j, S8 (l.getD j 0)
def sv (x : Int32) : Nat := x.toNatClampNeg
theorem sv_nI {n : Nat} (h : n < 2 ^ 31) : sv (nI n) = n := nI_clamp h
theorem nI_and (a b : Nat) : nI a &&& nI b = nI (a &&& b) := by
  apply Int32.toBitVec_inj.mp
  show (nI a).toBitVec &&& (nI b).toBitVec = (nI (a &&& b)).toBitVec
  apply BitVec.eq_of_getLsbD_eq
  intro i hi
  simp only [nI, Int32.toBitVec_ofNat', BitVec.getLsbD_and, BitVec.getLsbD_ofNat, Nat.testBit_and, hi, decide_true, Bool.true_and]
theorem nI_or (a b : Nat) : nI a ||| nI b = nI (a ||| b) := by
  apply Int32.toBitVec_inj.mp
  show (nI a).toBitVec ||| (nI b).toBitVec = (nI (a ||| b)).toBitVec
  apply BitVec.eq_of_getLsbD_eq
  intro i hi
  simp only [nI, Int32.toBitVec_ofNat', BitVec.getLsbD_or, BitVec.getLsbD_ofNat, Nat.testBit_or, hi, decide_true, Bool.true_and]
theorem nI_xor (a b : Nat) : nI a ^^^ nI b = nI (a ^^^ b) := by
  apply Int32.toBitVec_inj.mp
  show (nI a).toBitVec ^^^ (nI b).toBitVec = (nI (a ^^^ b)).toBitVec
  apply BitVec.eq_of_getLsbD_eq
  intro i hi
  simp only [nI, Int32.toBitVec_ofNat', BitVec.getLsbD_xor, BitVec.getLsbD_ofNat, Nat.testBit_xor, hi, decide_true, Bool.true_and]
theorem nI_any (x : Int32) : x = nI x.toBitVec.toNat := by
  apply Int32.toBitVec_inj.mp
  show x.toBitVec = BitVec.ofNat 32 x.toBitVec.toNat
  simp
theorem S8_and {x : Int32} (h : S8 x) (y : Int32) : S8 (x &&& y) := by
  obtain ⟨m, hm, rfl⟩ := h
  rw [nI_any y, nI_and]
  exact ⟨_, Nat.lt_of_le_of_lt Nat.and_le_left hm, rfl⟩
theorem S8_or {x y : Int32} (h : S8 x) (g : S8 y) : S8 (x ||| y) := by
  obtain ⟨m, hm, rfl⟩ := h
  obtain ⟨k, hk, rfl⟩ := g
  rw [nI_or]
  exact ⟨_, Nat.or_lt_two_pow (n := 8) hm hk, rfl⟩
theorem tz8_lt : ∀ m, m < 256 → 0 < m → tz8 m < 8 := by decide +kernel
def topN (ov : List Int32) (w : Int32) : Nat → Nat → Nat
  | 0, i => i
  | n + 1, i => if sv (ov.getD i 0 &&& w) = 0 then i else topN ov w n (tz8 (sv (ov.getD i 0 &&& w)))
theorem topN_lt {ov : List Int32} (ho : okS ov) (w : Int32) : ∀ n i, i < 8 → topN ov w n i < 8 := by
  intro n
  induction n with
  | zero => intro i hi; exact hi
  | succ n ih =>
    intro i hi
    rw [topN]
    split
    · exact hi
    · rename_i h0
      obtain ⟨m, hm, e⟩ := S8_and (ho i) w
      rw [e, sv_nI (by omega)] at h0 ⊢
      exact ih _ (tz8_lt m hm (by omega))
def fallI (kd ov kn : List Int32) (w : Int32) (i : Nat) : Int32 := if hasI w (nI i) = true then (if endB kd (topN ov w 8 i) = true then nI 0 else spO kn w 8 (bitI (nI (topN ov w 8 i)))) else nI 0
def cdS (set day : Int32) : Nat → List Int32 → List Int32 := fun k l => if hasI set (nI k) = true then l.set k day else l
/-- a cut -/
def cutS (n : Nat) (kd ln : List Int32) (i : Nat) (x : LoS) : LoS := ((fun set => (x.1, x.2.1 + lossI kd ln n set x.1, x.2.2.1 &&& (set ^^^ (-1)), x.2.2.2.1 ||| set, lCol x, lOv x, lKn x, iter (cdS set x.1) 8 0 (lCd x))) : Int32 → LoS) (fallI kd (lOv x) (lKn x) (lWhole x) i)
def ordS (n : Nat) (kd ln oth od : List Int32) : Nat → LoS → LoS := fun o x => if od.getD o 0 = x.1 then cutS n kd ln (sv (oth.getD o 0)) x else x
/-- a day -/
def dayS (n m : Nat) (kd ln oth od : List Int32) (x : LoS) : LoS := ((fun y => (y.1 + nI 1, y.2.1, lastI kd ln n y.2.2.1 (y.1 + nI 1), y.2.2.2)) : LoS → LoS) (iter (ordS n kd ln oth od) m 0 x)
theorem c_isWhole (d : Nat) (hd : 1 ≤ d) (F : FT) (G : GT) (b : Nat) (hb : isL b = true) (i : Int32) : Kp DX1_isWhole d [.ref b, .int i] F G (some (.int (bI (hasI (F b 3) i)))) := by
  refine Kc.ofT [some (.ref b), some (.int i)] pn_X1 (Nat.le_of_ble_eq_true rfl) rfl ?_
  refine T_al0 dX1_isWhole_0 ?_
  refine T_g1 gX1_41 (by first | assumption | decide) (cell_L _ _ (by first | assumption | decide)) rfl dX1_isWhole_1 ?_
  refine T_il1 dX1_isWhole_4 ?_
  refine T_pT2 lX1_56 (c_has _ _ _ _ _) (by omega) (Nat.le_of_ble_eq_true rfl) dX1_isWhole_5 ?_
  refine T_bret rfl dX1_isWhole_8 ?_
  exact ⟨rfl, rfl, rfl⟩
theorem c_fateOf (d : Nat) (hd : 1 ≤ d) (F : FT) (G : GT) (b : Nat) (hb : isL b = true) (i : Int32) : Kp DX1_fateOf d [.ref b, .int i] F G (some (.int (if hasI (F b 3) i = true then nI 0 else if hasI (F b 4) i = true then nI 1 else nI 2))) := by
  refine Kc.ofT [some (.ref b), some (.int i)] pn_X1 (Nat.le_of_ble_eq_true rfl) rfl ?_
  refine T_al0 dX1_fateOf_0 ?_
  refine T_g1 gX1_41 (by first | assumption | decide) (cell_L _ _ (by first | assumption | decide)) rfl dX1_fateOf_1 ?_
  refine T_il1 dX1_fateOf_4 ?_
  refine T_pT2 lX1_56 (c_has _ _ _ _ _) (by omega) (Nat.le_of_ble_eq_true rfl) dX1_fateOf_5 ?_
  refine T_beq 13 dX1_fateOf_8 (by decide) (fun h1 => ?_) (fun h1 => ?_)
  · refine T_al0 dX1_fateOf_13 ?_
    refine T_g1 gX1_44 (by first | assumption | decide) (cell_L _ _ (by first | assumption | decide)) rfl dX1_fateOf_14 ?_
    refine T_il1 dX1_fateOf_17 ?_
    refine T_pT2 lX1_56 (c_has _ _ _ _ _) (by omega) (Nat.le_of_ble_eq_true rfl) dX1_fateOf_18 ?_
    refine T_beq 28 dX1_fateOf_21 (by decide) (fun h2 => ?_) (fun h2 => ?_)
    · refine T_iconst (v := nI 2) dX1_fateOf_28 rfl ?_
      refine T_iret rfl dX1_fateOf_29 ?_
      exact ⟨by simp only [h1, h2, Bool.false_eq_true, if_false], rfl, rfl⟩
    · refine T_iconst (v := nI 1) dX1_fateOf_24 rfl ?_
      refine T_goto 29 dX1_fateOf_25 (by decide) ?_
      refine T_iret rfl dX1_fateOf_29 ?_
      exact ⟨by simp only [h1, h2, Bool.false_eq_true, if_false, if_true], rfl, rfl⟩
  · refine T_iconst (v := nI 0) dX1_fateOf_11 rfl ?_
    refine T_iret rfl dX1_fateOf_12 ?_
    exact ⟨by simp only [h1, if_true], rfl, rfl⟩
theorem c_topOf (d : Nat) (hd : 1 ≤ d) (F : FT) (G : GT) (b : Nat) (hb : isL b = true) (ho : okS (G (b + 2))) (w : Int32) (i : Nat) (hi : i < 8) : Kp DX1_topOf d [.ref b, .int (nI i), .int w] F G (some (.int (nI (topN (G (b + 2)) w 8 i)))) := by
  refine Kc.ofT [some (.ref b), some (.int (nI i)), some (.int w), none, none, none] pn_X1 (Nat.le_of_ble_eq_true rfl) rfl ?_
  refine T_il1 dX1_topOf_0 ?_
  refine T_is3 dX1_topOf_1 rfl ?_
  refine T_iconst (v := nI 0) dX1_topOf_2 rfl ?_
  refine T_is4 dX1_topOf_3 rfl ?_
  suffices h : ∀ (n r i : Nat) (o : Option Value) (o1 : Int32), i < 8 → r + n = 8 → T DX1_topOf d 5 [some (.ref b), some (.int o1), some (.int w), some (.int (nI i)), some (.int (nI r)), o] [] F G (fun v F' G' => v = some (.int (nI (topN (G (b + 2)) w n i))) ∧ F' = F ∧ G' = G) from h 8 0 i none _ hi rfl
  intro n
  induction n with
  | zero =>
    intro r i o o1 hi hr
    refine T_il4 dX1_topOf_5 ?_
    refine T_bipush (v := nI 8) dX1_topOf_7 (by decide +kernel) ?_
    refine T_nge_t 41 dX1_topOf_9 (by decide) (by omega) (by omega) (by omega) ?_
    refine T_il3 dX1_topOf_41 ?_
    refine T_iret rfl dX1_topOf_42 ?_
    exact ⟨rfl, rfl, rfl⟩
  | succ n ih =>
    intro r i o o1 hi hr
    obtain ⟨m, hm, e⟩ := S8_and (ho i) w
    refine T_il4 dX1_topOf_5 ?_
    refine T_bipush (v := nI 8) dX1_topOf_7 (by decide +kernel) ?_
    refine T_nge_f 41 dX1_topOf_9 (by decide) (by omega) (by omega) (by omega) ?_
    refine T_al0 dX1_topOf_12 ?_
    refine T_g1 gX1_15 (by first | assumption | decide) (cell_L _ _ (by first | assumption | decide)) rfl dX1_topOf_13 ?_
    refine T_il3 dX1_topOf_16 ?_
    refine T_aldN (isL_I (by first | assumption | decide)).2.1 (by rw [(gL_L (by first | assumption | decide)).2.1]; omega) dX1_topOf_17 ?_
    refine T_il2 dX1_topOf_18 ?_
    refine T_iand dX1_topOf_19 ?_
    rw [e]
    refine T_is5 dX1_topOf_20 rfl ?_
    refine T_il5 dX1_topOf_22 ?_
    rw [topN, e, sv_nI (by omega)]
    refine T_if_ne 29 dX1_topOf_24 (by decide) (fun h0 => ?_) (fun h0 => ?_)
    · have h1 : 0 < m := by
        rcases Nat.eq_zero_or_pos m with q | q
        · exact absurd (by rw [q]; rfl) h0
        · exact q
      refine T_il5 dX1_topOf_29 ?_
      refine T_pS1 lX1_60 (c_nTZ _ _ _ _ (by assumption) (by assumption)) (by omega) (Nat.le_of_ble_eq_true rfl) dX1_topOf_31 ?_
      refine T_is3 dX1_topOf_34 rfl ?_
      refine T_ii4 dX1_topOf_35 (by first | exact nI_inc _ | exact nI_dec _ | rfl) rfl ?_
      refine T_goto 5 dX1_topOf_38 (by decide) ?_
      rw [if_neg (by omega)]
      exact ih (r + 1) _ _ _ (tz8_lt m hm h1) (by omega)
    · have h1 : m = 0 := (nI_eq (by omega) (by decide)).mp (h0.trans nI_0.symm)
      refine T_il3 dX1_topOf_27 ?_
      refine T_iret rfl dX1_topOf_28 ?_
      exact ⟨by rw [if_pos h1], rfl, rfl⟩
theorem c_fallOf (d : Nat) (hd : 2 ≤ d) (F : FT) (G : GT) (b : Nat) (hb : isL b = true) (ho : okS (G (b + 2))) (w : Int32) (i : Nat) (hi : i < 8) : Kp DX1_fallOf d [.ref b, .int (nI i), .int w] F G (some (.int (fallI (G 4) (G (b + 2)) (G (b + 3)) w i))) := by
  refine Kc.ofT [some (.ref b), some (.int (nI i)), some (.int w), none] pn_X1 (Nat.le_of_ble_eq_true rfl) rfl ?_
  have ht := topN_lt ho w 8 i hi
  have h3 : isI (b + 3) = true := (isL_I hb).2.2.1
  have g3 : gLen (b + 3) = 8 := (gL_L hb).2.2.1
  refine T_il2 dX1_fallOf_0 ?_
  refine T_il1 dX1_fallOf_1 ?_
  refine T_pT2 lX1_56 (c_has _ _ _ _ _) (by omega) (Nat.le_of_ble_eq_true rfl) dX1_fallOf_2 ?_
  refine T_bne 10 dX1_fallOf_5 (by decide) (fun h1 => ?_) (fun h1 => ?_)
  · refine T_al0 dX1_fallOf_10 ?_
    refine T_il1 dX1_fallOf_11 ?_
    refine T_il2 dX1_fallOf_12 ?_
    refine T_pV2 lX1_66 rfl (by first | decide | (have := isL_lt _ (by assumption); omega)) (cell_L _ _ (by first | assumption | decide)) (c_topOf _ (by omega) _ _ _ (by first | assumption | decide) (by assumption) _ _ (by omega)) (by omega) (Nat.le_of_ble_eq_true rfl) dX1_fallOf_13 ?_
    refine T_is3 dX1_fallOf_16 rfl ?_
    refine T_al0 dX1_fallOf_17 ?_
    refine T_g1 gX1_24 (by first | assumption | decide) (cell_L _ _ (by first | assumption | decide)) rfl dX1_fallOf_18 ?_
    refine T_il3 dX1_fallOf_21 ?_
    refine T_pV1 lX1_70 rfl (by omega) (cell_T _ _ (by first | assumption | decide)) (c_isEndless _ _ _ _ (by first | assumption | decide) _ (by omega)) (by omega) (Nat.le_of_ble_eq_true rfl) dX1_fallOf_22 ?_
    refine T_beq 32 dX1_fallOf_25 (by decide) (fun h2 => ?_) (fun h2 => ?_)
    · refine T_al0 dX1_fallOf_32 ?_
      refine T_g1 gX1_18 (by first | assumption | decide) (cell_L _ _ (by first | assumption | decide)) rfl dX1_fallOf_33 ?_
      refine T_il3 dX1_fallOf_36 ?_
      refine T_pT1 lX1_74 (c_bit _ _ _ _) (by omega) (Nat.le_of_ble_eq_true rfl) dX1_fallOf_37 ?_
      refine T_il2 dX1_fallOf_40 ?_
      refine T_pT3 lX1_77 (c_spread _ (by omega) _ _ _ (by assumption) (by assumption) _ _) (by omega) (Nat.le_of_ble_eq_true rfl) dX1_fallOf_41 ?_
      refine T_iret rfl dX1_fallOf_44 ?_
      exact ⟨by rw [fallI, if_pos h1, if_neg (by rw [h2]; decide)], rfl, rfl⟩
    · refine T_iconst (v := nI 0) dX1_fallOf_28 rfl ?_
      refine T_goto 44 dX1_fallOf_29 (by decide) ?_
      refine T_iret rfl dX1_fallOf_44 ?_
      exact ⟨by rw [fallI, if_pos h1, if_pos h2], rfl, rfl⟩
  · refine T_iconst (v := nI 0) dX1_fallOf_8 rfl ?_
    refine T_iret rfl dX1_fallOf_9 ?_
    exact ⟨by rw [fallI, if_neg (by rw [h1]; decide)], rfl, rfl⟩
theorem c_cutAt (d : Nat) (hd : 3 ≤ d) (F : FT) (G : GT) (b : Nat) (hb : isL b = true) (x : LoS) (ho : okS (lOv x)) (n : Nat) (hn : n ≤ 8) (hF : F 3 0 = nI n) (i : Nat) (hi : i < 8) : Kc DX1_cutAt d [.ref b, .int (nI i)] (pF F b x) (pG G b x) (fun v F' G' => v = some (.int (fallI (G 4) (lOv x) (lKn x) (lWhole x) i)) ∧ F' = pF F b (cutS n (G 4) (G 5) i x) ∧ G' = pG G b (cutS n (G 4) (G 5) i x)) := by
  refine Kc.ofT [some (.ref b), some (.int (nI i)), none, none] pn_X1 (Nat.le_of_ble_eq_true rfl) rfl ?_
  have ho' : okS (pG G b x (b + 2)) := by rw [pG_2]; exact ho
  have hF' : ∀ y : LoS, pF F b y 3 0 = nI n := fun y => by rw [pF_t F hb]; exact hF
  have g4 : ∀ y : LoS, pG G b y (3 + 1) = G 4 := fun y => pG_t G hb y (by decide)
  have g4' : ∀ y : LoS, pG G b y 4 = G 4 := fun y => pG_t G hb y (by decide)
  have g5 : ∀ y : LoS, pG G b y (3 + 2) = G 5 := fun y => pG_t G hb y (by decide)
  have hF'' := hF' x
  refine T_al0 dX1_cutAt_0 ?_
  refine T_il1 dX1_cutAt_1 ?_
  refine T_al0 dX1_cutAt_2 ?_
  refine T_g1 gX1_41 (by first | assumption | decide) (cell_L _ _ (by first | assumption | decide)) rfl dX1_cutAt_3 ?_
  rw [pF_3]
  refine T_pV2 lX1_81 rfl (by first | decide | (have := isL_lt _ (by assumption); omega)) (cell_L _ _ (by first | assumption | decide)) (c_fallOf _ (by omega) _ _ _ (by first | assumption | decide) (by assumption) _ _ (by omega)) (by omega) (Nat.le_of_ble_eq_true rfl) dX1_cutAt_6 ?_
  rw [g4', pG_2, pG_3]
  generalize hset : fallI (G 4) (lOv x) (lKn x) (lWhole x) i = set
  refine T_is2 dX1_cutAt_9 rfl ?_
  refine T_al0 dX1_cutAt_10 ?_
  refine T_dup dX1_cutAt_11 rfl ?_
  refine T_g1 gX1_32 (by first | assumption | decide) (cell_L _ _ (by first | assumption | decide)) rfl dX1_cutAt_12 ?_
  refine T_al0 dX1_cutAt_15 ?_
  refine T_g1 gX1_24 (by first | assumption | decide) (cell_L _ _ (by first | assumption | decide)) rfl dX1_cutAt_16 ?_
  refine T_il2 dX1_cutAt_19 ?_
  refine T_al0 dX1_cutAt_20 ?_
  refine T_g1 gX1_28 (by first | assumption | decide) (cell_L _ _ (by first | assumption | decide)) rfl dX1_cutAt_21 ?_
  refine T_pV2 lX1_84 rfl (by omega) (cell_T _ _ (by first | assumption | decide)) (c_lossOf _ _ _ _ (by first | assumption | decide) (by omega) _ (by assumption) (by assumption) _ _) (by omega) (Nat.le_of_ble_eq_true rfl) dX1_cutAt_24 ?_
  rw [g4, g5, pF_1, pF_2]
  refine T_iadd dX1_cutAt_27 ?_
  refine T_put1_2 pX1_32 (by first | assumption | decide) dX1_cutAt_28 ?_
  rw [uF_2]
  refine T_al0 dX1_cutAt_31 ?_
  refine T_dup dX1_cutAt_32 rfl ?_
  refine T_g1 gX1_41 (by first | assumption | decide) (cell_L _ _ (by first | assumption | decide)) rfl dX1_cutAt_33 ?_
  rw [pF_3]
  refine T_il2 dX1_cutAt_36 ?_
  refine T_iconst (v := -1) dX1_cutAt_37 rfl ?_
  refine T_ixor dX1_cutAt_38 ?_
  refine T_iand dX1_cutAt_39 ?_
  refine T_put1_3 pX1_41 (by first | assumption | decide) dX1_cutAt_40 ?_
  rw [uF_3]
  refine T_al0 dX1_cutAt_43 ?_
  refine T_dup dX1_cutAt_44 rfl ?_
  refine T_g1 gX1_44 (by first | assumption | decide) (cell_L _ _ (by first | assumption | decide)) rfl dX1_cutAt_45 ?_
  rw [pF_4]
  refine T_il2 dX1_cutAt_48 ?_
  refine T_ior dX1_cutAt_49 ?_
  refine T_put1_4 pX1_44 (by first | assumption | decide) dX1_cutAt_50 ?_
  rw [uF_4]
  refine T_iconst (v := nI 0) dX1_cutAt_53 rfl ?_
  refine T_is3 dX1_cutAt_54 rfl ?_
  refine for_up (cdS set x.1) 8 (fun k l => T DX1_cutAt d 55 [some (.ref b), some (.int (nI i)), some (.int set), some (.int (nI k))] [] (pF F b (x.1, x.2.1 + lossI (G 4) (G 5) n set x.1, x.2.2.1 &&& (set ^^^ (-1)), x.2.2.2.1 ||| set, x.2.2.2.2)) (pG G b (x.1, x.2.1, x.2.2.1, x.2.2.2.1, lCol x, lOv x, lKn x, l)) _) ?_ 8 0 (lCd x) rfl ?_
  · intro k l hk h
    refine T_il3 dX1_cutAt_55 ?_
    refine T_bipush (v := nI 8) dX1_cutAt_56 (by decide +kernel) ?_
    refine T_nge_f 85 dX1_cutAt_58 (by decide) (by omega) (by omega) (by omega) ?_
    refine T_il2 dX1_cutAt_61 ?_
    refine T_il3 dX1_cutAt_62 ?_
    refine T_pT2 lX1_56 (c_has _ _ _ _ _) (by omega) (Nat.le_of_ble_eq_true rfl) dX1_cutAt_63 ?_
    refine T_beq 79 dX1_cutAt_66 (by decide) (fun hq => ?_) (fun hq => ?_)
    · rw [cdS, if_neg (by rw [hq]; decide)] at h
      refine T_ii3 dX1_cutAt_79 (by first | exact nI_inc _ | exact nI_dec _ | rfl) rfl ?_
      refine T_goto 55 dX1_cutAt_82 (by decide) ?_
      exact h
    · rw [cdS, if_pos hq] at h
      refine T_al0 dX1_cutAt_69 ?_
      refine T_g1 gX1_21 (by first | assumption | decide) (cell_L _ _ (by first | assumption | decide)) rfl dX1_cutAt_70 ?_
      refine T_il3 dX1_cutAt_73 ?_
      refine T_al0 dX1_cutAt_74 ?_
      refine T_g1 gX1_28 (by first | assumption | decide) (cell_L _ _ (by first | assumption | decide)) rfl dX1_cutAt_75 ?_
      rw [pF_1]
      refine T_astN (isL_I (by first | assumption | decide)).2.2.2 (by rw [(gL_L (by first | assumption | decide)).2.2.2]; omega) dX1_cutAt_78 ?_
      rw [uG_4, pG_4]
      refine T_ii3 dX1_cutAt_79 (by first | exact nI_inc _ | exact nI_dec _ | rfl) rfl ?_
      refine T_goto 55 dX1_cutAt_82 (by decide) ?_
      exact h
  · refine T_il3 dX1_cutAt_55 ?_
    refine T_bipush (v := nI 8) dX1_cutAt_56 (by decide +kernel) ?_
    refine T_nge_t 85 dX1_cutAt_58 (by decide) (by omega) (by omega) (by omega) ?_
    refine T_il2 dX1_cutAt_85 ?_
    refine T_iret rfl dX1_cutAt_86 ?_
    refine ⟨rfl, ?_, ?_⟩
    · rw [cutS, hset]; rfl
    · rw [cutS, hset]; rfl
