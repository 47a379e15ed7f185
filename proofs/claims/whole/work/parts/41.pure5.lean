theorem nI_m1 : (-1 : Int32) = nI (2 ^ 32 - 1) := by decide +kernel
theorem nI_dif (w f : Nat) : nI w &&& (nI f ^^^ (-1)) = nI (w &&& (f ^^^ (2 ^ 32 - 1))) := by rw [nI_m1, nI_xor, nI_and]
theorem dif_tb (w f : Nat) {i : Nat} (h : i < 8) : (w &&& (f ^^^ (2 ^ 32 - 1))).testBit i = (w.testBit i && !(f.testBit i)) := by
  rw [Nat.testBit_and, Nat.testBit_xor, Nat.testBit_two_pow_sub_one, show decide (i < 32) = true from decide_eq_true (by omega), Bool.xor_true]
theorem hasI_dif {w f : Nat} (hw : w < 256) {i : Nat} (h : i < 8) : hasI (nI w &&& (nI f ^^^ (-1))) (nI i) = (w.testBit i && !(f.testBit i)) := by
  rw [nI_dif, hasI_tb _ (Nat.lt_of_le_of_lt Nat.and_le_left hw) i h, dif_tb w f h]
theorem hasI_or {c f : Nat} (hc : c < 256) (hf : f < 256) {i : Nat} (h : i < 8) : hasI (nI c ||| nI f) (nI i) = (c.testBit i || f.testBit i) := by
  rw [nI_or, hasI_tb _ (Nat.or_lt_two_pow (n := 8) hc hf) i h, Nat.testBit_or]
theorem enc_cut {n : Nat} (hn : n ≤ 8) {kd ln : List Int32} {x : LoS} (h : (lCol x).length = 8) (h2 : (lCd x).length = 8) (h3 : (lOv x).length = 8) (h4 : (lKn x).length = 8) (ho : okS (lOv x)) (hk : okS (lKn x)) {w : Nat} (hw : lWhole x = nI w) (hw2 : w < 2 ^ n) {c : Nat} (hc : lCut x = nI c) (hc2 : c < 256) {t : Nat} (ht : t < n) : iter (mcQ (fallI kd (lOv x) (lKn x) (lWhole x) t) (lDay x)) n 0 ((enc n x).set 41 (lLost x + lossI kd ln n (fallI kd (lOv x) (lKn x) (lWhole x) t) (lDay x))) = enc n (cutS n kd ln t x) := by
  have hw3 : w < 256 := Nat.lt_of_lt_of_le hw2 (Nat.pow_le_pow_right (n := 2) (by decide) hn)
  obtain ⟨f, f1, f2, f3⟩ := fall_sub (kd := kd) ho hk hw3 (i := t) (by omega)
  have hout : ∀ i, i < 8 → ¬ i < n → f.testBit i = false := fun i _ hi => by
    cases hq : f.testBit i with
    | false => rfl
    | true =>
      have := f3 i hq
      have h5 : 2 ^ n ≤ 2 ^ i := Nat.pow_le_pow_right (by decide) (by omega)
      rw [Nat.testBit_lt_two_pow (Nat.lt_of_lt_of_le hw2 h5)] at this
      cases this
  have hcs : cutS n kd ln t x = (lDay x, lLost x + lossI kd ln n (nI f) (lDay x), lWhole x &&& (nI f ^^^ (-1)), lCut x ||| nI f, lCol x, lOv x, lKn x, iter (cdS (nI f) (lDay x)) 8 0 (lCd x)) := by
    rw [cutS]
    rw [hw, f2]
    rw [← hw]
  rw [hcs, hw, f2]
  have hE := enc_len (n := n) h h2 h3 h4
  have hL : ((enc n x).set 41 (lLost x + lossI kd ln n (nI f) (lDay x))).length = 42 := by rw [List.length_set, hE]
  refine enc_of h ((cdS_len _ _ 8 0 _).trans h2) h3 h4 ((mcQ_len _ _ n 0 _).trans hL) (fun i hi => ?_) (fun i hi => ?_) (fun i hi => ?_) (fun i hi => ?_) (fun i hi => ?_) ?_ ?_
  · rw [mcQ_o _ _ n 0 _ _ (by omega) (by omega), getD_set_ne (by omega), enc_col h hi]
  · rw [mcQ_8 _ _ n 0 _ i (by omega) hL (by omega) hi, getD_set_ne (by omega), enc_how h hi, hasI_tb f f1 i hi]
    show _ = if i < n then (if hasI (nI w &&& (nI f ^^^ (-1))) (nI i) = true then 0 else if hasI (lCut x ||| nI f) (nI i) = true then 1 else 2) else 0
    rw [howI, hw, hc, hasI_dif hw3 hi, hasI_or hc2 f1 hi, hasI_tb w hw3 i hi, hasI_tb c hc2 i hi, Nat.zero_add]
    by_cases h7 : i < n
    · cases hq : f.testBit i with
      | true => simp [h7]
      | false => simp
    · rw [if_neg h7, if_neg h7, if_neg (fun q => h7 q.1)]
  · rw [mcQ_16 _ _ n 0 _ i (by omega) hL (by omega) hi, getD_set_ne (by omega), enc_cd h h2 hi]
    show _ = (iter (cdS (nI f) (lDay x)) 8 0 (lCd x)).getD i 0
    rw [cdS_at _ _ 8 0 _ i rfl h2 (by omega) hi, hasI_tb f f1 i hi, Nat.zero_add]
    by_cases h7 : i < n
    · simp [h7]
    · rw [hout i hi h7, if_neg (fun q => h7 q.1), if_neg (by decide)]
  · rw [mcQ_o _ _ n 0 _ _ (by omega) (by omega), getD_set_ne (by omega), enc_ov h h2 h3 hi]
  · rw [mcQ_o _ _ n 0 _ _ (by omega) (by omega), getD_set_ne (by omega), enc_kn h h2 h3 h4 hi]
  · rw [mcQ_o _ _ n 0 _ _ (by omega) (by omega), getD_set_ne (by omega), (enc_day h h2 h3 h4).1]
  · rw [mcQ_o _ _ n 0 _ _ (by omega) (by omega), getD_set_eq (by omega)]
