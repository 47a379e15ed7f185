/-! PURE: what falls is whole; the row behind a cut -/
theorem pop_0 : ∀ m, m < 256 → m ≠ 0 → 0 < pop8 m := by decide +kernel
theorem and_sb (a b : Nat) : Sb (a &&& b) b := fun i h => by
  rw [Nat.testBit_and, Bool.and_eq_true] at h
  exact h.2
theorem cN_sb {l : List Int32} (h : okS l) {w : Nat} (hw : w < 256) (k : Nat) : Sb (cN l (nI w) k) w := by
  obtain ⟨m, hm, e⟩ := h k
  rw [cN, e, nI_and, sv_nI (by have := Nat.and_le_left (n := m) (m := w); omega)]
  exact and_sb _ _
theorem topN_in {ov : List Int32} (ho : okS ov) {w : Nat} (hw : w < 256) : ∀ n i, i < 8 → w.testBit i = true → w.testBit (topN ov (nI w) n i) = true := by
  intro n
  induction n with
  | zero => intro i _ h; exact h
  | succ n ih =>
    intro i hi h
    rw [topN]
    split
    · exact h
    · rename_i hne
      have hc := (cN_ok ho (nI w) i).2
      have hlt := tz8_lt _ hc (by rw [cN]; omega)
      exact ih _ hlt (cN_sb ho hw i _ ((tz_lo _ hc (by rw [cN]; omega) _ hlt).2 rfl))
theorem pow_sb : ∀ k, k < 8 → ∀ w, w < 256 → w.testBit k = true → ∀ i, i < 8 → (2 ^ k).testBit i = true → w.testBit i = true := by
  intro k hk w hw h i hi h2
  rw [Nat.testBit_two_pow] at h2
  rw [← of_decide_eq_true h2]
  exact h
theorem fall_sub {kd ov kn : List Int32} (ho : okS ov) (hk : okS kn) {w : Nat} (hw : w < 256) {i : Nat} (hi : i < 8) : ∃ f, f < 256 ∧ fallI kd ov kn (nI w) i = nI f ∧ Sb f w := by
  rw [fallI, hasI_tb w hw i hi]
  split
  · rename_i hb
    split
    · exact ⟨0, by decide, rfl, fun j h => by rw [Nat.zero_testBit] at h; cases h⟩
    · have htl := topN_lt ho (nI w) 8 i hi
      have hin := topN_in ho hw 8 i hi hb
      have h2 := (S8_bit _ htl).2
      rw [(S8_bit _ htl).1, spO_N hk _ 8 _ h2]
      obtain ⟨r1, r2, r3, r4⟩ := spN_ok (fun k => (cN_ok hk (nI w) k).2) 8 _ h2 (by have := pop_bit _ htl; omega)
      refine ⟨_, r1, rfl, r4 w (fun q _ _ => cN_sb hk hw q) (fun j h => ?_)⟩
      rw [Nat.testBit_two_pow] at h
      rw [← of_decide_eq_true h]
      exact hin
  · exact ⟨0, by decide, rfl, fun j h => by rw [Nat.zero_testBit] at h; cases h⟩
theorem fall_in {kd ov kn : List Int32} (ho : okS ov) (hk : okS kn) {w : Nat} (hw : w < 256) {i : Nat} (hi : i < 8) {j : Nat} (hj : j < 8) (h : hasI (fallI kd ov kn (nI w) i) (nI j) = true) : hasI (nI w) (nI j) = true := by
  obtain ⟨f, f1, f2, f3⟩ := fall_sub (kd := kd) ho hk hw hi
  rw [f2, hasI_tb f f1 j hj] at h
  rw [hasI_tb w hw j hj]
  exact f3 j h
