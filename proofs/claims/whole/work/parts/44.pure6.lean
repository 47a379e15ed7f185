/-! PURE: isAbove tells the same as the class's ring -/
theorem and_m1 (x : Int32) (h : S8 x) : x &&& (-1) = x := by
  obtain ⟨m, hm, rfl⟩ := h
  rw [nI_m1, nI_and, Nat.and_two_pow_sub_one_eq_mod, Nat.mod_eq_of_lt (by omega)]
theorem abS_mc {l : List Int32} (h : okS l) : abS l = mcS l (-1) := by
  funext q s
  rw [abS, mcS, and_m1 _ (h q)]
theorem abI_N {l : List Int32} (h : okS l) (k : Nat) : abI l k = nI (gN (cN l (-1)) 8 8 (sv (l.getD k 0))) ∧ sv (l.getD k 0) < 256 ∧ cN l (-1) k = sv (l.getD k 0) := by
  obtain ⟨m, hm, e⟩ := h k
  have e2 : sv (l.getD k 0) = m := by rw [e, sv_nI (by omega)]
  refine ⟨?_, by omega, by rw [cN, and_m1 _ (h k)]⟩
  rw [abI, abS_mc h, e2, e]
  exact mcl_N h (-1) (Nat.le_refl 8) 8 0 m hm
theorem ab_ring {l : List Int32} (h : okS l) {i j : Nat} (hi : i < 8) (hj : j < 8) (hij : i ≠ j) : hasI (abI l i) (nI j) = ringB l (nI i) (nI j) := by
  obtain ⟨e1, e2, e3⟩ := abI_N h i
  have hc : ∀ k, cN l (-1) k < 256 := fun k => (cN_ok h (-1) k).2
  have h2 := (S8_bit i hi).2
  obtain ⟨a1, a2, a3, a4⟩ := spN_ok hc 8 (2 ^ i) h2 (by have := pop_bit i hi; omega)
  obtain ⟨b1, b2, b3, b4⟩ := gN_ok hc (Nat.le_refl 8) (fun q p r => absurd r (by omega)) 8 (sv (l.getD i 0)) e2 (by
    by_cases hz : sv (l.getD i 0) = 0
    · left
      intro q _ hb
      rw [hz, Nat.zero_testBit] at hb
      cases hb
    · right
      have := pop_0 _ e2 hz
      omega)
  rw [ringB, e1, hasI_tb _ b1 j hj, (S8_bit i hi).1, spO_N h (-1) 8 _ h2, hasI_tb _ a1 j hj]
  have hii : (2 ^ i).testBit i = true := by rw [Nat.testBit_two_pow]; exact decide_eq_true rfl
  have s1 : Sb (gN (cN l (-1)) 8 8 (sv (l.getD i 0))) (spN (cN l (-1)) 8 (2 ^ i)) := b4 _ a3 (by
    rw [← e3]
    exact a3 i hi (a2 i hii))
  have s2 : Sb (spN (cN l (-1)) 8 (2 ^ i)) (2 ^ i ||| gN (cN l (-1)) 8 8 (sv (l.getD i 0))) := a4 _ (fun q hq hb => by
    rw [Nat.testBit_or, Bool.or_eq_true] at hb
    refine Sb.tr ?_ (Sb.orr _ _)
    rcases hb with hb | hb
    · rw [Nat.testBit_two_pow] at hb
      rw [← of_decide_eq_true hb, e3]
      exact b2
    · exact b3 q hq hb) (Sb.orl _ _)
  cases hq : (spN (cN l (-1)) 8 (2 ^ i)).testBit j with
  | true =>
    have := s2 j hq
    rw [Nat.testBit_or, Nat.testBit_two_pow, show decide (i = j) = false from decide_eq_false hij, Bool.false_or] at this
    exact this
  | false =>
    cases hp : (gN (cN l (-1)) 8 8 (sv (l.getD i 0))).testBit j with
    | false => rfl
    | true => rw [s1 j hp] at hq; cases hq
