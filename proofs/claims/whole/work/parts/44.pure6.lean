/-! PURE: isAbove tells the same as the class's ring -/
theorem and_m1 (x : Int32) (h : S8 x) : x &&& (-1) = x := by
  obtain ⟨m, hm, rfl⟩ := h
  rw [nI_m1, nI_and, Nat.and_two_pow_sub_one_eq_mod, Nat.mod_eq_of_lt (by omega)]
theorem abS_mc {l : List Int32} (h : okS l) : abS l = mcS l (-1) := by
  funext q s
  rw [abS, mcS, and_m1 _ (h q)]
theorem abI_N {l : List Int32} (h : okS l) (k : Nat) : abI l k = nI (gN (cN l (-1)) 8 8 (sv (l.getD k 0))) ∧ sv (l.getD k 0) < 256 ∧ cN l (-1) k = sv (l.getD k 0) := by
  obtain ⟨m, hm, e⟩ := h k
  have e2 : sv (l.getD k 0) = m := by rw [e, sv_nI (by omega)]
  refine ⟨?_, by omega, by rw [cN, and_m1 _ (h k)]⟩
  rw [abI, abS_mc h, e2, e]
  exact mcl_N h (-1) (Nat.le_refl 8) 8 0 m hm
