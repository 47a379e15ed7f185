/-! PURE: walks to the top end where nothing lies over itself -/
def cl8 (l : List Int32) (i : Nat) : Nat := gN (cN l (-1)) 8 8 (sv (l.getD i 0))
theorem cl8_ok {l : List Int32} (h : okS l) (i : Nat) : cl8 l i < 256 ∧ Sb (cN l (-1) i) (cl8 l i) ∧ Cl (cN l (-1)) (cl8 l i) ∧ ∀ z, Cl (cN l (-1)) z → Sb (cN l (-1) i) z → Sb (cl8 l i) z := by
  obtain ⟨e1, e2, e3⟩ := abI_N h i
  have hc : ∀ k, cN l (-1) k < 256 := fun k => (cN_ok h (-1) k).2
  rw [e3]
  exact gN_ok hc (Nat.le_refl 8) (fun q p r => absurd r (by omega)) 8 (sv (l.getD i 0)) e2 (by
    by_cases hz : sv (l.getD i 0) = 0
    · left
      intro q _ hb
      rw [hz, Nat.zero_testBit] at hb
      cases hb
    · right
      have := pop_0 _ e2 hz
      omega)
def Acy (l : List Int32) : Prop := ∀ i, i < 8 → (cl8 l i).testBit i = false
theorem cN_le {l : List Int32} (h : okS l) (w : Int32) (i : Nat) : Sb (cN l w i) (cN l (-1) i) := by
  obtain ⟨m, hm, e⟩ := h i
  rw [cN, cN, and_m1 _ (h i), e, nI_any w, nI_and, sv_nI (n := m &&& w.toBitVec.toNat) (by have := Nat.and_le_left (n := m) (m := w.toBitVec.toNat); omega), sv_nI (n := m) (by omega)]
  intro j hj
  rw [Nat.testBit_and, Bool.and_eq_true] at hj
  exact hj.1
theorem top_end {l : List Int32} (h : okS l) (ha : Acy l) (w : Int32) : ∀ n i, i < 8 → pop8 (cl8 l i) < n → cN l w (topN l w n i) = 0 := by
  intro n
  induction n with
  | zero => intro i _ hp; omega
  | succ n ih =>
    intro i hi hp
    rw [topN]
    split
    · rename_i hz; exact hz
    · rename_i hz
      have hc := (cN_ok h w i).2
      have hlt := tz8_lt _ hc (by rw [cN]; omega)
      have hin := cN_le h w i _ ((tz_lo _ hc (by rw [cN]; omega) _ hlt).2 rfl)
      obtain ⟨a1, a2, a3, a4⟩ := cl8_ok h i
      obtain ⟨b1, b2, b3, b4⟩ := cl8_ok h (tz8 (cN l w i))
      have hsub : Sb (cl8 l (tz8 (cN l w i))) (cl8 l i) := b4 _ a3 (a3 _ hlt (a2 _ hin))
      have hne : cl8 l (tz8 (cN l w i)) ≠ cl8 l i := fun e => by
        have q := ha _ hlt
        rw [e, a2 _ hin] at q
        cases q
      exact ih _ hlt (by have := pop_lt b1 a1 hsub hne; rw [cN] at this; omega)
theorem pop_out : ∀ m, m < 256 → ∀ i, i < 8 → m.testBit i = false → pop8 m < 8 := by decide +kernel
theorem top_ends {l : List Int32} (h : okS l) (ha : Acy l) (w : Int32) (i : Nat) (hi : i < 8) : sv (l.getD (topN l w 8 i) 0 &&& w) = 0 := top_end h ha w 8 i hi (pop_out _ (cl8_ok h i).1 i hi (ha i hi))
theorem Acy_mono {l m : List Int32} (h : okS l) (g : okS m) (hs : ∀ k, Sb (cN m (-1) k) (cN l (-1) k)) (ha : Acy l) : Acy m := by
  intro i hi
  obtain ⟨a1, a2, a3, a4⟩ := cl8_ok h i
  obtain ⟨b1, b2, b3, b4⟩ := cl8_ok g i
  cases hq : (cl8 m i).testBit i with
  | false => rfl
  | true =>
    have := b4 _ (fun q hq hb => (hs q).tr (a3 q hq hb)) ((hs i).tr a2) i hq
    rw [ha i hi] at this
    cases this
