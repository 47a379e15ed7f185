/-! PURE: both spreadings are the least closed set -/
def cN (l : List Int32) (w : Int32) (k : Nat) : Nat := sv (l.getD k 0 &&& w)
theorem cN_ok {l : List Int32} (h : okS l) (w : Int32) (k : Nat) : l.getD k 0 &&& w = nI (cN l w k) ∧ cN l w k < 256 := by
  obtain ⟨m, hm, e⟩ := S8_and (h k) w
  rw [cN, e, sv_nI (by omega)]
  exact ⟨rfl, hm⟩
def js (c : Nat → Nat) (m : Nat) : Nat → Nat → Nat := fun k y => if m.testBit k = true then y ||| c k else y
def gs (c : Nat → Nat) : Nat → Nat → Nat := fun k y => if y.testBit k = true then y ||| c k else y
def Sb (a b : Nat) : Prop := ∀ i, a.testBit i = true → b.testBit i = true
def Cl (c : Nat → Nat) (s : Nat) : Prop := ∀ q, q < 8 → s.testBit q = true → Sb (c q) s
theorem Sb.or {a b z : Nat} (h1 : Sb a z) (h2 : Sb b z) : Sb (a ||| b) z := fun i h => by
  rw [Nat.testBit_or, Bool.or_eq_true] at h
  exact h.elim (h1 i) (h2 i)
theorem Sb.orl (a b : Nat) : Sb a (a ||| b) := fun i h => by rw [Nat.testBit_or, h]; rfl
theorem Sb.orr (a b : Nat) : Sb b (a ||| b) := fun i h => by rw [Nat.testBit_or, h, Bool.or_true]
theorem Sb.tr {a b c : Nat} (h : Sb a b) (g : Sb b c) : Sb a c := fun i q => g i (h i q)
theorem Sb.rf (a : Nat) : Sb a a := fun _ h => h
theorem Sb.an {a b : Nat} (h : Sb a b) (g : Sb b a) : a = b := by
  apply Nat.eq_of_testBit_eq
  intro i
  cases ha : a.testBit i with
  | true => exact (h i ha).symm
  | false =>
    cases hb : b.testBit i with
    | false => rfl
    | true => rw [g i hb] at ha; cases ha
theorem pop_sum : ∀ m, m < 256 → pop8 m = (m.testBit 0).toNat + (m.testBit 1).toNat + (m.testBit 2).toNat + (m.testBit 3).toNat + (m.testBit 4).toNat + (m.testBit 5).toNat + (m.testBit 6).toNat + (m.testBit 7).toNat := by decide +kernel
theorem pop_lt {a b : Nat} (ha : a < 256) (hb : b < 256) (h : Sb a b) (hne : a ≠ b) : pop8 a < pop8 b := by
  have le : ∀ i, (a.testBit i).toNat ≤ (b.testBit i).toNat := fun i => by
    cases hq : a.testBit i with
    | false => exact Nat.zero_le _
    | true => rw [h i hq]; exact Nat.le_refl _
  rw [pop_sum a ha, pop_sum b hb]
  have l0 := le 0; have l1 := le 1; have l2 := le 2; have l3 := le 3; have l4 := le 4; have l5 := le 5; have l6 := le 6; have l7 := le 7
  rcases Nat.lt_or_ge ((a.testBit 0).toNat + (a.testBit 1).toNat + (a.testBit 2).toNat + (a.testBit 3).toNat + (a.testBit 4).toNat + (a.testBit 5).toNat + (a.testBit 6).toNat + (a.testBit 7).toNat) ((b.testBit 0).toNat + (b.testBit 1).toNat + (b.testBit 2).toNat + (b.testBit 3).toNat + (b.testBit 4).toNat + (b.testBit 5).toNat + (b.testBit 6).toNat + (b.testBit 7).toNat) with q | q
  · exact q
  · exfalso
    refine hne (h.an fun i hi => ?_)
    have inj : ∀ i, (a.testBit i).toNat = (b.testBit i).toNat → b.testBit i = true → a.testBit i = true := fun i e hb => by
      rw [hb] at e
      cases hq : a.testBit i with
      | true => rfl
      | false => rw [hq] at e; cases e
    rcases Nat.lt_or_ge i 8 with h8 | h8
    · have : i = 0 ∨ i = 1 ∨ i = 2 ∨ i = 3 ∨ i = 4 ∨ i = 5 ∨ i = 6 ∨ i = 7 := by omega
      rcases this with rfl | rfl | rfl | rfl | rfl | rfl | rfl | rfl <;> exact inj _ (by omega) hi
    · have h9 : 2 ^ 8 ≤ 2 ^ i := Nat.pow_le_pow_right (by decide) h8
      have hb2 : b < 2 ^ i := Nat.lt_of_lt_of_le hb h9
      rw [Nat.testBit_lt_two_pow hb2] at hi
      cases hi
theorem js_lt {c : Nat → Nat} (hc : ∀ k, c k < 256) (m : Nat) : ∀ n k y, y < 256 → iter (js c m) n k y < 256 := by
  intro n
  induction n with
  | zero => intro k y h; exact h
  | succ n ih =>
    intro k y h
    refine ih (k + 1) _ ?_
    unfold js
    split
    · exact Nat.or_lt_two_pow (n := 8) h (hc k)
    · exact h
theorem js_sb (c : Nat → Nat) (m : Nat) : ∀ n k y, Sb y (iter (js c m) n k y) := by
  intro n
  induction n with
  | zero => intro k y; exact Sb.rf y
  | succ n ih =>
    intro k y
    refine Sb.tr ?_ (ih (k + 1) (js c m k y))
    unfold js
    split
    · exact Sb.orl _ _
    · exact Sb.rf _
theorem js_in (c : Nat → Nat) (m : Nat) : ∀ n k y q, k ≤ q → q < k + n → m.testBit q = true → Sb (c q) (iter (js c m) n k y) := by
  intro n
  induction n with
  | zero => intro k y q h1 h2; omega
  | succ n ih =>
    intro k y q h1 h2 hq
    rcases Nat.eq_or_lt_of_le h1 with e | e
    · subst e
      refine Sb.tr ?_ (js_sb c m n (k + 1) (js c m k y))
      rw [js, if_pos hq]
      exact Sb.orr _ _
    · exact ih (k + 1) _ q e (by omega) hq
theorem js_up {c : Nat → Nat} {z m : Nat} (hz : Cl c z) (hm : Sb m z) : ∀ n k y, k + n ≤ 8 → Sb y z → Sb (iter (js c m) n k y) z := by
  intro n
  induction n with
  | zero => intro k y _ h; exact h
  | succ n ih =>
    intro k y hk h
    refine ih (k + 1) _ (by omega) ?_
    unfold js
    split
    · rename_i q; exact h.or (hz k (by omega) (hm k q))
    · exact h
theorem gs_lt {c : Nat → Nat} (hc : ∀ k, c k < 256) : ∀ n k y, y < 256 → iter (gs c) n k y < 256 := by
  intro n
  induction n with
  | zero => intro k y h; exact h
  | succ n ih =>
    intro k y h
    refine ih (k + 1) _ ?_
    unfold gs
    split
    · exact Nat.or_lt_two_pow (n := 8) h (hc k)
    · exact h
theorem gs_sb (c : Nat → Nat) : ∀ n k y, Sb y (iter (gs c) n k y) := by
  intro n
  induction n with
  | zero => intro k y; exact Sb.rf y
  | succ n ih =>
    intro k y
    refine Sb.tr ?_ (ih (k + 1) (gs c k y))
    unfold gs
    split
    · exact Sb.orl _ _
    · exact Sb.rf _
theorem gs_in (c : Nat → Nat) : ∀ n k y q, k ≤ q → q < k + n → y.testBit q = true → Sb (c q) (iter (gs c) n k y) := by
  intro n
  induction n with
  | zero => intro k y q h1 h2; omega
  | succ n ih =>
    intro k y q h1 h2 hq
    rcases Nat.eq_or_lt_of_le h1 with e | e
    · subst e
      refine Sb.tr ?_ (gs_sb c n (k + 1) (gs c k y))
      rw [gs, if_pos hq]
      exact Sb.orr _ _
    · refine ih (k + 1) _ q e (by omega) ?_
      unfold gs
      split
      · exact Sb.orl _ _ q hq
      · exact hq
theorem gs_up {c : Nat → Nat} {z : Nat} (hz : Cl c z) : ∀ n k y, k + n ≤ 8 → Sb y z → Sb (iter (gs c) n k y) z := by
  intro n
  induction n with
  | zero => intro k y _ h; exact h
  | succ n ih =>
    intro k y hk h
    refine ih (k + 1) _ (by omega) ?_
    unfold gs
    split
    · rename_i q; exact h.or (hz k (by omega) (h k q))
    · exact h
def spN (c : Nat → Nat) : Nat → Nat → Nat
  | 0, s => s
  | n + 1, s => if iter (js c s) 8 0 s = s then s else spN c n (iter (js c s) 8 0 s)
theorem spN_ok {c : Nat → Nat} (hc : ∀ k, c k < 256) : ∀ n s, s < 256 → 9 ≤ pop8 s + n → spN c n s < 256 ∧ Sb s (spN c n s) ∧ Cl c (spN c n s) ∧ ∀ z, Cl c z → Sb s z → Sb (spN c n s) z := by
  intro n
  induction n with
  | zero => intro s hs hp; exact absurd (pop8_le s hs) (by omega)
  | succ n ih =>
    intro s hs hp
    rw [spN]
    by_cases he : iter (js c s) 8 0 s = s
    · rw [if_pos he]
      refine ⟨hs, Sb.rf s, fun q hq hb => ?_, fun z _ h => h⟩
      have := js_in c s 8 0 s q (by omega) (by omega) hb
      rw [he] at this
      exact this
    · rw [if_neg he]
      have hlt := js_lt hc s 8 0 s hs
      have hsb := js_sb c s 8 0 s
      have hp2 := pop_lt hs hlt hsb (fun e => he e.symm)
      obtain ⟨r1, r2, r3, r4⟩ := ih (iter (js c s) 8 0 s) hlt (by omega)
      exact ⟨r1, hsb.tr r2, r3, fun z hz h => r4 z hz (js_up hz h 8 0 s (by omega) h)⟩
def gN (c : Nat → Nat) (m : Nat) : Nat → Nat → Nat
  | 0, s => s
  | n + 1, s => gN c m n (iter (gs c) m 0 s)
theorem gN_ok {c : Nat → Nat} (hc : ∀ k, c k < 256) {m : Nat} (hm : m ≤ 8) (hcm : ∀ q, m ≤ q → q < 8 → c q = 0) : ∀ n s, s < 256 → (Cl c s ∨ 9 ≤ pop8 s + n) → gN c m n s < 256 ∧ Sb s (gN c m n s) ∧ Cl c (gN c m n s) ∧ ∀ z, Cl c z → Sb s z → Sb (gN c m n s) z := by
  intro n
  induction n with
  | zero =>
    intro s hs hp
    have hcl : Cl c s := hp.resolve_right (fun q => absurd (pop8_le s hs) (by omega))
    exact ⟨hs, Sb.rf s, hcl, fun z _ h => h⟩
  | succ n ih =>
    intro s hs hp
    rw [gN]
    have hlt := gs_lt hc m 0 s hs
    have hsb := gs_sb c m 0 s
    have hnx : Cl c (iter (gs c) m 0 s) ∨ 9 ≤ pop8 (iter (gs c) m 0 s) + n := by
      by_cases he : iter (gs c) m 0 s = s
      · left
        intro q hq hb
        rcases Nat.lt_or_ge q m with h1 | h1
        · rw [he] at hb
          exact gs_in c m 0 s q (by omega) (by omega) hb
        · rw [hcm q h1 hq]
          intro i hi
          rw [Nat.zero_testBit] at hi
          cases hi
      · rcases hp with h1 | h1
        · exact absurd ((gs_up h1 m 0 s (by omega) (Sb.rf s)).an hsb) he
        · exact Or.inr (by have := pop_lt hs hlt hsb (fun e => he e.symm); omega)
    obtain ⟨r1, r2, r3, r4⟩ := ih (iter (gs c) m 0 s) hlt hnx
    exact ⟨r1, hsb.tr r2, r3, fun z hz h => r4 z hz (gs_up hz m 0 s (by omega) h)⟩
theorem sp_gN {c : Nat → Nat} (hc : ∀ k, c k < 256) {m : Nat} (hm : m ≤ 8) (hcm : ∀ q, m ≤ q → q < 8 → c q = 0) {s : Nat} (hs : s < 256) (hp : 0 < pop8 s) : spN c 8 s = gN c m 8 s := by
  obtain ⟨a1, a2, a3, a4⟩ := spN_ok hc 8 s hs (by omega)
  obtain ⟨b1, b2, b3, b4⟩ := gN_ok hc hm hcm 8 s hs (Or.inr (by omega))
  exact (a4 _ b3 b2).an (b4 _ a3 a2)
