/-! PURE: the invariant through clauses -/
theorem has_or {x y : Int32} (hx : S8 x) (hy : S8 y) {i : Nat} (hi : i < 8) : hasI (x ||| y) (nI i) = (hasI x (nI i) || hasI y (nI i)) := by
  obtain ⟨a, ha, rfl⟩ := hx
  obtain ⟨b, hb, rfl⟩ := hy
  rw [hasI_or ha hb hi, hasI_tb a ha i hi, hasI_tb b hb i hi]
theorem has_bit {i j : Nat} (hi : i < 8) (hj : j < 8) : hasI (bitI (nI i)) (nI j) = decide (i = j) := by
  rw [(S8_bit i hi).1, hasI_tb _ (S8_bit i hi).2 j hj, Nat.testBit_two_pow]
theorem ring_no {l : List Int32} (h : okS l) {i j : Nat} (hi : i < 8) (hj : j < 8) (hr : ringB l (nI i) (nI j) = false) : i ≠ j ∧ (cl8 l i).testBit j = false := by
  have hne : i ≠ j := by
    intro e
    subst e
    have hc : ∀ k, cN l (-1) k < 256 := fun k => (cN_ok h (-1) k).2
    have h2 := (S8_bit i hi).2
    obtain ⟨a1, a2, a3, a4⟩ := spN_ok hc 8 (2 ^ i) h2 (by have := pop_bit i hi; omega)
    rw [ringB, (S8_bit i hi).1, spO_N h (-1) 8 _ h2, hasI_tb _ a1 i hi, a2 i (by rw [Nat.testBit_two_pow]; exact decide_eq_true rfl)] at hr
    cases hr
  refine ⟨hne, ?_⟩
  rw [← ab_ring h hi hj hne, (abI_N h i).1] at hr
  rw [← hasI_tb _ (cl8_ok h i).1 j hj]
  exact hr
theorem ring_self {l : List Int32} (h : okS l) {i : Nat} (hi : i < 8) : ringB l (nI i) (nI i) = true := by
  cases hq : ringB l (nI i) (nI i) with
  | true => rfl
  | false => exact absurd rfl (ring_no h hi hi hq).1
theorem okS_or {l : List Int32} (h : okS l) (j : Nat) {i : Nat} (hi : i < 8) : okS (l.set j (l.getD j 0 ||| bitI (nI i))) := okS_set h j (S8_or (h j) (S8_b hi))
theorem cN_m1 {l : List Int32} (h : okS l) (k : Nat) : cN l (-1) k = sv (l.getD k 0) := (abI_N h k).2.2
theorem Acy_add {l : List Int32} (hl : l.length = 8) (h : okS l) (ha : Acy l) {i j : Nat} (hi : i < 8) (hj : j < 8) (hr : ringB l (nI i) (nI j) = false) : Acy (l.set j (l.getD j 0 ||| bitI (nI i))) := by
  obtain ⟨hne, hri⟩ := ring_no h hi hj hr
  have g := okS_or h j hi
  have tb : ∀ k, k < 8 → ∀ b, b < 8 → (cN (l.set j (l.getD j 0 ||| bitI (nI i))) (-1) k).testBit b = ((cN l (-1) k).testBit b || (decide (k = j) && decide (i = b))) := by
    intro k hk b hb
    obtain ⟨c1, c2⟩ := cN_ok g (-1) k
    obtain ⟨d1, d2⟩ := cN_ok h (-1) k
    rw [and_m1 _ (g k)] at c1
    rw [and_m1 _ (h k)] at d1
    rw [← hasI_tb _ c2 b hb, ← hasI_tb _ d2 b hb, ← c1, ← d1]
    by_cases e : j = k
    · subst e
      rw [getD_set_eq (by omega), has_or (h j) (S8_b hi) hb, has_bit hi hb, decide_eq_true rfl, Bool.true_and]
    · rw [getD_set_ne e, decide_eq_false (fun z => e z.symm), Bool.false_and, Bool.or_false]
  intro k hk
  obtain ⟨a1, a2, a3, a4⟩ := cl8_ok h k
  obtain ⟨i1, i2, i3, i4⟩ := cl8_ok h i
  obtain ⟨b1, b2, b3, b4⟩ := cl8_ok g k
  have lt8 : ∀ {z b : Nat}, z < 256 → z.testBit b = true → b < 8 := fun hz hb => tb_lt (n := 8) hz hb
  have gN8 : ∀ q, cN (l.set j (l.getD j 0 ||| bitI (nI i))) (-1) q < 256 := fun q => (cN_ok g (-1) q).2
  by_cases hc : j = k ∨ (cl8 l k).testBit j = true
  · have sub := b4 (cl8 l k ||| (2 ^ i ||| cl8 l i)) (fun q hq hb b hbb => ?_) (fun b hbb => ?_)
    · cases hz : (cl8 (l.set j (l.getD j 0 ||| bitI (nI i))) k).testBit k with
      | false => rfl
      | true =>
        exfalso
        have := sub k hz
        rw [Nat.testBit_or, Nat.testBit_or, ha k hk, Bool.false_or, Nat.testBit_two_pow, Bool.or_eq_true, decide_eq_true_eq] at this
        rcases this with e | e
        · subst e
          rcases hc with e | e
          · exact hne e.symm
          · rw [e] at hri; cases hri
        · rcases hc with q | q
          · subst q; rw [e] at hri; cases hri
          · have := (a4 _ i3 (i3 k hk e)) j q
            rw [this] at hri
            cases hri
    · have hb8 : b < 8 := lt8 (gN8 q) hbb
      rw [tb q hq b hb8, Bool.or_eq_true, Bool.and_eq_true, decide_eq_true_eq, decide_eq_true_eq] at hbb
      rw [Nat.testBit_or, Nat.testBit_or, Nat.testBit_two_pow] at hb ⊢
      rcases hbb with hbb | ⟨-, e⟩
      · rw [Bool.or_eq_true, Bool.or_eq_true] at hb
        rcases hb with hb | hb | hb
        · rw [a3 q hq hb b hbb, Bool.true_or]
        · have e := of_decide_eq_true hb
          subst e
          rw [i2 b hbb, Bool.or_true, Bool.or_true]
        · rw [i3 q hq hb b hbb, Bool.or_true, Bool.or_true]
      · rw [decide_eq_true e, Bool.true_or, Bool.or_true]
    · have hb8 : b < 8 := lt8 (gN8 k) hbb
      rw [tb k hk b hb8, Bool.or_eq_true, Bool.and_eq_true, decide_eq_true_eq, decide_eq_true_eq] at hbb
      rw [Nat.testBit_or, Nat.testBit_or, Nat.testBit_two_pow]
      rcases hbb with hbb | ⟨-, e⟩
      · rw [a2 b hbb, Bool.true_or]
      · rw [decide_eq_true e, Bool.true_or, Bool.or_true]
  · have hjk : ¬ k = j := fun e => hc (Or.inl e.symm)
    have sub := b4 (cl8 l k) (fun q hq hb b hbb => by
      have hb8 : b < 8 := lt8 (gN8 q) hbb
      rw [tb q hq b hb8, Bool.or_eq_true, Bool.and_eq_true, decide_eq_true_eq, decide_eq_true_eq] at hbb
      rcases hbb with hbb | ⟨e, -⟩
      · exact a3 q hq hb b hbb
      · subst e; exact absurd (Or.inr hb) hc) (fun b hbb => by
      have hb8 : b < 8 := lt8 (gN8 k) hbb
      rw [tb k hk b hb8, decide_eq_false hjk, Bool.false_and, Bool.or_false] at hbb
      exact a2 b hbb)
    cases hz : (cl8 (l.set j (l.getD j 0 ||| bitI (nI i))) k).testBit k with
    | false => rfl
    | true =>
      have := sub k hz
      rw [ha k hk] at this
      cases this
theorem has_xor {x : Int32} (hx : S8 x) {i j : Nat} (hi : i < 8) (hj : j < 8) : hasI (x ^^^ bitI (nI i)) (nI j) = (hasI x (nI j) ^^ decide (i = j)) ∧ S8 (x ^^^ bitI (nI i)) := by
  obtain ⟨a, ha, rfl⟩ := hx
  rw [(S8_bit i hi).1, nI_xor]
  have h2 := Nat.xor_lt_two_pow (n := 8) ha (S8_bit i hi).2
  rw [hasI_tb _ h2 j hj, hasI_tb a ha j hj, Nat.testBit_xor, Nat.testBit_two_pow]
  exact ⟨rfl, _, h2, rfl⟩
theorem kn_two {l : List Int32} (hl : l.length = 8) {i j : Nat} (hi : i < 8) (hj : j < 8) (hij : i ≠ j) (u v : Int32) (p : Nat) : ((l.set i u).set j v).getD p 0 = if p = j then v else if p = i then u else l.getD p 0 := by
  by_cases h1 : p = j
  · subst h1; rw [if_pos rfl, getD_set_eq (by rw [List.length_set]; omega)]
  · rw [if_neg h1, getD_set_ne (fun e => h1 e.symm)]
    by_cases h2 : p = i
    · subst h2; rw [if_pos rfl, getD_set_eq (by omega)]
    · rw [if_neg h2, getD_set_ne (fun e => h2 e.symm)]
theorem Sym8_two {l : List Int32} (hl : l.length = 8) (hs : Sym8 l) {i j : Nat} (hi : i < 8) (hj : j < 8) (hij : i ≠ j) {u v : Int32} {f : Bool → Bool} (hu : ∀ q, q < 8 → hasI u (nI q) = if q = j then f (hasI (l.getD i 0) (nI q)) else hasI (l.getD i 0) (nI q)) (hv : ∀ q, q < 8 → hasI v (nI q) = if q = i then f (hasI (l.getD j 0) (nI q)) else hasI (l.getD j 0) (nI q)) : Sym8 ((l.set i u).set j v) := by
  intro p q hp hq
  rw [kn_two hl hi hj hij, kn_two hl hi hj hij]
  by_cases h1 : p = j
  · subst h1
    rw [if_pos rfl, hv q hq]
    by_cases h2 : q = p
    · subst h2
      rw [if_pos rfl, if_neg (fun e => hij e.symm), hv q hq, if_neg (fun e => hij e.symm)]
    · rw [if_neg h2]
      by_cases h3 : q = i
      · subst h3
        rw [if_pos rfl, if_pos rfl, hu p hp, if_pos rfl, hs p q hp hq]
      · rw [if_neg h3, if_neg h3]
        exact hs p q hp hq
  · rw [if_neg h1]
    by_cases h2 : p = i
    · subst h2
      rw [if_pos rfl, hu q hq]
      by_cases h3 : q = j
      · subst h3
        rw [if_pos rfl, if_pos rfl, hv p hp, if_pos rfl, hs p q hp hq]
      · rw [if_neg h3, if_neg h3]
        by_cases h4 : q = p
        · subst h4
          rw [if_pos rfl, hu q hq, if_neg h3]
        · rw [if_neg h4]
          exact hs p q hp hq
    · rw [if_neg h2]
      by_cases h3 : q = j
      · subst h3
        rw [if_pos rfl, hv p hp, if_neg h2]
        exact hs p q hp hq
      · rw [if_neg h3]
        by_cases h4 : q = i
        · subst h4
          rw [if_pos rfl, hu p hp, if_neg h1]
          exact hs p q hp hq
        · rw [if_neg h4]
          exact hs p q hp hq
theorem TeI.addTh {x : TeS} (h : TeI x) (hn : tN x < 8) (k c : Int32) {l : Nat} (h1 : 1 ≤ l) (h2 : l ≤ 60) : TeI (addTh x k (nI l) c) := by
  obtain ⟨⟨a1, a2⟩, ⟨b1, b2, b3, b4, b5, b6, b7⟩, hok, hz, hl, ho⟩ := h
  refine ⟨⟨hn, a2⟩, ⟨?_, ?_, ?_, b4, b5, b6, b7⟩, hok, fun q h3 h4 => hz q (by have : tN x + 1 ≤ q := h3; omega) h4, fun i hi => ?_, fun o hoo => ?_⟩
  · show ((tKd x).set (tN x) k).length = 8; rw [List.length_set]; exact b1
  · show ((tLn x).set (tN x) (nI l)).length = 8; rw [List.length_set]; exact b2
  · show ((tCo x).set (tN x) c).length = 8; rw [List.length_set]; exact b3
  · have hi : i < tN x + 1 := hi
    show ∃ l', ((tLn x).set (tN x) (nI l)).getD i 0 = nI l' ∧ _
    by_cases e : tN x = i
    · subst e
      exact ⟨l, getD_set_eq (by omega) _, h1, h2⟩
    · rw [getD_set_ne e]
      exact hl i (by omega)
  · obtain ⟨j, y, q1, q2, q3⟩ := ho o hoo
    exact ⟨j, y, q1, Nat.lt_succ_of_lt q2, q3⟩
theorem TeI.addOr {x : TeS} (h : TeI x) (hm : tM x < 6) {j y : Nat} (hj : j < tN x) (hy : y ≤ 99) : TeI (addOr x (nI j) (nI y)) := by
  obtain ⟨⟨a1, a2⟩, ⟨b1, b2, b3, b4, b5, b6, b7⟩, hok, hz, hl, ho⟩ := h
  refine ⟨⟨a1, hm⟩, ⟨b1, b2, b3, b4, b5, ?_, ?_⟩, hok, hz, hl, fun o hoo => ?_⟩
  · show ((tOt x).set (tM x) (nI j)).length = 6; rw [List.length_set]; exact b6
  · show ((tOd x).set (tM x) (nI y)).length = 6; rw [List.length_set]; exact b7
  · have hoo : o < tM x + 1 := hoo
    show ∃ j' y', ((tOt x).set (tM x) (nI j)).getD o 0 = nI j' ∧ _ ∧ ((tOd x).set (tM x) (nI y)).getD o 0 = nI y' ∧ _
    by_cases e : tM x = o
    · subst e
      exact ⟨j, y, getD_set_eq (by omega) _, hj, getD_set_eq (by omega) _, hy⟩
    · rw [getD_set_ne e, getD_set_ne e]
      exact ho o (by omega)
theorem TeI.ov {x : TeS} (h : TeI x) {i j : Nat} (hi : i < tN x) (hj : j < tN x) (hr : ringB (tOv x) (nI i) (nI j) = false) : TeI (tOvW x ((tOv x).set j ((tOv x).getD j 0 ||| bitI (nI i)))) := by
  obtain ⟨⟨a1, a2⟩, ⟨b1, b2, b3, b4, b5, b6, b7⟩, ⟨h1, h2, h3, h4⟩, hz, hl, ho⟩ := h
  refine ⟨⟨a1, a2⟩, ⟨b1, b2, b3, ?_, b5, b6, b7⟩, ⟨okS_or h1 j (by omega), h2, Acy_add b4 h1 h3 (by omega) (by omega) hr, h4⟩, fun q q1 q2 => ⟨?_, (hz q q1 q2).2⟩, hl, ho⟩
  · show ((tOv x).set j _).length = 8; rw [List.length_set]; exact b4
  · show ((tOv x).set j _).getD q 0 = 0
    have q1 : tN x ≤ q := q1
    rw [getD_set_ne (by omega)]
    exact (hz q q1 q2).1
theorem knT_eq (l : List Int32) {i j : Nat} (hi : i < 8) (hj : j < 8) (hij : i ≠ j) : knT l (nI i) (nI j) = (l.set i (l.getD i 0 ||| bitI (nI j))).set j (l.getD j 0 ||| bitI (nI i)) := by
  rw [knT, sv_nI (by omega), sv_nI (by omega), getD_set_ne hij]
theorem okS_two {l : List Int32} (hl : l.length = 8) (h : okS l) {i j : Nat} (hi : i < 8) (hj : j < 8) (hij : i ≠ j) {u v : Int32} (hu : S8 u) (hv : S8 v) : okS ((l.set i u).set j v) := okS_set (okS_set h i hu) j hv
theorem TeI.kn {x : TeS} (h : TeI x) {i j : Nat} (hi : i < tN x) (hj : j < tN x) (hij : i ≠ j) : TeI (tKnW x (knT (tKn x) (nI i) (nI j))) := by
  obtain ⟨⟨a1, a2⟩, ⟨b1, b2, b3, b4, b5, b6, b7⟩, ⟨h1, h2, h3, h4⟩, hz, hl, ho⟩ := h
  rw [knT_eq _ (by omega) (by omega) hij]
  have ui := S8_or (h2 i) (S8_b (show j < 8 by omega))
  have uj := S8_or (h2 j) (S8_b (show i < 8 by omega))
  refine ⟨⟨a1, a2⟩, ⟨b1, b2, b3, b4, ?_, b6, b7⟩, ⟨h1, okS_two b5 h2 (by omega) (by omega) hij ui uj, h3, ?_⟩, fun q q1 q2 => ⟨(hz q q1 q2).1, ?_⟩, hl, ho⟩
  · show (((tKn x).set i _).set j _).length = 8; rw [List.length_set, List.length_set]; exact b5
  · refine Sym8_two (f := fun _ => true) b5 h4 (by omega) (by omega) hij (fun q hq => ?_) (fun q hq => ?_)
    · rw [has_or (h2 i) (S8_b (by omega)) hq, has_bit (by omega) hq]
      by_cases e : q = j
      · subst e; rw [if_pos rfl, decide_eq_true rfl, Bool.or_true]
      · rw [if_neg e, decide_eq_false (fun z => e z.symm), Bool.or_false]
    · rw [has_or (h2 j) (S8_b (by omega)) hq, has_bit (by omega) hq]
      by_cases e : q = i
      · subst e; rw [if_pos rfl, decide_eq_true rfl, Bool.or_true]
      · rw [if_neg e, decide_eq_false (fun z => e z.symm), Bool.or_false]
  · show (((tKn x).set i _).set j _).getD q 0 = 0
    have q1 : tN x ≤ q := q1
    rw [getD_set_ne (by omega), getD_set_ne (by omega)]
    exact (hz q q1 q2).2
theorem rep_0 (q : Nat) : (List.replicate 8 (nI 0)).getD q 0 = 0 := by
  rw [List.getD_eq_getElem?_getD, List.getElem?_replicate]
  split <;> rfl
theorem okS_rep : okS (List.replicate 8 (nI 0)) := fun j => by rw [rep_0]; exact ⟨0, by decide, rfl⟩
theorem Acy_rep : Acy (List.replicate 8 (nI 0)) := by
  intro i hi
  have hz : ∀ k, cN (List.replicate 8 (nI 0)) (-1) k = 0 := fun k => by rw [cN, rep_0, zero_and]; rfl
  obtain ⟨a1, a2, a3, a4⟩ := cl8_ok okS_rep i
  cases hq : (cl8 (List.replicate 8 (nI 0)) i).testBit i with
  | false => rfl
  | true =>
    have := a4 0 (fun q _ hb => by rw [Nat.zero_testBit] at hb; cases hb) (fun b hb => by rw [hz, Nat.zero_testBit] at hb; cases hb) i hq
    rw [Nat.zero_testBit] at this
    cases this
theorem Sym_rep : Sym8 (List.replicate 8 (nI 0)) := fun i j _ _ => by rw [rep_0, rep_0, has_0, has_0]
theorem TeI.loo {x : TeS} (h : TeI x) : TeI (looT x) := by
  obtain ⟨⟨a1, a2⟩, ⟨b1, b2, b3, b4, b5, b6, b7⟩, -, -, hl, ho⟩ := h
  exact ⟨⟨a1, a2⟩, ⟨b1, b2, b3, rfl, rfl, b6, b7⟩, ⟨okS_rep, okS_rep, Acy_rep, Sym_rep⟩, fun q _ _ => ⟨rep_0 q, rep_0 q⟩, hl, ho⟩
theorem TeI.emp {x : TeS} (h : TeI x) : TeI (empT x) := by
  obtain ⟨⟨a1, a2⟩, ⟨b1, b2, b3, b4, b5, b6, b7⟩, -⟩ := h
  exact ⟨⟨by show 0 ≤ 8; omega, by show 0 ≤ 6; omega⟩, ⟨b1, b2, b3, rfl, rfl, b6, b7⟩, ⟨okS_rep, okS_rep, Acy_rep, Sym_rep⟩, fun q _ _ => ⟨rep_0 q, rep_0 q⟩, fun i hi => absurd (show i < 0 from hi) (by omega), fun o hi => absurd (show o < 0 from hi) (by omega)⟩
theorem TeI.cal {x : TeS} (h : TeI x) : TeI (calT x) := by
  obtain ⟨⟨a1, a2⟩, hb, hc, hz, hl, -⟩ := h
  exact ⟨⟨a1, by show 0 ≤ 6; omega⟩, hb, hc, hz, hl, fun o hi => absurd (show o < 0 from hi) (by omega)⟩
theorem num_nI {tx : List Int32} {n b e : Nat} {lo hi : Nat} (hh : hi < 2 ^ 31) (h : ¬ numI tx n b e (nI lo) (nI hi) = -1) : ∃ v, lo ≤ v ∧ v ≤ hi ∧ numI tx n b e (nI lo) (nI hi) = nI v ∨ 2 ^ 31 ≤ lo := by
  rcases Nat.lt_or_ge lo (2 ^ 31) with hlo | hlo
  · obtain ⟨h1, h2⟩ := num_ge tx n b e _ _ h
    have h0 : ¬ numI tx n b e (nI lo) (nI hi) < 0 := fun z => h1 (Int32.lt_of_lt_of_le z (nI_pos' hlo))
    obtain ⟨j, hj, ej⟩ := nI_of h0
    rw [ej] at h1 h2
    exact ⟨j, Or.inl ⟨(nI_leI hlo hj).mp (Int32.not_lt.mp h1), (nI_leI hj hh).mp h2, ej⟩⟩
  · exact ⟨0, Or.inr hlo⟩
theorem TeI.cl {tx : List Int32} {n : Nat} {x : TeS} {p : Nat × Nat} (h : TeI x) : TeI (clP tx n x p).2.1 := by
  have hn := h.1.1
  rw [clP]
  split
  · exact h
  · rename_i hc
    have hw : ¬ wordI tx p.1 p.2 = -1 := fun z => hc (Or.inl z)
    have hr : roomB x (sv (wordI tx p.1 p.2)) = true := by
      cases hq : roomB x (sv (wordI tx p.1 p.2)) with
      | true => rfl
      | false => exact absurd (Or.inr hq) hc
    obtain ⟨w, hw10, ew⟩ := (word_c tx p.1 p.2).resolve_left hw
    rw [ew, sv_nI (by omega)] at hr ⊢
    generalize stepP tx n p.2 = q
    match w, hw10, hr with
    | 4, _, _ =>
      rw [body4, ovP]
      split
      · exact h
      · split
        · exact h
        · rename_i h1 h2
          obtain ⟨i, hi, ei⟩ := n1_ok hn h1
          obtain ⟨j, hj, ej⟩ := n1_ok (p := stepP tx n q.2) hn (fun z => h2 (Or.inl z))
          have hrr : ringB (tOv x) (nI i) (nI j) = false := by
            rw [ei, ej] at h2
            cases hq : ringB (tOv x) (nI i) (nI j) with
            | false => rfl
            | true => exact absurd (Or.inr hq) h2
          rw [ei, ej, sv_nI (by omega)]
          exact h.ov hi hj hrr
    | 5, _, _ =>
      rw [body5, knP]
      split
      · exact h
      · split
        · exact h
        · rename_i h1 h2
          obtain ⟨i, hi, ei⟩ := n1_ok hn h1
          obtain ⟨j, hj, ej⟩ := n1_ok (p := stepP tx n q.2) hn (fun z => h2 (Or.inl z))
          rw [ei, ej] at h2 ⊢
          exact h.kn hi hj (fun e => h2 (Or.inr (by rw [e])))
    | 6, _, hr =>
      have hm : tM x < 6 := by
        rw [roomB, if_neg (by decide)] at hr
        exact (of_decide_eq_true hr).resolve_left (fun z => z rfl)
      rw [body6, orP]
      split
      · exact h
      · split
        · exact h
        · rename_i h1 h2
          obtain ⟨i, hi, ei⟩ := n1_ok hn h1
          obtain ⟨v, hv⟩ := num_nI (lo := 0) (hi := 99) (by decide) h2
          obtain ⟨-, v2, ev⟩ := hv.resolve_right (by decide)
          rw [ei, ev]
          exact h.addOr hm hi v2
    | 7, _, _ => rw [body7]; exact h.emp
    | 8, _, _ => rw [body8]; exact h.cal
    | 9, _, _ => rw [body9]; exact h.loo
    | 0, _, hr | 1, _, hr | 2, _, hr | 3, _, hr =>
      rw [roomB, if_pos (by decide)] at hr
      rw [bodyP, if_neg (by decide), if_neg (by decide), if_neg (by decide), if_neg (by decide), if_neg (by decide), if_neg (by decide), thP]
      split
      · exact h
      · split
        · exact h
        · rename_i h1 h2
          obtain ⟨v, hv⟩ := num_nI (lo := 1) (hi := 60) (by decide) h1
          obtain ⟨v1, v2, ev⟩ := hv.resolve_right (by decide)
          rw [ev]
          exact h.addTh (of_decide_eq_true hr) _ _ v1 v2
    | w + 10, hw10, _ => exact absurd hw10 (by omega)
theorem TeI.ff {tx : List Int32} {n : Nat} : ∀ (k c : Nat) (x : TeS) (p : Nat × Nat), TeI x → TeI (ffP tx n k c x p).2.2 := by
  intro k
  induction k with
  | zero => intro c x p h; exact h
  | succ k ih =>
    intro c x p h
    rw [ffP]
    split
    · exact h.cl
    · split
      · exact h.cl
      · split
        · exact h.cl
        · exact ih _ _ _ h.cl
theorem LoI.beg {x : TeS} (h : TeI x) : LoI (tN x) (tKd x) (tLn x) (begL (tN x) (tCo x) (tOv x) (tKn x)) := by
  obtain ⟨⟨a1, a2⟩, ⟨b1, b2, b3, b4, b5, b6, b7⟩, hc, hz, hl, ho⟩ := h
  have hp : 0 < 2 ^ tN x := Nat.two_pow_pos _
  refine ⟨⟨b3, rfl, b4, b5⟩, hc, hz, 2 ^ tN x - 1, 0, 0, ?_, by omega, rfl, hp, rfl, by omega, fun i _ => Nat.zero_testBit i, fun i hi he => ⟨fun _ => ?_, fun hb => by rw [Nat.zero_testBit] at hb; cases hb⟩⟩
  · show bitI (nI (tN x)) - nI 1 = _
    exact all_n _ (by omega)
  · obtain ⟨l, el, l1, l2⟩ := hl i hi
    rw [el, sv_nI (by omega)]
    omega
