/-! SWAPPED: rows in their order -/
def LxN (n : Nat) (v u : List Nat) : Prop := ∃ i, i < n ∧ (∀ j, j < i → v.getD j 0 = u.getD j 0) ∧ v.getD i 0 < u.getD i 0
theorem LxN_tri (v u : List Nat) : ∀ n, LxN n v u ∨ LxN n u v ∨ ∀ j, j < n → v.getD j 0 = u.getD j 0 := by
  intro n
  induction n with
  | zero => exact Or.inr (Or.inr (fun j hj => absurd hj (by omega)))
  | succ n ih =>
    rcases ih with ⟨j, h1, h2, h3⟩ | ⟨j, h1, h2, h3⟩ | h
    · exact Or.inl ⟨j, by omega, h2, h3⟩
    · exact Or.inr (Or.inl ⟨j, by omega, h2, h3⟩)
    · rcases Nat.lt_trichotomy (v.getD n 0) (u.getD n 0) with q | q | q
      · exact Or.inl ⟨n, by omega, h, q⟩
      · refine Or.inr (Or.inr (fun j hj => ?_))
        rcases Nat.lt_or_ge j n with e | e
        · exact h j e
        · have : j = n := by omega
          subst this; exact q
      · exact Or.inr (Or.inl ⟨n, by omega, fun i hi => (h i hi).symm, q⟩)
theorem nd_ext {l m : List Nat} (hl : l.length = m.length) (h : ∀ j, j < l.length → l.getD j 0 = m.getD j 0) : l = m := by
  apply List.ext_getElem hl
  intro j h1 h2
  have := h j h1
  rw [List.getD_eq_getElem?_getD, List.getD_eq_getElem?_getD, List.getElem?_eq_getElem h1, List.getElem?_eq_getElem h2] at this
  exact this
theorem key_mem {u v : List Nat} (hp : List.Perm u v) {i : Nat} (hi : i < u.length) (ha : ∀ j, j < i → u.getD j 0 = v.getD j 0) : ∃ j, i ≤ j ∧ j < u.length ∧ v.getD j 0 = u.getD i 0 := by
  have hl := hp.length_eq
  have ht : u.take i = v.take i := by
    refine nd_ext (by rw [List.length_take, List.length_take, hl]) (fun j hj => ?_)
    rw [List.length_take] at hj
    rw [List.getD_eq_getElem?_getD, List.getD_eq_getElem?_getD, List.getElem?_take_of_lt (by omega), List.getElem?_take_of_lt (by omega), ← List.getD_eq_getElem?_getD, ← List.getD_eq_getElem?_getD]
    exact ha j (by omega)
  have hd : List.Perm (u.drop i) (v.drop i) := by
    have hp2 := hp
    rw [← List.take_append_drop i u, ← List.take_append_drop i v, ht] at hp2
    exact (List.perm_append_left_iff _).mp hp2
  have hm : u.getD i 0 ∈ u.drop i := by
    rw [List.getD_eq_getElem?_getD, List.getElem?_eq_getElem hi]
    show u[i] ∈ u.drop i
    rw [List.drop_eq_getElem_cons hi]
    exact List.mem_cons_self
  obtain ⟨j, hj, ej⟩ := List.getElem_of_mem (hd.mem_iff.mp hm)
  rw [List.length_drop] at hj
  refine ⟨i + j, by omega, by omega, ?_⟩
  rw [List.getElem_drop] at ej
  rw [List.getD_eq_getElem?_getD, List.getElem?_eq_getElem (by omega)]
  exact ej
theorem sorted_min {u s : List Nat} (hp : List.Perm u s) (hs : ∀ i j, i ≤ j → j < s.length → s.getD i 0 ≤ s.getD j 0) : ¬ LxN s.length u s := by
  intro ⟨i, h1, h2, h3⟩
  have hl := hp.length_eq
  obtain ⟨j, j1, j2, j3⟩ := key_mem hp (by omega) h2
  have := hs i j j1 (by omega)
  omega
theorem desc_max {u v : List Nat} (hp : List.Perm u v) (hv : ∀ i j, i ≤ j → j < v.length → v.getD j 0 ≤ v.getD i 0) : ¬ LxN v.length v u := by
  intro ⟨i, h1, h2, h3⟩
  have hl := hp.length_eq
  obtain ⟨j, j1, j2, j3⟩ := key_mem hp (by omega) (fun j hj => (h2 j hj).symm)
  have := hv i j j1 (by omega)
  omega
def swL (v : List Nat) (i j : Nat) : List Nat := (v.set i (v.getD j 0)).set j (v.getD i 0)
theorem nset_ne {l : List Nat} {i j : Nat} (h : i ≠ j) (v : Nat) : (l.set i v).getD j 0 = l.getD j 0 := by
  rw [List.getD_eq_getElem?_getD, List.getElem?_set_ne h, ← List.getD_eq_getElem?_getD]
theorem nset_eq {l : List Nat} {i : Nat} (h : i < l.length) (v : Nat) : (l.set i v).getD i 0 = v := by
  rw [List.getD_eq_getElem?_getD, List.getElem?_set_self h]; rfl
theorem swL_len (v : List Nat) (i j : Nat) : (swL v i j).length = v.length := by rw [swL, List.length_set, List.length_set]
theorem swL_at {v : List Nat} {i j : Nat} (hi : i < v.length) (hj : j < v.length) (x : Nat) : (swL v i j).getD x 0 = if x = j then v.getD i 0 else if x = i then v.getD j 0 else v.getD x 0 := by
  rw [swL]
  by_cases h1 : x = j
  · subst h1; rw [if_pos rfl, nset_eq (by rw [List.length_set]; exact hj)]
  · rw [if_neg h1, nset_ne (fun e => h1 e.symm)]
    by_cases h2 : x = i
    · subst h2; rw [if_pos rfl, nset_eq hi]
    · rw [if_neg h2, nset_ne (fun e => h2 e.symm)]
theorem swL_perm {v : List Nat} {i j : Nat} (hi : i < v.length) (hj : j < v.length) : List.Perm (swL v i j) v := by
  have := List.set_set_perm (as := v) hi hj
  rw [swL, List.getD_eq_getElem?_getD, List.getD_eq_getElem?_getD, List.getElem?_eq_getElem hi, List.getElem?_eq_getElem hj]
  exact this
def rvF : Nat → Nat → Nat → List Nat → List Nat
  | 0, _, _, v => v
  | f + 1, a, b, v => if a < b then rvF f (a + 1) (b - 1) (swL v a b) else v
theorem rvF_ok : ∀ f a b v, b < v.length → b ≤ a + 2 * f → (rvF f a b v).length = v.length ∧ List.Perm (rvF f a b v) v ∧ ∀ x, (rvF f a b v).getD x 0 = if a ≤ x ∧ x ≤ b then v.getD (a + b - x) 0 else v.getD x 0 := by
  intro f
  induction f with
  | zero =>
    intro a b v hb hf
    refine ⟨rfl, List.Perm.refl _, fun x => ?_⟩
    rw [rvF]
    by_cases h : a ≤ x ∧ x ≤ b
    · rw [if_pos h, show a + b - x = x by omega]
    · rw [if_neg h]
  | succ f ih =>
    intro a b v hb hf
    rw [rvF]
    by_cases h : a < b
    · rw [if_pos h]
      obtain ⟨h1, h2, h3⟩ := ih (a + 1) (b - 1) (swL v a b) (by rw [swL_len]; omega) (by omega)
      refine ⟨by rw [h1, swL_len], h2.trans (swL_perm (by omega) hb), fun x => ?_⟩
      rw [h3 x]
      by_cases q : a + 1 ≤ x ∧ x ≤ b - 1
      · rw [if_pos q, if_pos (by omega), swL_at (by omega) hb, if_neg (by omega), if_neg (by omega), show a + 1 + (b - 1) - x = a + b - x by omega]
      · rw [if_neg q, swL_at (by omega) hb]
        by_cases e1 : x = b
        · subst e1; rw [if_pos rfl, if_pos (by omega), show a + x - x = a by omega]
        · rw [if_neg e1]
          by_cases e2 : x = a
          · subst e2; rw [if_pos rfl, if_pos (by omega), show x + b - x = b by omega]
          · rw [if_neg e2, if_neg (by omega)]
    · rw [if_neg h]
      refine ⟨rfl, List.Perm.refl _, fun x => ?_⟩
      by_cases q : a ≤ x ∧ x ≤ b
      · rw [if_pos q, show a + b - x = x by omega]
      · rw [if_neg q]
/-- the next row -/
def nxV (v : List Nat) (k j : Nat) : List Nat := rvF 6 (k + 1) (v.length - 1) (swL v k j)
theorem nx_ok {v : List Nat} {k j : Nat} (hn : v.length ≤ 6) (hk : k + 1 < v.length) (hkv : v.getD k 0 < v.getD (k + 1) 0) (hdec : ∀ i, k < i → i + 1 < v.length → v.getD (i + 1) 0 ≤ v.getD i 0) (hj1 : k < j) (hj2 : j < v.length) (hjv : v.getD k 0 < v.getD j 0) (hjl : ∀ i, j < i → i < v.length → v.getD i 0 ≤ v.getD k 0) : (nxV v k j).length = v.length ∧ List.Perm (nxV v k j) v ∧ LxN v.length v (nxV v k j) ∧ ∀ u, List.Perm u v → LxN v.length v u → LxN v.length (nxV v k j) u ∨ nxV v k j = u := by
  have dec : ∀ x y, k < x → x ≤ y → y < v.length → v.getD y 0 ≤ v.getD x 0 := by
    intro x y h1 h2
    induction y with
    | zero => intro h3; omega
    | succ y ih =>
      intro h3
      rcases Nat.eq_or_lt_of_le h2 with e | e
      · rw [e]; exact Nat.le_refl _
      · exact Nat.le_trans (hdec y (by omega) h3) (ih (by omega) (by omega))
  obtain ⟨r1, r2, r3⟩ := rvF_ok 6 (k + 1) (v.length - 1) (swL v k j) (by rw [swL_len]; omega) (by omega)
  have hw : ∀ x, (nxV v k j).getD x 0 = if k + 1 ≤ x ∧ x ≤ v.length - 1 then (if k + 1 + (v.length - 1) - x = j then v.getD k 0 else v.getD (k + 1 + (v.length - 1) - x) 0) else if x = k then v.getD j 0 else v.getD x 0 := by
    intro x
    rw [nxV, r3 x]
    by_cases q : k + 1 ≤ x ∧ x ≤ v.length - 1
    · rw [if_pos q, if_pos q, swL_at (by omega) hj2]
      by_cases e : k + 1 + (v.length - 1) - x = j
      · rw [if_pos e, if_pos e]
      · rw [if_neg e, if_neg e, if_neg (by omega)]
    · rw [if_neg q, if_neg q, swL_at (by omega) hj2]
      by_cases e : x = k
      · rw [if_neg (show ¬ x = j by omega), if_pos e]
      · rw [if_neg e]
        by_cases e2 : x = j
        · omega
        · rw [if_neg e2]
  have hlen : (nxV v k j).length = v.length := by rw [nxV, r1, swL_len]
  have hperm : List.Perm (nxV v k j) v := r2.trans (swL_perm (by omega) hj2)
  have wlo : ∀ i, i < k → (nxV v k j).getD i 0 = v.getD i 0 := fun i hi => by rw [hw, if_neg (show ¬ (k + 1 ≤ i ∧ i ≤ v.length - 1) by omega), if_neg (show ¬ i = k by omega)]
  have wk : (nxV v k j).getD k 0 = v.getD j 0 := by rw [hw, if_neg (show ¬ (k + 1 ≤ k ∧ k ≤ v.length - 1) by omega), if_pos (show k = k from rfl)]
  -- the end of the next row goes up
  have up : ∀ x y, k < x → x ≤ y → y < v.length → (nxV v k j).getD x 0 ≤ (nxV v k j).getD y 0 := by
    intro x y h1 h2 h3
    rw [hw x, hw y, if_pos (show k + 1 ≤ x ∧ x ≤ v.length - 1 by omega), if_pos (show k + 1 ≤ y ∧ y ≤ v.length - 1 by omega)]
    by_cases ex : k + 1 + (v.length - 1) - x = j
    · rw [if_pos ex]
      by_cases ey : k + 1 + (v.length - 1) - y = j
      · rw [if_pos ey]; exact Nat.le_refl _
      · rw [if_neg ey]
        have := dec (k + 1 + (v.length - 1) - y) j (by omega) (by omega) hj2
        omega
    · rw [if_neg ex]
      by_cases ey : k + 1 + (v.length - 1) - y = j
      · rw [if_pos ey]
        exact hjl _ (by omega) (by omega)
      · rw [if_neg ey]
        exact dec _ _ (by omega) (by omega) (by omega)
  refine ⟨hlen, hperm, ⟨k, by omega, fun i hi => (wlo i hi).symm, by rw [wk]; exact hjv⟩, fun u hu ⟨i, i1, i2, i3⟩ => ?_⟩
  have hul := hu.length_eq
  obtain ⟨j', q1, q2, q3⟩ := key_mem hu (by omega) (fun x hx => (i2 x hx).symm)
  rcases Nat.lt_trichotomy i k with h | h | h
  · exact Or.inl ⟨i, i1, fun x hx => by rw [wlo x (by omega)]; exact i2 x hx, by rw [wlo i h]; exact i3⟩
  · subst h
    have hj'k : i < j' := by
      rcases Nat.eq_or_lt_of_le q1 with e | e
      · subst e; omega
      · exact e
    have hj'j : j' ≤ j := Nat.not_lt.mp (fun z => by have := hjl j' z (by omega); omega)
    have hge := dec j' j hj'k hj'j hj2
    rcases Nat.lt_or_ge (v.getD j 0) (u.getD i 0) with e | e
    · exact Or.inl ⟨i, i1, fun x hx => by rw [wlo x hx]; exact i2 x hx, by rw [wk]; exact e⟩
    · have huk : u.getD i 0 = v.getD j 0 := by omega
      have agree : ∀ x, x ≤ i → (nxV v i j).getD x 0 = u.getD x 0 := fun x hx => by
        rcases Nat.eq_or_lt_of_le hx with e | e
        · rw [e, wk, huk]
        · rw [wlo x e]; exact i2 x e
      rcases LxN_tri (nxV v i j) u v.length with t | ⟨x, x1, x2, x3⟩ | t
      · exact Or.inl t
      · exfalso
        have hxi : i < x := Nat.not_le.mp (fun z => by have := agree x z; omega)
        obtain ⟨y, y1, y2, y3⟩ := key_mem (hu.trans hperm.symm) (by omega) x2
        have := up x y hxi y1 (by omega)
        omega
      · exact Or.inr (nd_ext (by omega) (fun x hx => t x (by omega)))
  · exfalso
    have := dec i j' h q1 (by omega)
    omega
/-- a number for a row -/
def cdL : List Nat → Nat
  | [] => 0
  | x :: r => x * 100 ^ r.length + cdL r
theorem cdL_lt : ∀ v : List Nat, (∀ x, x ∈ v → x ≤ 99) → cdL v < 100 ^ v.length := by
  intro v
  induction v with
  | nil => intro _; exact Nat.one_pos
  | cons x r ih =>
    intro h
    have h1 := ih (fun y hy => h y (List.mem_cons_of_mem _ hy))
    have h2 := h x List.mem_cons_self
    rw [cdL, List.length_cons, Nat.pow_succ]
    have := Nat.mul_le_mul_right (100 ^ r.length) h2
    omega
theorem cdL_mono : ∀ v u : List Nat, v.length = u.length → (∀ x, x ∈ v → x ≤ 99) → LxN v.length v u → cdL v < cdL u := by
  intro v
  induction v with
  | nil => intro u _ _ ⟨i, h, _⟩; exact absurd h (by simp)
  | cons x r ih =>
    intro u hl h99 ⟨i, i1, i2, i3⟩
    match u, hl with
    | y :: s, hl =>
      have hrs : r.length = s.length := by simpa using hl
      have hlt := cdL_lt r (fun z hz => h99 z (List.mem_cons_of_mem _ hz))
      rw [cdL, cdL, ← hrs]
      match i, i1, i2, i3 with
      | 0, _, _, i3 =>
        have i3 : x < y := i3
        have := Nat.mul_le_mul_right (100 ^ r.length) i3
        rw [Nat.succ_mul] at this
        omega
      | i + 1, i1, i2, i3 =>
        have e : x = y := i2 0 (by omega)
        subst e
        have := ih s hrs (fun z hz => h99 z (List.mem_cons_of_mem _ hz)) ⟨i, by simpa using i1, fun j hj => i2 (j + 1) (by omega), i3⟩
        omega
