/-! PURE: the row behind a cut tells the loom behind the cut -/
theorem getD_set_ne {l : List Int32} {i j : Nat} (h : i ≠ j) (v : Int32) : (l.set i v).getD j 0 = l.getD j 0 := by
  rw [List.getD_eq_getElem?_getD, List.getElem?_set_ne h, ← List.getD_eq_getElem?_getD]
theorem getD_set_eq {l : List Int32} {i : Nat} (h : i < l.length) (v : Int32) : (l.set i v).getD i 0 = v := by
  rw [List.getD_eq_getElem?_getD, List.getElem?_set_self h]; rfl
theorem getD_ext {l m : List Int32} (hl : l.length = m.length) (h : ∀ j, j < l.length → l.getD j 0 = m.getD j 0) : l = m := by
  apply List.ext_getElem hl
  intro j h1 h2
  have := h j h1
  rw [List.getD_eq_getElem?_getD, List.getD_eq_getElem?_getD, List.getElem?_eq_getElem h1, List.getElem?_eq_getElem h2] at this
  exact this
theorem enc_len {n : Nat} {x : LoS} (h : (lCol x).length = 8) (h2 : (lCd x).length = 8) (h3 : (lOv x).length = 8) (h4 : (lKn x).length = 8) : (enc n x).length = 42 := by
  simp only [enc, List.length_append, List.length_map, List.length_range, List.length_cons, List.length_nil]
  omega
theorem enc_of {n : Nat} {x : LoS} {l : List Int32} (h : (lCol x).length = 8) (h2 : (lCd x).length = 8) (h3 : (lOv x).length = 8) (h4 : (lKn x).length = 8) (hl : l.length = 42) (a1 : ∀ i, i < 8 → l.getD (0 + i) 0 = (lCol x).getD i 0) (a2 : ∀ i, i < 8 → l.getD (8 + i) 0 = howI n x i) (a3 : ∀ i, i < 8 → l.getD (16 + i) 0 = (lCd x).getD i 0) (a4 : ∀ i, i < 8 → l.getD (24 + i) 0 = (lOv x).getD i 0) (a5 : ∀ i, i < 8 → l.getD (32 + i) 0 = (lKn x).getD i 0) (a6 : l.getD 40 0 = lDay x) (a7 : l.getD 41 0 = lLost x) : l = enc n x := by
  refine getD_ext (by rw [hl, enc_len h h2 h3 h4]) (fun j hj => ?_)
  rw [hl] at hj
  rcases Nat.lt_or_ge j 8 with q | q
  · rw [show j = 0 + j by omega, a1 j q, enc_col h q]
  rcases Nat.lt_or_ge j 16 with q2 | q2
  · rw [show j = 8 + (j - 8) by omega, a2 _ (by omega), enc_how h (by omega)]
  rcases Nat.lt_or_ge j 24 with q3 | q3
  · rw [show j = 16 + (j - 16) by omega, a3 _ (by omega), enc_cd h h2 (by omega)]
  rcases Nat.lt_or_ge j 32 with q4 | q4
  · rw [show j = 24 + (j - 24) by omega, a4 _ (by omega), enc_ov h h2 h3 (by omega)]
  rcases Nat.lt_or_ge j 40 with q5 | q5
  · rw [show j = 32 + (j - 32) by omega, a5 _ (by omega), enc_kn h h2 h3 h4 (by omega)]
  rcases Nat.eq_or_lt_of_le q5 with e | e
  · rw [← e, a6, (enc_day h h2 h3 h4).1]
  · rw [show j = 41 by omega, a7, (enc_day h h2 h3 h4).2]
theorem mcQ_len (set day : Int32) : ∀ n k l, (iter (mcQ set day) n k l).length = l.length := by
  intro n
  induction n with
  | zero => intro k l; rfl
  | succ n ih =>
    intro k l
    rw [iter, ih, mcQ]
    split
    · rw [List.length_set, List.length_set]
    · rfl
theorem mcQ_o (set day : Int32) : ∀ n k l j, k + n ≤ 8 → (j < 8 ∨ 24 ≤ j ∨ (8 ≤ j ∧ j < 8 + k) ∨ (16 ≤ j ∧ j < 16 + k)) → (iter (mcQ set day) n k l).getD j 0 = l.getD j 0 := by
  intro n
  induction n with
  | zero => intro k l j _ _; rfl
  | succ n ih =>
    intro k l j h hj
    rw [iter, ih (k + 1) _ j (by omega) (by omega), mcQ]
    split
    · rw [getD_set_ne (by omega), getD_set_ne (by omega)]
    · rfl
theorem mcQ_8 (set day : Int32) : ∀ n k l i, k + n ≤ 8 → l.length = 42 → k ≤ i → i < 8 → (iter (mcQ set day) n k l).getD (8 + i) 0 = if i < k + n ∧ hasI set (nI i) = true then 1 else l.getD (8 + i) 0 := by
  intro n
  induction n with
  | zero => intro k l i _ _ h1 h2; rw [if_neg (fun q => absurd q.1 (by omega))]; rfl
  | succ n ih =>
    intro k l i h hl h1 h2
    have hl2 : (mcQ set day k l).length = 42 := (mcQ_len set day 1 k l).trans hl
    rw [iter]
    rcases Nat.eq_or_lt_of_le h1 with e | e
    · subst e
      rw [mcQ_o set day n (k + 1) _ (8 + k) (by omega) (by omega), mcQ]
      by_cases hb : hasI set (nI k) = true
      · rw [if_pos hb, if_pos ⟨by omega, hb⟩, getD_set_ne (by omega), getD_set_eq (by omega)]
      · rw [if_neg hb, if_neg (fun q => hb q.2)]
    · rw [ih (k + 1) _ i (by omega) hl2 e h2, show k + 1 + n = k + (n + 1) by omega]
      congr 1
      rw [mcQ]
      split
      · rw [getD_set_ne (by omega), getD_set_ne (by omega)]
      · rfl
theorem mcQ_16 (set day : Int32) : ∀ n k l i, k + n ≤ 8 → l.length = 42 → k ≤ i → i < 8 → (iter (mcQ set day) n k l).getD (16 + i) 0 = if i < k + n ∧ hasI set (nI i) = true then day else l.getD (16 + i) 0 := by
  intro n
  induction n with
  | zero => intro k l i _ _ h1 h2; rw [if_neg (fun q => absurd q.1 (by omega))]; rfl
  | succ n ih =>
    intro k l i h hl h1 h2
    have hl2 : (mcQ set day k l).length = 42 := (mcQ_len set day 1 k l).trans hl
    rw [iter]
    rcases Nat.eq_or_lt_of_le h1 with e | e
    · subst e
      rw [mcQ_o set day n (k + 1) _ (16 + k) (by omega) (by omega), mcQ]
      by_cases hb : hasI set (nI k) = true
      · rw [if_pos hb, if_pos ⟨by omega, hb⟩, getD_set_eq (by rw [List.length_set]; omega)]
      · rw [if_neg hb, if_neg (fun q => hb q.2)]
    · rw [ih (k + 1) _ i (by omega) hl2 e h2, show k + 1 + n = k + (n + 1) by omega]
      congr 1
      rw [mcQ]
      split
      · rw [getD_set_ne (by omega), getD_set_ne (by omega)]
      · rfl
theorem cdS_len (set day : Int32) : ∀ n k l, (iter (cdS set day) n k l).length = l.length := by
  intro n
  induction n with
  | zero => intro k l; rfl
  | succ n ih =>
    intro k l
    rw [iter, ih, cdS]
    split
    · rw [List.length_set]
    · rfl
theorem cdS_o (set day : Int32) : ∀ n k l j, j < k → (iter (cdS set day) n k l).getD j 0 = l.getD j 0 := by
  intro n
  induction n with
  | zero => intro k l j _; rfl
  | succ n ih =>
    intro k l j h
    rw [iter, ih (k + 1) _ j (by omega), cdS]
    split
    · rw [getD_set_ne (by omega)]
    · rfl
theorem cdS_at (set day : Int32) : ∀ n k l i, k + n = 8 → l.length = 8 → k ≤ i → i < 8 → (iter (cdS set day) n k l).getD i 0 = if hasI set (nI i) = true then day else l.getD i 0 := by
  intro n
  induction n with
  | zero => intro k l i h0 _ h1 h2; omega
  | succ n ih =>
    intro k l i h hl h1 h2
    have hl2 : (cdS set day k l).length = 8 := (cdS_len set day 1 k l).trans hl
    rw [iter]
    rcases Nat.eq_or_lt_of_le h1 with e | e
    · subst e
      rw [cdS_o set day n (k + 1) _ k (by omega), cdS]
      by_cases hb : hasI set (nI k) = true
      · rw [if_pos hb, if_pos hb, getD_set_eq (by omega)]
      · rw [if_neg hb, if_neg hb]
    · rw [ih (k + 1) _ i (by omega) hl2 e h2]
      congr 1
      rw [cdS]
      split
      · rw [getD_set_ne (by omega)]
      · rfl
