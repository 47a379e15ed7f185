/-! PURE: sets built bit by bit; the invariant through cuts and days -/
def orS (p : Nat → Bool) : Nat → Int32 → Int32 := fun i x => if p i = true then x ||| bitI (nI i) else x
def orN (p : Nat → Bool) : Nat → Nat
  | 0 => 0
  | n + 1 => if p n = true then orN p n ||| 2 ^ n else orN p n
theorem orN_lt (p : Nat → Bool) : ∀ n, orN p n < 2 ^ n := by
  intro n
  induction n with
  | zero => exact Nat.one_pos
  | succ n ih =>
    have h1 : orN p n < 2 ^ (n + 1) := Nat.lt_trans ih (Nat.pow_lt_pow_right (by decide) (Nat.lt_succ_self n))
    rw [orN]
    split
    · exact Nat.or_lt_two_pow h1 (Nat.pow_lt_pow_right (by decide) (Nat.lt_succ_self n))
    · exact h1
theorem orN_tb (p : Nat → Bool) : ∀ n i, (orN p n).testBit i = (decide (i < n) && p i) := by
  intro n
  induction n with
  | zero => intro i; rw [orN, Nat.zero_testBit, decide_eq_false (by omega)]; rfl
  | succ n ih =>
    intro i
    rw [orN]
    by_cases hp : p n = true
    · rw [if_pos hp, Nat.testBit_or, ih, Nat.testBit_two_pow]
      by_cases e : n = i
      · subst e
        rw [decide_eq_true rfl, decide_eq_true (show n < n + 1 by omega), hp]; simp
      · rw [decide_eq_false e, Bool.or_false]
        by_cases q : i < n
        · rw [decide_eq_true q, decide_eq_true (show i < n + 1 by omega)]
        · rw [decide_eq_false q, decide_eq_false (show ¬ i < n + 1 by omega)]
    · rw [if_neg hp, ih]
      by_cases e : n = i
      · subst e
        have hp : p n = false := by simpa using hp
        rw [hp, Bool.and_false, Bool.and_false]
      · by_cases q : i < n
        · rw [decide_eq_true q, decide_eq_true (show i < n + 1 by omega)]
        · rw [decide_eq_false q, decide_eq_false (show ¬ i < n + 1 by omega)]
theorem orS_N (p : Nat → Bool) : ∀ n, n ≤ 8 → iter (orS p) n 0 (nI 0) = nI (orN p n) := by
  intro n
  induction n with
  | zero => intro _; rfl
  | succ n ih =>
    intro h
    rw [iter_succ, ih (by omega), Nat.zero_add, orS, orN]
    split
    · rw [(S8_bit n (by omega)).1, nI_or]
    · rfl
def lasP (kd ln : List Int32) (w : Nat) (day : Int32) : Nat → Bool := fun i => decide (hasI (nI w) (nI i) = true ∧ (endB kd i = true ∨ day < ln.getD i 0))
theorem last_N {kd ln : List Int32} {n w : Nat} (hn : n ≤ 8) (day : Int32) : lastI kd ln n (nI w) day = nI (orN (lasP kd ln w day) n) := by
  rw [lastI, ← orS_N _ n hn]
  congr 1
  funext i x
  rw [lastS, orS, lasP]
  by_cases h : hasI (nI w) (nI i) = true ∧ (endB kd i = true ∨ day < ln.getD i 0)
  · rw [if_pos h, if_pos (decide_eq_true h)]
  · rw [if_neg h, if_neg (by rw [decide_eq_false h]; decide)]
theorem tb_lt {w n i : Nat} (h : w < 2 ^ n) (hb : w.testBit i = true) : i < n := by
  rcases Nat.lt_or_ge i n with q | q
  · exact q
  · rw [Nat.testBit_lt_two_pow (Nat.lt_of_lt_of_le h (Nat.pow_le_pow_right (by decide) q))] at hb
    cases hb
theorem LoI.cut {n : Nat} {kd ln : List Int32} {x : LoS} (hn : n ≤ 8) (h : LoI n kd ln x) {t : Nat} (ht : t < n) : LoI n kd ln (cutS n kd ln t x) := by
  obtain ⟨⟨l1, l2, l3, l4⟩, ⟨ho, hk, ha, hs⟩, hz, w, c, dd, hw, hw2, hc, hc2, hday, hd9, hdis, hlen⟩ := h
  have hw3 := pow_256 hn hw2
  obtain ⟨f, f1, f2, f3⟩ := fall_sub (kd := kd) ho hk hw3 (i := t) (by omega)
  have hcs : cutS n kd ln t x = (lDay x, lLost x + lossI kd ln n (nI f) (lDay x), lWhole x &&& (nI f ^^^ (-1)), lCut x ||| nI f, lCol x, lOv x, lKn x, iter (cdS (nI f) (lDay x)) 8 0 (lCd x)) := by
    rw [cutS]
    rw [hw, f2]
    rw [← hw]
  rw [hcs]
  have hf2 : f < 2 ^ n := by
    apply Nat.lt_pow_two_of_testBit
    intro i hi
    cases hq : f.testBit i with
    | false => rfl
    | true => exact absurd (tb_lt hw2 (f3 i hq)) (by omega)
  refine ⟨⟨l1, (cdS_len _ _ 8 0 _).trans l2, l3, l4⟩, ⟨ho, hk, ha, hs⟩, hz, w &&& (f ^^^ (2 ^ 32 - 1)), c ||| f, dd, ?_, Nat.lt_of_le_of_lt Nat.and_le_left hw2, ?_, Nat.or_lt_two_pow hc2 hf2, hday, hd9, fun i hi => ?_, fun i hi he => ⟨fun hb => ?_, fun hb => ?_⟩⟩
  · show lWhole x &&& (nI f ^^^ (-1)) = _
    rw [hw, nI_dif]
  · show lCut x ||| nI f = _
    rw [hc, nI_or]
  · have hiw : w.testBit i = true := by rw [Nat.testBit_and, Bool.and_eq_true] at hi; exact hi.1
    rw [dif_tb w f (by have := tb_lt hw2 hiw; omega), hiw, Bool.true_and] at hi
    rw [Nat.testBit_or, hdis i hiw]
    simpa using hi
  · rw [dif_tb w f (by omega), Bool.and_eq_true] at hb
    exact (hlen i hi he).1 hb.1
  · show ∃ k, (iter (cdS (nI f) (lDay x)) 8 0 (lCd x)).getD i 0 = nI k ∧ _
    rw [cdS_at _ _ 8 0 _ i rfl l2 (by omega) (by omega), hasI_tb f f1 i (by omega)]
    cases hq : f.testBit i with
    | true =>
      rw [if_pos rfl]
      exact ⟨dd, hday, (hlen i hi he).1 (f3 i hq)⟩
    | false =>
      rw [if_neg (by decide)]
      rw [Nat.testBit_or, hq, Bool.or_false] at hb
      exact (hlen i hi he).2 hb
theorem cutS_day (n : Nat) (kd ln : List Int32) (i : Nat) (x : LoS) : lDay (cutS n kd ln i x) = lDay x := rfl
theorem LoI.ord {n : Nat} {kd ln ot od : List Int32} {x : LoS} (hn : n ≤ 8) (h : LoI n kd ln x) {o : Nat} (ho : ∃ j, ot.getD o 0 = nI j ∧ j < n) : LoI n kd ln (ordS n kd ln ot od o x) := by
  obtain ⟨j, ej, hj⟩ := ho
  rw [ordS]
  split
  · rw [ej, sv_nI (by omega)]
    exact h.cut hn hj
  · exact h
theorem ordS_day (n : Nat) (kd ln ot od : List Int32) (o : Nat) (x : LoS) : lDay (ordS n kd ln ot od o x) = lDay x := by
  rw [ordS]
  split <;> rfl
theorem ords_day (n : Nat) (kd ln ot od : List Int32) : ∀ m k x, lDay (iter (ordS n kd ln ot od) m k x) = lDay x := by
  intro m
  induction m with
  | zero => intro k x; rfl
  | succ m ih => intro k x; rw [iter, ih, ordS_day]
theorem LoI.ords {n m : Nat} {kd ln ot od : List Int32} {x : LoS} (hn : n ≤ 8) (h : LoI n kd ln x) (ho : ∀ o, o < m → ∃ j, ot.getD o 0 = nI j ∧ j < n) : LoI n kd ln (iter (ordS n kd ln ot od) m 0 x) :=
  iter_inv (ordS n kd ln ot od) m (fun _ y => LoI n kd ln y) (fun k y hk hy => hy.ord hn (ho k hk)) m 0 x (by omega) h
theorem sv_day {n : Nat} {kd ln : List Int32} {x : LoS} (h : LoI n kd ln x) : lDay x = nI (sv (lDay x)) ∧ sv (lDay x) ≤ 999 := by
  obtain ⟨-, -, -, w, c, dd, hw, hw2, hc, hc2, hday, hd9, -⟩ := h
  rw [hday, sv_nI (by omega)]
  exact ⟨rfl, hd9⟩
theorem LoI.last {n : Nat} {kd ln : List Int32} {x : LoS} (hn : n ≤ 8) (hl : ∀ i, i < n → ∃ l, ln.getD i 0 = nI l ∧ 1 ≤ l ∧ l ≤ 60) (h : LoI n kd ln x) (h9 : sv (lDay x) < 999) : LoI n kd ln (x.1 + nI 1, x.2.1, lastI kd ln n x.2.2.1 (x.1 + nI 1), x.2.2.2) := by
  obtain ⟨hA, hB, hz, w, c, dd, hw, hw2, hc, hc2, hday, hd9, hdis, hlen⟩ := h
  have hdd : sv (lDay x) = dd := by rw [hday, sv_nI (by omega)]
  have hd1 : x.1 + nI 1 = nI (dd + 1) := by rw [show x.1 = nI dd from hday, nI_add]
  have hws : ∀ i, (orN (lasP kd ln w (nI (dd + 1))) n).testBit i = true → w.testBit i = true ∧ i < n ∧ (endB kd i = true ∨ nI (dd + 1) < ln.getD i 0) := fun i hi => by
    rw [orN_tb, Bool.and_eq_true, decide_eq_true_eq] at hi
    obtain ⟨h1, h2⟩ := hi
    have h2 := of_decide_eq_true h2
    rw [hasI_tb w (pow_256 hn hw2) i (by omega)] at h2
    exact ⟨h2.1, h1, h2.2⟩
  refine ⟨hA, hB, hz, orN (lasP kd ln w (nI (dd + 1))) n, c, dd + 1, ?_, orN_lt _ n, hc, hc2, hd1, by omega, fun i hi => hdis i (hws i hi).1, fun i hi he => ⟨fun hb => ?_, fun hb => (hlen i hi he).2 hb⟩⟩
  · show lastI kd ln n x.2.2.1 (x.1 + nI 1) = _
    rw [hd1, show x.2.2.1 = nI w from hw, last_N hn]
  · obtain ⟨-, -, h3⟩ := hws i hb
    rw [he] at h3
    have h3 := h3.resolve_left (by decide)
    obtain ⟨l, el, l1, l60⟩ := hl i hi
    rw [el] at h3 ⊢
    rw [sv_nI (by omega)]
    exact (nI_ltI (by omega) (by omega)).mp h3
theorem LoI.day {n m : Nat} {kd ln ot od : List Int32} {x : LoS} (hn : n ≤ 8) (hl : ∀ i, i < n → ∃ l, ln.getD i 0 = nI l ∧ 1 ≤ l ∧ l ≤ 60) (h : LoI n kd ln x) (ho : ∀ o, o < m → ∃ j, ot.getD o 0 = nI j ∧ j < n) (h9 : sv (lDay x) < 999) : LoI n kd ln (dayS n m kd ln ot od x) ∧ lDay (dayS n m kd ln ot od x) = nI (sv (lDay x) + 1) := by
  refine ⟨?_, ?_⟩
  · rw [dayS]
    exact (h.ords hn ho).last hn hl (by rw [ords_day]; exact h9)
  · show lDay (iter (ordS n kd ln ot od) m 0 x) + nI 1 = _
    rw [ords_day, (sv_day h).1, nI_add, sv_nI (by have := (sv_day h).2; omega)]
/-! the reference's running out -/
def runS (kd ln : List Int32) : Nat → List Int32 → List Int32 := fun t l => if l.getD (8 + t) 0 = 0 ∧ endB kd t = false ∧ ln.getD t 0 ≤ l.getD 40 0 then l.set (8 + t) 2 else l
theorem runS_len (kd ln : List Int32) : ∀ n k l, (iter (runS kd ln) n k l).length = l.length := by
  intro n
  induction n with
  | zero => intro k l; rfl
  | succ n ih =>
    intro k l
    rw [iter, ih, runS]
    split
    · rw [List.length_set]
    · rfl
theorem runS_o (kd ln : List Int32) : ∀ n k l j, k + n ≤ 8 → (j < 8 + k ∨ 8 + k + n ≤ j) → (iter (runS kd ln) n k l).getD j 0 = l.getD j 0 := by
  intro n
  induction n with
  | zero => intro k l j _ _; rfl
  | succ n ih =>
    intro k l j h hj
    rw [iter, ih (k + 1) _ j (by omega) (by omega), runS]
    split
    · rw [getD_set_ne (by omega)]
    · rfl
theorem runS_8 (kd ln : List Int32) : ∀ n k l i, k + n ≤ 8 → l.length = 42 → k ≤ i → i < k + n → (iter (runS kd ln) n k l).getD (8 + i) 0 = if l.getD (8 + i) 0 = 0 ∧ endB kd i = false ∧ ln.getD i 0 ≤ l.getD 40 0 then 2 else l.getD (8 + i) 0 := by
  intro n
  induction n with
  | zero => intro k l i _ _ h1 h2; omega
  | succ n ih =>
    intro k l i h hl h1 h2
    rw [iter]
    rcases Nat.eq_or_lt_of_le h1 with e | e
    · subst e
      rw [runS_o kd ln n (k + 1) _ _ (by omega) (by omega), runS]
      split
      · rw [getD_set_eq (by omega)]
      · rfl
    · have hl2 : (runS kd ln k l).length = 42 := (runS_len kd ln 1 k l).trans hl
      have e1 : (runS kd ln k l).getD (8 + i) 0 = l.getD (8 + i) 0 := runS_o kd ln 1 k l _ (by omega) (by omega)
      have e2 : (runS kd ln k l).getD 40 0 = l.getD 40 0 := runS_o kd ln 1 k l _ (by omega) (by omega)
      rw [ih (k + 1) _ i (by omega) hl2 e (by omega), e1, e2]
theorem enc_run {n : Nat} {kd ln : List Int32} {x : LoS} (hn : n ≤ 8) (h : LoI n kd ln x) (day : Int32) : iter (runS kd ln) n 0 (enc n (day, x.2)) = enc n (day, x.2.1, lastI kd ln n x.2.2.1 day, x.2.2.2) := by
  obtain ⟨⟨l1, l2, l3, l4⟩, hB, hz, w, c, dd, hw, hw2, hc, hc2, hday, hd9, hdis, hlen⟩ := h
  have hw3 := pow_256 hn hw2
  have hE : (enc n (day, x.2)).length = 42 := enc_len (x := (day, x.2)) l1 l2 l3 l4
  have ed := enc_day (n := n) (x := (day, x.2)) l1 l2 l3 l4
  refine enc_of (x := (day, x.2.1, lastI kd ln n x.2.2.1 day, x.2.2.2)) l1 l2 l3 l4 ((runS_len _ _ n 0 _).trans hE) (fun i hi => ?_) (fun i hi => ?_) (fun i hi => ?_) (fun i hi => ?_) (fun i hi => ?_) ?_ ?_
  · rw [runS_o _ _ n 0 _ _ (by omega) (by omega)]; exact enc_col (x := (day, x.2)) l1 hi
  · show _ = if i < n then (if hasI (lastI kd ln n x.2.2.1 day) (nI i) = true then 0 else if hasI (lCut x) (nI i) = true then 1 else 2) else 0
    rw [show x.2.2.1 = nI w from hw, last_N hn, hasI_tb _ (pow_256 hn (orN_lt _ n)) i hi, orN_tb]
    by_cases h7 : i < n
    · rw [runS_8 _ _ n 0 _ i (by omega) hE (by omega) (by omega), ed.1, enc_how (x := (day, x.2)) l1 hi, if_pos h7, decide_eq_true h7, Bool.true_and]
      have hh : howI n (day, x.2) i = if w.testBit i = true then 0 else if c.testBit i = true then 1 else 2 := by
        show (if i < n then (if hasI (lWhole x) (nI i) = true then 0 else if hasI (lCut x) (nI i) = true then 1 else 2) else 0) = _
        rw [if_pos h7, hw, hc, hasI_tb w hw3 i hi, hasI_tb c (pow_256 hn hc2) i hi]
      rw [hh, lasP, hasI_tb w hw3 i hi, hc, hasI_tb c (pow_256 hn hc2) i hi]
      cases hq : w.testBit i with
      | true =>
        rw [hdis i hq]
        by_cases hr : endB kd i = false ∧ ln.getD i 0 ≤ day
        · rw [if_pos ⟨by simp, hr⟩, if_neg (by
            rw [decide_eq_false (fun z => z.2.elim (fun z => by rw [hr.1] at z; cases z) (fun z => absurd z (Int32.not_lt.mpr hr.2)))]
            decide)]
          simp
        · rw [if_neg (fun z => hr z.2), if_pos rfl, if_pos (decide_eq_true ⟨rfl, by
            cases he : endB kd i with
            | true => exact Or.inl rfl
            | false => exact Or.inr (Int32.not_le.mp (fun z => hr ⟨he, z⟩))⟩)]
      | false =>
        rw [show decide (false = true ∧ (endB kd i = true ∨ day < ln.getD i 0)) = false from decide_eq_false (fun z => by cases z.1)]
        rw [if_neg (show ¬ ((if false = true then (0 : Int32) else if c.testBit i = true then 1 else 2) = 0 ∧ endB kd i = false ∧ ln.getD i 0 ≤ day) by
          intro z
          have z := z.1
          revert z
          rw [if_neg (by decide)]
          split <;> decide)]
    · rw [runS_o _ _ n 0 _ _ (by omega) (by omega), enc_how (x := (day, x.2)) l1 hi, if_neg h7]
      show (if i < n then _ else _) = _
      rw [if_neg h7]
  · rw [runS_o _ _ n 0 _ _ (by omega) (by omega)]; exact enc_cd (x := (day, x.2)) l1 l2 hi
  · rw [runS_o _ _ n 0 _ _ (by omega) (by omega)]; exact enc_ov (x := (day, x.2)) l1 l2 l3 hi
  · rw [runS_o _ _ n 0 _ _ (by omega) (by omega)]; exact enc_kn (x := (day, x.2)) l1 l2 l3 l4 hi
  · rw [runS_o _ _ n 0 _ _ (by omega) (by omega)]; exact ed.1
  · rw [runS_o _ _ n 0 _ _ (by omega) (by omega)]; exact ed.2
