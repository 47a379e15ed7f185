/-! SWAPPED: days told by whole and loss alone -/
abbrev WLs : Type := Int32 × Int32
def cuP (q : DlE) (d : Int32) (o : Nat) (p : WLs) : WLs := (p.1 &&& (fallQ q p.1 o ^^^ (-1)), p.2 + lossI (qKd q) (qLn q) (qN q) (fallQ q p.1 o) d)
def odP (q : DlE) (g : Nat → Nat) (com : Nat → Bool) (d : Nat) : Nat → WLs → WLs := fun o p => if com o = true ∧ g o = d then cuP q (nI d) o p else p
def laP (q : DlE) (d : Nat) (p : WLs) : WLs := (lastI (qKd q) (qLn q) (qN q) p.1 (nI d), p.2)
def siP (q : DlE) (g : Nat → Nat) (com : Nat → Bool) : Nat → Nat → WLs → WLs
  | 0, _, p => p
  | c + 1, d, p => siP q g com c (d + 1) (laP q (d + 1) (iter (odP q g com d) (qM q) 0 p))
/-- what the sets ask -/
def QOk (q : DlE) : Prop := qN q ≤ 8 ∧ qM q ≤ 6 ∧ okS (qOv q) ∧ okS (qKn q) ∧ (∀ i, i < qN q → ∃ l, (qLn q).getD i 0 = nI l ∧ 1 ≤ l ∧ l ≤ 60) ∧ ∀ o, o < qM q → ∃ j, (qOt q).getD o 0 = nI j ∧ j < qN q
def FilW (q : DlE) (d : Nat) (x : Int32) : Prop := ∃ w, x = nI w ∧ w < 2 ^ qN q ∧ ∀ i, w.testBit i = true → endB (qKd q) i = true ∨ nI d < (qLn q).getD i 0
theorem last_fil {q : DlE} (hq : QOk q) {d : Nat} {x : Int32} (h : FilW q d x) : lastI (qKd q) (qLn q) (qN q) x (nI d) = x := by
  obtain ⟨w, rfl, hw, hf⟩ := h
  rw [last_N hq.1]
  congr 1
  apply Nat.eq_of_testBit_eq
  intro i
  rw [orN_tb, lasP]
  cases hb : w.testBit i with
  | true =>
    have hi := tb_lt hw hb
    rw [decide_eq_true hi, Bool.true_and]
    have := hq.1
    exact decide_eq_true ⟨by rw [hasI_tb w (pow_256 hq.1 hw) i (by omega)]; exact hb, hf i hb⟩
  | false =>
    by_cases hi : i < qN q
    · have := hq.1
      rw [decide_eq_true hi, Bool.true_and]
      exact decide_eq_false (fun z => by rw [hasI_tb w (pow_256 hq.1 hw) i (by omega), hb] at z; cases z.1)
    · rw [decide_eq_false hi, Bool.false_and]
theorem last_at {q : DlE} (hq : QOk q) {w : Nat} (hw : w < 2 ^ qN q) (d : Nat) : FilW q d (lastI (qKd q) (qLn q) (qN q) (nI w) (nI d)) := by
  rw [last_N hq.1]
  refine ⟨_, rfl, orN_lt _ _, fun i hi => ?_⟩
  rw [orN_tb, Bool.and_eq_true] at hi
  exact (of_decide_eq_true hi.2).2
theorem las_tb {kd ln : List Int32} {n w i : Nat} (hn : n ≤ 8) (hw : w < 256) (day : Int32) : (orN (lasP kd ln w day) n).testBit i = true ↔ i < n ∧ w.testBit i = true ∧ (endB kd i = true ∨ day < ln.getD i 0) := by
  rw [orN_tb, Bool.and_eq_true, decide_eq_true_eq]
  constructor
  · intro ⟨h1, h2⟩
    have h2 := of_decide_eq_true h2
    rw [hasI_tb w hw i (by omega)] at h2
    exact ⟨h1, h2⟩
  · intro ⟨h1, h2, h3⟩
    refine ⟨h1, decide_eq_true ⟨?_, h3⟩⟩
    rw [hasI_tb w hw i (by omega)]
    exact h2
theorem last_len {q : DlE} (hq : QOk q) {d e : Nat} (hde : d ≤ e) (he : e ≤ 999) {i : Nat} (hi : i < qN q) (z : nI e < (qLn q).getD i 0) : nI d < (qLn q).getD i 0 := by
  obtain ⟨l, el, l1, l60⟩ := hq.2.2.2.2.1 i hi
  rw [el] at z ⊢
  have := (nI_ltI (by omega) (by omega)).mp z
  exact nI_lt (by omega) (by omega)
theorem last_last {q : DlE} (hq : QOk q) {w : Nat} (hw : w < 2 ^ qN q) {d e : Nat} (hde : d ≤ e) (he : e ≤ 999) : lastI (qKd q) (qLn q) (qN q) (lastI (qKd q) (qLn q) (qN q) (nI w) (nI d)) (nI e) = lastI (qKd q) (qLn q) (qN q) (nI w) (nI e) := by
  have hn := hq.1
  have hw3 := pow_256 hn hw
  have hv3 := pow_256 hn (orN_lt (lasP (qKd q) (qLn q) w (nI d)) (qN q))
  have e1 := last_N (kd := qKd q) (ln := qLn q) (w := w) hn (nI d)
  have e2 := last_N (kd := qKd q) (ln := qLn q) (w := orN (lasP (qKd q) (qLn q) w (nI d)) (qN q)) hn (nI e)
  have e3 := last_N (kd := qKd q) (ln := qLn q) (w := w) hn (nI e)
  have key : orN (lasP (qKd q) (qLn q) (orN (lasP (qKd q) (qLn q) w (nI d)) (qN q)) (nI e)) (qN q) = orN (lasP (qKd q) (qLn q) w (nI e)) (qN q) := by
    apply Nat.eq_of_testBit_eq
    intro i
    rw [Bool.eq_iff_iff, las_tb hn hv3, las_tb hn hw3, las_tb hn hw3]
    constructor
    · intro ⟨h1, ⟨_, h2, _⟩, h3⟩; exact ⟨h1, h2, h3⟩
    · intro ⟨h1, h2, h3⟩; exact ⟨h1, ⟨h1, h2, h3.imp id (last_len hq hde he h1)⟩, h3⟩
  rw [e1, e2, e3, key]
theorem FilW.mono {q : DlE} (hq : QOk q) {d e : Nat} {x : Int32} (h : FilW q e x) (hde : d ≤ e) (he : e ≤ 999) : FilW q d x := by
  obtain ⟨w, rfl, hw, hf⟩ := h
  refine ⟨w, rfl, hw, fun i hi => (hf i hi).imp id (fun z => ?_)⟩
  obtain ⟨l, el, l1, l60⟩ := hq.2.2.2.2.1 i (tb_lt hw hi)
  rw [el] at z ⊢
  have := (nI_ltI (by omega) (by omega)).mp z
  exact nI_lt (by omega) (by omega)
theorem fallQ_sub {q : DlE} (hq : QOk q) {w : Nat} (hw : w < 2 ^ qN q) {o : Nat} (ho : o < qM q) : ∃ f, f < 256 ∧ fallQ q (nI w) o = nI f ∧ Sb f w := by
  obtain ⟨j, ej, hj⟩ := hq.2.2.2.2.2 o ho
  have := hq.1
  rw [fallQ, ej, sv_nI (by omega)]
  exact fall_sub hq.2.2.1 hq.2.2.2.1 (pow_256 hq.1 hw) (by omega)
theorem cu_fil {q : DlE} (hq : QOk q) {d : Nat} {p : WLs} (h : FilW q d p.1) {o : Nat} (ho : o < qM q) (e : Int32) : FilW q d (cuP q e o p).1 := by
  obtain ⟨w, hw, hw2, hf⟩ := h
  obtain ⟨f, f1, f2, f3⟩ := fallQ_sub hq hw2 ho
  refine ⟨w &&& (f ^^^ (2 ^ 32 - 1)), ?_, Nat.lt_of_le_of_lt Nat.and_le_left hw2, fun i hi => hf i ?_⟩
  · show p.1 &&& (fallQ q p.1 o ^^^ (-1)) = _
    rw [hw, f2, nI_dif]
  · rw [Nat.testBit_and, Bool.and_eq_true] at hi
    exact hi.1
theorem cu_los {q : DlE} (hq : QOk q) {d : Nat} (hd : d ≤ 999) {p : WLs} {L : Nat} (hL : p.2 = nI L) (o : Nat) : ∃ L', L ≤ L' ∧ L' ≤ L + 960 ∧ (cuP q (nI d) o p).2 = nI L' := by
  obtain ⟨r1, r2⟩ := loss_N (kd := qKd q) hq.2.2.2.2.1 hd (fallQ q p.1 o)
  have := hq.1
  refine ⟨L + iter (losN (qKd q) (qLn q) (fallQ q p.1 o) d) (qN q) 0 0, by omega, by omega, ?_⟩
  show p.2 + lossI (qKd q) (qLn q) (qN q) (fallQ q p.1 o) (nI d) = _
  rw [hL, r1, nI_add]
theorem od_no {q : DlE} {g : Nat → Nat} {com : Nat → Bool} {d : Nat} : ∀ n k p, (∀ o, k ≤ o → o < k + n → ¬ (com o = true ∧ g o = d)) → iter (odP q g com d) n k p = p := by
  intro n
  induction n with
  | zero => intro k p _; rfl
  | succ n ih =>
    intro k p h
    rw [iter, odP, if_neg (h k (by omega) (by omega))]
    exact ih (k + 1) p (fun o h1 h2 => h o (by omega) (by omega))
theorem iter_add {σ : Type} (f : Nat → σ → σ) : ∀ a b k x, iter f (a + b) k x = iter f b (k + a) (iter f a k x) := by
  intro a
  induction a with
  | zero => intro b k x; rw [Nat.zero_add]; rfl
  | succ a ih =>
    intro b k x
    rw [show a + 1 + b = (a + b) + 1 by omega, iter, ih b (k + 1) (f k x), iter, show k + 1 + a = k + (a + 1) by omega]
theorem iter_cg {σ : Type} {f g : Nat → σ → σ} : ∀ n k x, (∀ j y, k ≤ j → j < k + n → f j y = g j y) → iter f n k x = iter g n k x := by
  intro n
  induction n with
  | zero => intro k x _; rfl
  | succ n ih =>
    intro k x h
    rw [iter, iter, h k x (by omega) (by omega)]
    exact ih (k + 1) _ (fun j y h1 h2 => h j y (by omega) (by omega))
theorem si_skip {q : DlE} (hq : QOk q) {g : Nat → Nat} {com : Nat → Bool} {d0 : Nat} (h9 : d0 ≤ 999) : ∀ k c d p, d + k = d0 → FilW q d p.1 → (∀ o, o < qM q → com o = true → d0 ≤ g o) → siP q g com (k + c) d p = siP q g com c d0 (laP q d0 p) := by
  intro k
  induction k with
  | zero =>
    intro c d p hk hf _
    have : d = d0 := by omega
    subst this
    rw [Nat.zero_add, laP, last_fil hq hf]
  | succ k ih =>
    intro c d p hk hf hg
    obtain ⟨w, hw, hw2, hf2⟩ := id hf
    rw [show k + 1 + c = (k + c) + 1 by omega, siP, od_no (qM q) 0 p (fun o _ h2 z => by have := hg o (by omega) z.1; omega)]
    rw [ih c (d + 1) (laP q (d + 1) p) (by omega) (by rw [laP, hw]; exact last_at hq hw2 _) hg]
    congr 1
    rw [laP, laP, laP]
    dsimp only
    rw [hw, last_last hq hw2 (by omega) (by omega)]
theorem si_cong {q : DlE} {g : Nat → Nat} {com com' : Nat → Bool} : ∀ c d p, (∀ o, o < qM q → d ≤ g o → com o = com' o) → siP q g com c d p = siP q g com' c d p := by
  intro c
  induction c with
  | zero => intro d p _; rfl
  | succ c ih =>
    intro d p h
    rw [siP, siP, ih (d + 1) _ (fun o ho hg => h o ho (by omega))]
    congr 2
    refine iter_cg _ _ _ (fun j y _ hj => ?_)
    rw [odP, odP]
    by_cases hg : g j = d
    · rw [h j (by omega) (by omega)]
    · rw [if_neg (fun z => hg z.2), if_neg (fun z => hg z.2)]
theorem si_gong {q : DlE} {g g' : Nat → Nat} {com : Nat → Bool} : ∀ c d p, (∀ o, o < qM q → com o = true → g o = g' o) → siP q g com c d p = siP q g' com c d p := by
  intro c
  induction c with
  | zero => intro d p _; rfl
  | succ c ih =>
    intro d p h
    rw [siP, siP, ih (d + 1) _ h]
    congr 2
    refine iter_cg _ _ _ (fun j y _ hj => ?_)
    rw [odP, odP]
    by_cases hc : com j = true
    · rw [h j (by omega) hc]
    · rw [if_neg (fun z => hc z.1), if_neg (fun z => hc z.1)]
theorem si_none {q : DlE} {g : Nat → Nat} {com : Nat → Bool} (hc : ∀ o, o < qM q → com o = false) : ∀ c d p, (siP q g com c d p).2 = p.2 := by
  intro c
  induction c with
  | zero => intro d p; rfl
  | succ c ih =>
    intro d p
    rw [siP, ih, od_no (qM q) 0 p (fun o _ h2 z => by rw [hc o (by omega)] at z; cases z.1)]
    rfl
theorem iter_split {σ : Type} (f : Nat → σ → σ) {i M : Nat} (hi : i < M) (x : σ) : iter f M 0 x = iter f (M - (i + 1)) (i + 1) (f i (iter f i 0 x)) := by
  have e : iter f M 0 x = iter f (i + (1 + (M - (i + 1)))) 0 x := by rw [show i + (1 + (M - (i + 1))) = M by omega]
  rw [e, iter_add, iter_add, Nat.zero_add]
  rfl
theorem si_pick {q : DlE} (hq : QOk q) {g : Nat → Nat} {com com' : Nat → Bool} {i d d0 : Nat} {p : WLs} (hd : d ≤ d0) (hd0 : d0 ≤ 99) (hf : FilW q d p.1) (hi : i < qM q) (hci : com i = true) (hgi : g i = d0) (hmin : ∀ o, o < qM q → com o = true → d0 ≤ g o) (hfst : ∀ o, o < i → ¬ (com o = true ∧ g o = d0)) (hci' : com' i = false) (hoth : ∀ o, o ≠ i → com' o = com o) : siP q g com (100 - d) d p = siP q g com' (100 - d0) d0 (cuP q (nI d0) i (laP q d0 p)) := by
  rw [show 100 - d = (d0 - d) + (100 - d0) by omega, si_skip hq (by omega) (d0 - d) (100 - d0) d p (by omega) hf hmin]
  rw [show 100 - d0 = (99 - d0) + 1 by omega, siP, siP]
  rw [si_cong (com' := com') (99 - d0) (d0 + 1) _ (fun o ho hg => (hoth o (fun e => by subst e; omega)).symm)]
  congr 2
  generalize laP q d0 p = y
  rw [iter_split (odP q g com d0) hi, iter_split (odP q g com' d0) hi, od_no i 0 y (fun o _ h2 => hfst o (by omega)), od_no i 0 (cuP q (nI d0) i y) (fun o _ h2 z => by
    have hne : o ≠ i := by omega
    rw [hoth o hne] at z
    exact hfst o (by omega) z)]
  have e1 : odP q g com d0 i y = cuP q (nI d0) i y := if_pos ⟨hci, hgi⟩
  have e2 : odP q g com' d0 i (cuP q (nI d0) i y) = cuP q (nI d0) i y := if_neg (fun z => by rw [hci'] at z; cases z.1)
  rw [e1, e2]
  refine iter_cg _ _ _ (fun j x h1 _ => ?_)
  rw [odP, odP, hoth j (by omega)]
/-- loss may begin anywhere -/
theorem od_shift {q : DlE} {g : Nat → Nat} {com : Nat → Bool} {d : Nat} : ∀ n k w l, iter (odP q g com d) n k (w, l) = ((iter (odP q g com d) n k (w, nI 0)).1, l + (iter (odP q g com d) n k (w, nI 0)).2) := by
  intro n
  induction n with
  | zero => intro k w l; show (w, l) = (w, l + nI 0); rw [add_nI0]
  | succ n ih =>
    intro k w l
    rw [iter, iter]
    by_cases hc : com k = true ∧ g k = d
    · rw [show odP q g com d k (w, l) = cuP q (nI d) k (w, l) from if_pos hc, show odP q g com d k (w, nI 0) = cuP q (nI d) k (w, nI 0) from if_pos hc, cuP, cuP]
      dsimp only
      rw [ih (k + 1) _ (l + _), ih (k + 1) _ (nI 0 + _)]
      dsimp only
      rw [Int32.add_assoc, show ∀ y : Int32, nI 0 + y = y from fun y => by rw [Int32.add_comm, add_nI0]]
    · rw [show odP q g com d k (w, l) = (w, l) from if_neg hc, show odP q g com d k (w, nI 0) = (w, nI 0) from if_neg hc]
      exact ih (k + 1) w l
theorem si_shift {q : DlE} {g : Nat → Nat} {com : Nat → Bool} : ∀ c d w l, siP q g com c d (w, l) = ((siP q g com c d (w, nI 0)).1, l + (siP q g com c d (w, nI 0)).2) := by
  intro c
  induction c with
  | zero => intro d w l; show (w, l) = (w, l + nI 0); rw [add_nI0]
  | succ c ih =>
    intro d w l
    rw [siP, siP, od_shift]
    generalize iter (odP q g com d) (qM q) 0 (w, nI 0) = y
    rw [laP, laP]
    dsimp only
    rw [ih (d + 1) _ (l + y.2), show (lastI (qKd q) (qLn q) (qN q) y.1 (nI (d + 1)), y.2) = (lastI (qKd q) (qLn q) (qN q) y.1 (nI (d + 1)), y.2) from rfl, ih (d + 1) _ y.2]
    dsimp only
    rw [Int32.add_assoc]
/-- the loom's days are those -/
theorem day_pr {q : DlE} (hq : QOk q) {due : List Int32} {g : Nat → Nat} (hg : ∀ o, o < qM q → due.getD o 0 = nI (g o) ∧ g o < 1000) {x : LoS} {d : Nat} (hx : lDay x = nI d) (hd : d ≤ 999) (ho : lOv x = qOv q) (hk : lKn x = qKn q) : (lWhole (dayS (qN q) (qM q) (qKd q) (qLn q) (qOt q) due x), lLost (dayS (qN q) (qM q) (qKd q) (qLn q) (qOt q) due x)) = laP q (d + 1) (iter (odP q g (fun _ => true) d) (qM q) 0 (lWhole x, lLost x)) ∧ lOv (dayS (qN q) (qM q) (qKd q) (qLn q) (qOt q) due x) = qOv q ∧ lKn (dayS (qN q) (qM q) (qKd q) (qLn q) (qOt q) due x) = qKn q ∧ lDay (dayS (qN q) (qM q) (qKd q) (qLn q) (qOt q) due x) = nI (d + 1) := by
  have key : ∀ n k x, k + n = qM q → lDay x = nI d → lOv x = qOv q → lKn x = qKn q → (lWhole (iter (ordS (qN q) (qKd q) (qLn q) (qOt q) due) n k x), lLost (iter (ordS (qN q) (qKd q) (qLn q) (qOt q) due) n k x)) = iter (odP q g (fun _ => true) d) n k (lWhole x, lLost x) ∧ lDay (iter (ordS (qN q) (qKd q) (qLn q) (qOt q) due) n k x) = nI d ∧ lOv (iter (ordS (qN q) (qKd q) (qLn q) (qOt q) due) n k x) = qOv q ∧ lKn (iter (ordS (qN q) (qKd q) (qLn q) (qOt q) due) n k x) = qKn q := by
    intro n
    induction n with
    | zero => intro k x _ h1 h2 h3; exact ⟨rfl, h1, h2, h3⟩
    | succ n ih =>
      intro k x hk h1 h2 h3
      obtain ⟨g1, g2⟩ := hg k (by omega)
      rw [iter, iter]
      by_cases hc : g k = d
      · have e : ordS (qN q) (qKd q) (qLn q) (qOt q) due k x = cutS (qN q) (qKd q) (qLn q) (sv ((qOt q).getD k 0)) x := by rw [ordS, if_pos (by rw [g1, hc]; exact h1.symm)]
        have e2 : odP q g (fun _ => true) d k (lWhole x, lLost x) = (lWhole (cutS (qN q) (qKd q) (qLn q) (sv ((qOt q).getD k 0)) x), lLost (cutS (qN q) (qKd q) (qLn q) (sv ((qOt q).getD k 0)) x)) := by
          rw [odP, if_pos ⟨rfl, hc⟩, cuP]
          show _ = (lWhole x &&& (fallI (qKd q) (lOv x) (lKn x) (lWhole x) (sv ((qOt q).getD k 0)) ^^^ (-1)), lLost x + lossI (qKd q) (qLn q) (qN q) (fallI (qKd q) (lOv x) (lKn x) (lWhole x) (sv ((qOt q).getD k 0))) (lDay x))
          rw [h1, h2, h3]
          rfl
        rw [e, e2]
        exact ih (k + 1) _ (by omega) h1 h2 h3
      · have e : ordS (qN q) (qKd q) (qLn q) (qOt q) due k x = x := by rw [ordS, if_neg (fun z => hc ((nI_eq (by omega) (by omega)).mp (g1.symm.trans (z.trans h1))))]
        rw [e, odP, if_neg (fun z => hc z.2)]
        exact ih (k + 1) x (by omega) h1 h2 h3
  obtain ⟨k1, k2, k3, k4⟩ := key (qM q) 0 x (by omega) hx ho hk
  refine ⟨?_, k3, k4, ?_⟩
  · rw [← k1]
    show (lastI (qKd q) (qLn q) (qN q) (lWhole (iter (ordS (qN q) (qKd q) (qLn q) (qOt q) due) (qM q) 0 x)) (lDay (iter (ordS (qN q) (qKd q) (qLn q) (qOt q) due) (qM q) 0 x) + nI 1), lLost (iter (ordS (qN q) (qKd q) (qLn q) (qOt q) due) (qM q) 0 x)) = _
    rw [k2, nI_add]
    rfl
  · show lDay (iter (ordS (qN q) (qKd q) (qLn q) (qOt q) due) (qM q) 0 x) + nI 1 = _
    rw [k2, nI_add]
theorem days_pr {q : DlE} (hq : QOk q) {due : List Int32} {g : Nat → Nat} (hg : ∀ o, o < qM q → due.getD o 0 = nI (g o) ∧ g o < 1000) : ∀ c (x : LoS) d, lDay x = nI d → d + c ≤ 999 → lOv x = qOv q → lKn x = qKn q → lLost (iter (fun _ => dayS (qN q) (qM q) (qKd q) (qLn q) (qOt q) due) c 0 x) = (siP q g (fun _ => true) c d (lWhole x, lLost x)).2 := by
  intro c
  induction c with
  | zero => intro x d _ _ _ _; rfl
  | succ c ih =>
    intro x d hx hd ho hk
    obtain ⟨h1, h2, h3, h4⟩ := day_pr hq hg hx (by omega) ho hk
    rw [iter, siP, ← h1, iter_c _ c (0 + 1) 0]
    exact ih _ (d + 1) h4 (by omega) h2 h3
