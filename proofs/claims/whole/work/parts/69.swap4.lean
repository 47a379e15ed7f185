/-! SWAPPED: what the class's search begins with; its answer is the best -/
def opB (a : AS) (i : Nat) : Bool := decide (¬ (aOd a).getD i 0 < lDay (aNow a))
def csU (a : AS) (i : Nat) : List Nat := (List.range i).filter (opB a)
def csO (a : AS) : List Nat := csU a (aM a)
theorem csU_s (a : AS) (i : Nat) : csU a (i + 1) = if opB a i = true then csU a i ++ [i] else csU a i := by
  rw [csU, List.range_succ, List.filter_append, csU]
  by_cases h : opB a i = true
  · rw [if_pos h]; simp [h]
  · rw [if_neg h]; simp [h]
theorem csU_mem {a : AS} {i j : Nat} : j ∈ csU a i ↔ j < i ∧ opB a j = true := by
  rw [csU, List.mem_filter, List.mem_range]
theorem csO_nd (a : AS) : (csO a).Nodup := List.nodup_range.sublist List.filter_sublist
theorem nget_l {E F : List Nat} {j : Nat} (h : j < E.length) : (E ++ F).getD j 0 = E.getD j 0 := by
  rw [List.getD_eq_getElem?_getD, List.getElem?_append_left h, ← List.getD_eq_getElem?_getD]
theorem nget_r {E : List Nat} {x : Nat} : (E ++ [x]).getD E.length 0 = x := by
  rw [List.getD_eq_getElem?_getD, List.getElem?_append_right (Nat.le_refl _), Nat.sub_self]; rfl
theorem ins_ok : ∀ k l (Dn : List Nat) y, Dn.length = k → k < 6 → l.length = 6 → Dn.Pairwise (· ≤ ·) → (∀ j, j < k → l.getD j 0 = nI (Dn.getD j 0)) → (∀ x, x ∈ Dn → x ≤ 99) → y ≤ 99 → ∃ D' : List Nat, D'.length = k + 1 ∧ D'.Pairwise (· ≤ ·) ∧ D'.Perm (y :: Dn) ∧ (insL (nI y) k l).length = 6 ∧ (∀ j, j < k + 1 → (insL (nI y) k l).getD j 0 = nI (D'.getD j 0)) ∧ ∀ j, k < j → (insL (nI y) k l).getD j 0 = l.getD j 0 := by
  intro k
  induction k with
  | zero =>
    intro l Dn y hD hk hl hs hm h99 hy
    have : Dn = [] := List.length_eq_zero_iff.mp hD
    subst this
    refine ⟨[y], rfl, List.pairwise_singleton _ _, List.Perm.refl _, by rw [insL, List.length_set]; exact hl, fun j hj => ?_, fun j hj => ?_⟩
    · have : j = 0 := by omega
      subst this
      rw [insL, getD_set_eq (by omega)]; rfl
    · rw [insL, getD_set_ne (by omega)]
  | succ k ih =>
    intro l Dn y hD hk hl hs hm h99 hy
    rcases List.eq_nil_or_concat Dn with h | ⟨E, x, h⟩
    · rw [h] at hD; cases hD
    · rw [List.concat_eq_append] at h
      subst h
      have hE : E.length = k := by simpa using hD
      obtain ⟨hs1, -, hs3⟩ := List.pairwise_append.mp hs
      have hxk : l.getD k 0 = nI x := by
        have := hm k (by omega)
        rw [show (E ++ [x]).getD k 0 = x by rw [← hE]; exact nget_r] at this
        exact this
      have hx99 : x ≤ 99 := h99 x (by simp)
      have hEx : ∀ e, e ∈ E → e ≤ x := fun e he => hs3 e he x (by simp)
      rw [insL]
      by_cases hyx : y < x
      · rw [if_pos (by rw [hxk]; exact nI_lt hyx (by omega)), hxk]
        obtain ⟨D', d1, d2, d3, d4, d5, d6⟩ := ih (l.set (k + 1) (nI x)) E y hE (by omega) (by rw [List.length_set]; exact hl) hs1 (fun j hj => by
          rw [getD_set_ne (by omega), hm j (by omega), nget_l (by omega)]) (fun e he => h99 e (by simp [he])) hy
        refine ⟨D' ++ [x], by simp [d1], List.pairwise_append.mpr ⟨d2, List.pairwise_singleton _ _, fun e he x' hx' => ?_⟩, ?_, d4, fun j hj => ?_, fun j hj => ?_⟩
        · have hx' : x' = x := by simpa using hx'
          subst hx'
          rcases List.mem_cons.mp (d3.mem_iff.mp he) with w | w
          · omega
          · exact hEx e w
        · exact (d3.append_right [x])
        · rcases Nat.lt_or_ge j (k + 1) with w | w
          · rw [d5 j w, nget_l (by omega)]
          · have : j = k + 1 := by omega
            subst this
            rw [d6 (k + 1) (by omega), getD_set_eq (by omega), ← d1, nget_r]
        · rw [d6 j (by omega), getD_set_ne (by omega)]
      · rw [if_neg (by rw [hxk]; exact nI_nlt (by omega) (by omega))]
        refine ⟨E ++ [x] ++ [y], by simp [hE], List.pairwise_append.mpr ⟨hs, List.pairwise_singleton _ _, fun e he y' hy' => ?_⟩, List.perm_append_singleton y (E ++ [x]), by rw [List.length_set]; exact hl, fun j hj => ?_, fun j hj => getD_set_ne (by omega) _⟩
        · have hy' : y' = y := by simpa using hy'
          subst hy'
          rcases List.mem_append.mp he with w | w
          · have := hEx e w; omega
          · have : e = x := by simpa using w
            omega
        · rcases Nat.lt_or_ge j (k + 1) with w | w
          · rw [getD_set_ne (by omega), hm j w, show ((E ++ [x]) ++ [y]).getD j 0 = (E ++ [x]).getD j 0 from nget_l (by rw [hD]; exact w)]
          · have : j = k + 1 := by omega
            subst this
            rw [getD_set_eq (by omega), show k + 1 = (E ++ [x]).length by simp [hE], nget_r]
def DcR (a : AS) (r : List Int32) (i : Nat) (x : DcS) : Prop := (x.1.length = 6 ∧ (∀ j, j < i → x.1.getD j 0 = (aOd a).getD j 0) ∧ ∀ j, i ≤ j → x.1.getD j 0 = r.getD j 0) ∧ (S8 x.2.2.2 ∧ ∀ j, j < 8 → hasI x.2.2.2 (nI j) = decide (j ∈ csU a i)) ∧ x.2.2.1 = (csU a i).length ∧ x.2.1.length = 6 ∧ ∃ Dn : List Nat, Dn.length = (csU a i).length ∧ Dn.Pairwise (· ≤ ·) ∧ Dn.Perm ((csU a i).map (gv (aOd a))) ∧ ∀ j, j < Dn.length → x.2.1.getD j 0 = nI (Dn.getD j 0)
theorem InvA.ods {a : AS} (hI : InvA a) : ∀ o, o < aM a → (aOd a).getD o 0 = nI (gv (aOd a) o) ∧ gv (aOd a) o ≤ 99 := fun o ho => by
  obtain ⟨j, y, h1, h2, h3, h4⟩ := hI.1.2.2.2.2.2 o ho
  have h3 : (aOd a).getD o 0 = nI y := h3
  rw [gv, h3, sv_nI (by omega)]
  exact ⟨rfl, h4⟩
theorem csU_len (a : AS) (i : Nat) : (csU a i).length ≤ i := by
  have := List.length_filter_le (opB a) (List.range i)
  rw [List.length_range] at this
  exact this
theorem dc_ok {a : AS} (hI : InvA a) {r ds : List Int32} (hr : r.length = 6) (hds : ds.length = 6) : DcR a r (aM a) (dcA a r ds) := by
  have hm : aM a ≤ 6 := hI.1.1.2
  refine iter_inv (dcS (aOd a) (lDay (aNow a))) (aM a) (fun i x => DcR a r i x) (fun i x hi hx => ?_) (aM a) 0 (r, ds, 0, nI 0) (by omega) ⟨⟨hr, fun j hj => absurd hj (by omega), fun j _ => rfl⟩, ⟨⟨0, by decide, rfl⟩, fun j _ => ?_⟩, rfl, hds, [], rfl, List.Pairwise.nil, List.Perm.refl _, fun j hj => absurd hj (by simp)⟩
  · obtain ⟨⟨h1, h2, h3⟩, ⟨h4, h5⟩, h6, h7, Dn, d1, d2, d3, d4⟩ := hx
    have row : ((x.1.set i ((aOd a).getD i 0)).length = 6 ∧ (∀ j, j < i + 1 → (x.1.set i ((aOd a).getD i 0)).getD j 0 = (aOd a).getD j 0) ∧ ∀ j, i + 1 ≤ j → (x.1.set i ((aOd a).getD i 0)).getD j 0 = r.getD j 0) := by
      refine ⟨by rw [List.length_set]; exact h1, fun j hj => ?_, fun j hj => ?_⟩
      · by_cases e : i = j
        · subst e; rw [getD_set_eq (by omega)]
        · rw [getD_set_ne e]; exact h2 j (by omega)
      · rw [getD_set_ne (by omega)]; exact h3 j (by omega)
    rw [dcS]
    by_cases hc : (aOd a).getD i 0 < lDay (aNow a)
    · have ho : ¬ opB a i = true := by rw [opB, decide_eq_true_eq]; exact fun w => w hc
      rw [if_pos hc]
      refine ⟨row, ?_⟩
      rw [csU_s, if_neg ho]
      exact ⟨⟨h4, h5⟩, h6, h7, Dn, d1, d2, d3, d4⟩
    · have ho : opB a i = true := decide_eq_true hc
      have hlen := csU_len a i
      obtain ⟨e1, e2⟩ := hI.ods i hi
      rw [if_neg hc]
      refine ⟨row, ?_⟩
      rw [csU_s, if_pos ho]
      have hDn99 : ∀ y, y ∈ Dn → y ≤ 99 := fun y hy => by
        obtain ⟨j, hj, ej⟩ := List.mem_map.mp (d3.mem_iff.mp hy)
        rw [← ej]
        exact (hI.ods j (by have := (csU_mem.mp hj).1; omega)).2
      obtain ⟨D', q1, q2, q3, q4, q5, q6⟩ := ins_ok x.2.2.1 x.2.1 Dn (gv (aOd a) i) (by rw [d1, h6]) (by omega) h7 d2 (fun j hj => d4 j (by omega)) hDn99 e2
      refine ⟨⟨S8_or h4 (S8_b (by omega)), fun j hj => ?_⟩, ?_, ?_, D', ?_, q2, ?_, fun j hj => ?_⟩
      · show hasI (x.2.2.2 ||| bitI (nI i)) (nI j) = _
        rw [has_or h4 (S8_b (by omega)) hj, h5 j hj, has_bit (by omega) hj, Bool.eq_iff_iff, Bool.or_eq_true, decide_eq_true_eq, decide_eq_true_eq, decide_eq_true_eq, List.mem_append]
        exact or_congr Iff.rfl ⟨fun e => by simp [e], fun e => by simpa using (by simpa using e : j = i).symm⟩
      · show x.2.2.1 + 1 = _
        simp [h6]
      · show (insL ((aOd a).getD i 0) x.2.2.1 x.2.1).length = 6
        rw [e1]; exact q4
      · simp [q1, h6]
      · refine q3.trans ?_
        rw [List.map_append]
        exact (d3.cons _).trans (List.perm_append_singleton _ _).symm
      · show (insL ((aOd a).getD i 0) x.2.2.1 x.2.1).getD j 0 = _
        rw [e1]
        exact q5 j (by omega)
  · rw [show nI 0 = (0 : Int32) from nI_0, has_0]
    rfl
theorem si_ds (a : AS) (ds ds' : List Int32) (g : Nat → Nat) (com : Nat → Bool) : ∀ c d p, siP (dlE a ds) g com c d p = siP (dlE a ds') g com c d p := by
  intro c
  induction c with
  | zero => intro d p; rfl
  | succ c ih => intro d p; rw [siP, siP, ih]; rfl
def lsP (a : AS) (g : List Int32) : Int32 := (siP (dlE a []) (gv g) (fun o => decide (o ∈ csO a)) (100 - sv (lDay (aNow a))) (sv (lDay (aNow a))) (lWhole (aNow a), nI 0)).2
def RowP (a : AS) (g : List Int32) : Prop := (∀ o, o < aM a → o ∉ csO a → g.getD o 0 = (aOd a).getD o 0) ∧ (∀ o, o ∈ csO a → g.getD o 0 = nI (gv g o) ∧ gv g o ≤ 99) ∧ List.Perm ((csO a).map (gv g)) ((csO a).map (gv (aOd a)))
def IsB (a : AS) (z : List Int32 × Int32) : Prop := RowP a z.1 ∧ z.2 = lsP a z.1 ∧ ∀ g, g.length = 6 → RowP a g → LeP (aM a) z (g, lsP a g)
theorem csO_mem {a : AS} {j : Nat} (h : j ∈ csO a) : j < aM a := (csU_mem.mp h).1
theorem lsP_cg {a : AS} {g g' : List Int32} (h : ∀ j, j < aM a → g.getD j 0 = g'.getD j 0) : lsP a g = lsP a g' := by
  rw [lsP, lsP]
  congr 1
  exact si_gong _ _ _ (fun o ho _ => by rw [gv, gv, h o ho])
theorem RowP_cg {a : AS} {g g' : List Int32} (h : ∀ j, j < aM a → g.getD j 0 = g'.getD j 0) (hg : RowP a g) : RowP a g' := by
  have e : ∀ o, o ∈ csO a → gv g' o = gv g o := fun o ho => by rw [gv, gv, h o (csO_mem ho)]
  obtain ⟨h1, h2, h3⟩ := hg
  refine ⟨fun o ho hc => by rw [← h o ho]; exact h1 o ho hc, fun o ho => by rw [← h o (csO_mem ho), e o ho]; exact h2 o ho, ?_⟩
  rw [List.map_congr_left (fun o ho => e o ho)]
  exact h3
theorem IsB_uni {a : AS} {z z' : List Int32 × Int32} (h : IsB a z) (h' : IsB a z') (hl : z.1.length = 6) (hl' : z'.1.length = 6) : z.2 = z'.2 ∧ ∀ j, j < aM a → z.1.getD j 0 = z'.1.getD j 0 := by
  have a1 := h.2.2 z'.1 hl' h'.1
  have a2 := h'.2.2 z.1 hl h.1
  rw [← h'.2.1] at a1
  rw [← h.2.1] at a2
  rcases a1 with a1 | ⟨a1, b1⟩
  · rcases a2 with a2 | ⟨a2, -⟩
    · exact absurd (Int32.lt_trans a1 a2) (Int32.lt_irrefl)
    · have a1 : z.2 < z'.2 := a1
      have a2 : z'.2 = z.2 := a2
      rw [a2] at a1; exact absurd a1 (Int32.lt_irrefl)
  · rcases a2 with a2 | ⟨a2, b2⟩
    · have a1 : z.2 = z'.2 := a1
      have a2 : z'.2 < z.2 := a2
      rw [a1] at a2; exact absurd a2 (Int32.lt_irrefl)
    · refine ⟨a1, ?_⟩
      rcases Lx_tri z.1 z'.1 (aM a) with w | w | w
      · exact absurd w b2
      · exact absurd w b1
      · exact w
theorem InvA.qok {a : AS} (hI : InvA a) (ds : List Int32) : QOk (dlE a ds) := ⟨hI.1.1.1, hI.1.1.2, hI.2.2.1.2.1.1, hI.2.2.1.2.1.2.1, hI.1.2.2.2.2.1, hI.ots⟩
theorem InvA.fil {a : AS} (hI : InvA a) (ds : List Int32) : FilW (dlE a ds) (sv (lDay (aNow a))) (lWhole (aNow a)) := by
  obtain ⟨-, -, -, w, c, dd, hw, hw2, hc, hc2, hday, hd9, hdis, hlen⟩ := hI.2.2.1
  refine ⟨w, hw, hw2, fun i hi => ?_⟩
  have hin := tb_lt hw2 hi
  cases he : endB (aKd a) i with
  | true => exact Or.inl he
  | false =>
    right
    have := (hlen i hin he).1 hi
    obtain ⟨l, el, l1, l60⟩ := hI.1.2.2.2.2.1 i hin
    have el : (aLn a).getD i 0 = nI l := el
    show nI (sv (lDay (aNow a))) < (aLn a).getD i 0
    rw [el, sv_nI (by omega)] at this
    rw [hday, sv_nI (by omega), el]
    exact nI_lt this (by omega)
theorem RowP_od {a : AS} (hI : InvA a) : RowP a (aOd a) := ⟨fun _ _ _ => rfl, fun o ho => hI.ods o (csO_mem ho), List.Perm.refl _⟩
/-! all that may be lost: 120 for each thread that is whole -/
def pcN (w : Nat) : Nat → Nat → Nat
  | 0, _ => 0
  | m + 1, k => (if w.testBit k = true then 1 else 0) + pcN w m (k + 1)
theorem pcN_le (w : Nat) : ∀ m k, pcN w m k ≤ m := by
  intro m
  induction m with
  | zero => intro k; exact Nat.le_refl _
  | succ m ih =>
    intro k
    rw [pcN]
    have := ih (k + 1)
    split <;> omega
theorem pcN_mono {v w : Nat} (h : Sb v w) : ∀ m k, pcN v m k ≤ pcN w m k := by
  intro m
  induction m with
  | zero => intro k; exact Nat.le_refl _
  | succ m ih =>
    intro k
    rw [pcN, pcN]
    have h1 := ih (k + 1)
    by_cases h2 : v.testBit k = true
    · rw [if_pos h2, if_pos (h k h2)]; omega
    · rw [if_neg h2]; omega
theorem pcN_dif {f w : Nat} (h : Sb f w) : ∀ m k, k + m ≤ 8 → pcN (w &&& (f ^^^ (2 ^ 32 - 1))) m k + pcN f m k = pcN w m k := by
  intro m
  induction m with
  | zero => intro k _; rfl
  | succ m ih =>
    intro k hk
    rw [pcN, pcN, pcN]
    have h1 := ih (k + 1) (by omega)
    rw [dif_tb w f (show k < 8 by omega)]
    have e : (if (w.testBit k && !(f.testBit k)) = true then (1 : Nat) else 0) + (if f.testBit k = true then 1 else 0) = if w.testBit k = true then 1 else 0 := by
      have h2 := h k
      revert h2
      cases f.testBit k <;> cases w.testBit k <;> decide
    omega
theorem los_pc {kd ln : List Int32} {n dd f : Nat} (hn : n ≤ 8) (hf : f < 256) (hln : ∀ i, i < n → ∃ l, ln.getD i 0 = nI l ∧ 1 ≤ l ∧ l ≤ 60) (hd : dd ≤ 999) : ∀ m k c, k + m = n → iter (losN kd ln (nI f) dd) m k c ≤ c + 120 * pcN f m k := by
  intro m
  induction m with
  | zero => intro k c _; exact Nat.le_add_right _ _
  | succ m ih =>
    intro k c hk
    obtain ⟨l, el, -, h60⟩ := hln k (by omega)
    obtain ⟨-, e2⟩ := yrs_N (kd := kd) el h60 hd
    rw [iter, pcN]
    by_cases hc : hasI (nI f) (nI k) = true ∧ ¬ kd.getD k 0 = nI 2
    · have hb : f.testBit k = true := by rw [← hasI_tb f hf k (by omega)]; exact hc.1
      have r := ih (k + 1) (c + yrN kd ln k dd) (by omega)
      rw [losN, if_pos hc, if_pos hb]
      omega
    · have r := ih (k + 1) c (by omega)
      rw [losN, if_neg hc]
      split <;> omega
theorem cu_pot {q : DlE} (hq : QOk q) {d : Nat} (hd : d ≤ 999) {w L : Nat} (hw : w < 2 ^ qN q) {o : Nat} (ho : o < qM q) : ∃ w' L', cuP q (nI d) o (nI w, nI L) = (nI w', nI L') ∧ w' < 2 ^ qN q ∧ L' + 120 * pcN w' (qN q) 0 ≤ L + 120 * pcN w (qN q) 0 := by
  obtain ⟨f, f1, f2, f3⟩ := fallQ_sub hq hw ho
  obtain ⟨r1, -⟩ := loss_N (kd := qKd q) hq.2.2.2.2.1 hd (nI f)
  have r2 := los_pc (kd := qKd q) (dd := d) hq.1 f1 hq.2.2.2.2.1 hd (qN q) 0 0 (by omega)
  have hn := hq.1
  have r3 := pcN_dif f3 (qN q) 0 (by omega)
  refine ⟨w &&& (f ^^^ (2 ^ 32 - 1)), L + iter (losN (qKd q) (qLn q) (nI f) d) (qN q) 0 0, ?_, Nat.lt_of_le_of_lt Nat.and_le_left hw, by omega⟩
  rw [cuP]
  dsimp only
  rw [f2, nI_dif, r1, nI_add]
theorem Lf_pot {q : DlE} (hq : QOk q) : ∀ k slot b cs p r z L w, DsOk q slot k → (∀ i, i ∈ cs → i < qM q) → p.1 = nI w → w < 2 ^ qN q → p.2 = nI L → Lf q k slot b cs p r z → ∃ X, z.2 = nI X ∧ X ≤ L + 120 * pcN w (qN q) 0 := by
  intro k
  induction k with
  | zero => intro slot b cs p r z L w _ _ _ _ hL h; exact ⟨L, by rw [show z = (r, p.2) from h]; exact hL, by omega⟩
  | succ k ih =>
    intro slot b cs p r z L w hd hm hw hw2 hL h
    obtain ⟨i, h1, h2, h3⟩ := h
    obtain ⟨y, ey, hy⟩ := hd slot (Nat.le_refl _) (by omega)
    have hn := hq.1
    have hw3 := pow_256 hn hw2
    have hv2 := orN_lt (lasP (qKd q) (qLn q) w (nI y)) (qN q)
    have hs : Sb (orN (lasP (qKd q) (qLn q) w (nI y)) (qN q)) w := fun j hj => ((las_tb hn hw3 (nI y)).mp hj).2.1
    obtain ⟨w', L', c1, c2, c3⟩ := cu_pot hq (d := y) (L := L) (by omega) hv2 (hm i h1)
    have e : chP q ((qDs q).getD slot 0) i p = (nI w', nI L') := by
      rw [chP, ey, hw, hL, last_N hn]
      exact c1
    rw [e] at h3
    obtain ⟨X, b1, b2⟩ := ih (slot + 1) i (cs.erase i) (nI w', nI L') _ z L' w' hd.nx (fun j hj => hm j (List.mem_of_mem_erase hj)) rfl c2 rfl h3
    have := pcN_mono hs (qN q) 0
    exact ⟨X, b1, by omega⟩
theorem deal_best {a : AS} (hI : InvA a) (r ds f : List Int32) (hr : r.length = 6) (hds : ds.length = 6) : IsB a (dlA a r ds f).2 ∧ (dlA a r ds f).2.1.length = 6 := by
  have hm : aM a ≤ 6 := hI.1.1.2
  obtain ⟨⟨h1, h2, h3⟩, h4, h6, h7, Dn, d1, d2, d3, d4⟩ := dc_ok hI hr hds
  have hcl := csU_len a (aM a)
  have hq := hI.qok (dcA a r ds).2.1
  have hf := hI.fil (dcA a r ds).2.1
  obtain ⟨hd1, hd9⟩ := sv_day hI.2.2.1
  have hDn99 : ∀ y, y ∈ Dn → sv (lDay (aNow a)) ≤ y ∧ y ≤ 99 := fun y hy => by
    obtain ⟨j, hj, ej⟩ := List.mem_map.mp (d3.mem_iff.mp hy)
    obtain ⟨j1, j2⟩ := csU_mem.mp hj
    obtain ⟨o1, o2⟩ := hI.ods j j1
    rw [← ej]
    refine ⟨?_, o2⟩
    have j2 := of_decide_eq_true j2
    rw [o1, hd1] at j2
    exact (nI_leI (by omega) (by omega)).mp (Int32.not_lt.mp j2)
  have hdsk : ∀ j, j < (csO a).length → (qDs (dlE a (dcA a r ds).2.1)).getD (0 + j) 0 = nI (Dn.getD j 0) ∧ Dn.getD j 0 ≤ 99 := fun j hj => by
    have hj' : j < Dn.length := by rw [d1]; exact hj
    refine ⟨by rw [Nat.zero_add]; exact d4 j hj', ?_⟩
    have : Dn.getD j 0 ∈ Dn := by
      rw [List.getD_eq_getElem?_getD, List.getElem?_eq_getElem hj']
      exact List.getElem_mem hj'
    exact (hDn99 _ this).2
  have hdsO : DsOk (dlE a (dcA a r ds).2.1) 0 (csO a).length := fun s _ h2 => ⟨Dn.getD s 0, by
    have := (hdsk s (by omega)).1
    rw [Nat.zero_add] at this
    exact this, (hdsk s (by omega)).2⟩
  have hcs : (csO a).length ≤ 6 := Nat.le_trans hcl hm
  have D := deal_ok hq (csO a).length 0 0 (csO a) (dcA a r ds).2.2.2 (lWhole (aNow a), nI 0) (dcA a r ds).1 f (nI 961) 0 (csO_nd a) rfl (fun i hi => csO_mem hi) h4 hdsO h1 rfl (by omega) (Or.inl rfl)
  have hA : dlA a r ds f = dealQ (dlE a (dcA a r ds).2.1) (csO a).length 0 0 (dcA a r ds).2.2.2 (lWhole (aNow a)) (nI 0) ((dcA a r ds).1, f, nI 961) := by rw [dlA, h6]; rfl
  dsimp only at D
  rw [← hA] at D
  obtain ⟨q1, q2, q3, q4⟩ := D
  have iff := fun z => lf_iff hq (csO a).length 0 0 (csO a) Dn (sv (lDay (aNow a))) (lWhole (aNow a), nI 0) (dcA a r ds).1 z (csO_nd a) rfl (fun i hi => csO_mem hi) h1 d1 hdsk d2 hf (fun y hy => (hDn99 y hy).1)
  have leaf : ∀ g : List Int32, RowP a g → ∃ g' : List Int32, (∀ j, j < aM a → g'.getD j 0 = g.getD j 0) ∧ Lf (dlE a (dcA a r ds).2.1) (csO a).length 0 0 (csO a) (lWhole (aNow a), nI 0) (dcA a r ds).1 (g', lsP a g') := by
    intro g hg
    have gl : ((List.range 6).map (fun j => if j < aM a then g.getD j 0 else (dcA a r ds).1.getD j 0)).length = 6 := by simp
    have ge : ∀ j, j < 6 → ((List.range 6).map (fun j => if j < aM a then g.getD j 0 else (dcA a r ds).1.getD j 0)).getD j 0 = if j < aM a then g.getD j 0 else (dcA a r ds).1.getD j 0 := fun j hj => by
      rw [List.getD_eq_getElem?_getD, List.getElem?_map, List.getElem?_range hj]; rfl
    generalize (List.range 6).map (fun j => if j < aM a then g.getD j 0 else (dcA a r ds).1.getD j 0) = g' at gl ge
    have hgg : ∀ j, j < aM a → g'.getD j 0 = g.getD j 0 := fun j hj => by rw [ge j (by omega), if_pos hj]
    obtain ⟨r1, r2, r3⟩ := RowP_cg (fun j hj => (hgg j hj).symm) hg
    refine ⟨g', hgg, (iff _).mpr ⟨⟨by rw [h1, gl], fun j hj => ?_⟩, r2, r3.trans d3.symm, fun j hj hh => ?_, ?_⟩⟩
    · rcases Nat.lt_or_ge j (aM a) with w | w
      · rw [h2 j w, r1 j w hj]
      · rcases Nat.lt_or_ge j 6 with w2 | w2
        · rw [ge j w2, if_neg (by omega)]
        · rw [List.getD_eq_getElem?_getD, List.getD_eq_getElem?_getD, List.getElem?_eq_none (by omega), List.getElem?_eq_none (show g'.length ≤ j by omega)]
    · rw [stQ, if_neg (fun w => absurd w.1 (by omega))]; omega
    · show lsP a g' = _
      rw [lsP, si_ds a [] (dcA a r ds).2.1]
  have big : ∀ z, Lf (dlE a (dcA a r ds).2.1) (csO a).length 0 0 (csO a) (lWhole (aNow a), nI 0) (dcA a r ds).1 z → z.2 < nI 961 := fun z hz => by
    obtain ⟨w, hw, hw2, -⟩ := id hf
    obtain ⟨X, x1, x2⟩ := Lf_pot hq _ _ _ _ (lWhole (aNow a), nI 0) _ z 0 w hdsO (fun i hi => csO_mem hi) hw hw2 rfl hz
    have y1 := pcN_le w (qN (dlE a (dcA a r ds).2.1)) 0
    have y2 := hq.1
    rw [x1]
    exact nI_lt (show X < 961 by omega) (by decide)
  have isLeaf : Lf (dlE a (dcA a r ds).2.1) (csO a).length 0 0 (csO a) (lWhole (aNow a), nI 0) (dcA a r ds).1 (dlA a r ds f).2 := by
    rcases q1 with q1 | q1
    · exfalso
      obtain ⟨g', -, hl⟩ := leaf (aOd a) (RowP_od hI)
      have w := q3 _ hl
      have b := big _ hl
      rw [q1] at w
      rcases w with w | ⟨w, -⟩
      · exact Int32.lt_irrefl (Int32.lt_trans w b)
      · have w : nI 961 = lsP a g' := w
        have b : lsP a g' < nI 961 := b
        rw [← w] at b
        exact Int32.lt_irrefl b
    · exact q1
  obtain ⟨s1, s2, s3, s4, s5⟩ := (iff _).mp isLeaf
  refine ⟨⟨⟨fun o ho hc => by rw [← s1.2 o hc, h2 o ho], s2, s3.trans d3⟩, ?_, fun g hg hR => ?_⟩, by rw [← s1.1]; exact h1⟩
  · rw [s5, lsP, si_ds a [] (dcA a r ds).2.1]
  · obtain ⟨g', hgg, hl⟩ := leaf g hR
    have := q3 _ hl
    rcases this with w | ⟨w1, w2⟩
    · exact Or.inl (by rw [← lsP_cg hgg]; exact w)
    · exact Or.inr ⟨by rw [← lsP_cg hgg]; exact w1, fun w => w2 (Lx_congr (fun j hj => (hgg j hj).symm) w)⟩
