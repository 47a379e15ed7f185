/-! SWAPPED: the class's search finds the best of its leaves -/
def LxR (m : Nat) (r f : List Int32) : Prop := ∃ j, j < m ∧ (∀ i, i < j → r.getD i 0 = f.getD i 0) ∧ r.getD j 0 < f.getD j 0
theorem ahB_iff (r f : List Int32) : ∀ k i, ahB r f k i = true ↔ ∃ j, i ≤ j ∧ j < i + k ∧ (∀ h, i ≤ h → h < j → r.getD h 0 = f.getD h 0) ∧ r.getD j 0 < f.getD j 0 := by
  intro k
  induction k with
  | zero => intro i; exact ⟨(fun h => by cases h), (fun ⟨j, h1, h2, _⟩ => absurd h2 (by omega))⟩
  | succ k ih =>
    intro i
    rw [ahB]
    by_cases he : r.getD i 0 = f.getD i 0
    · rw [if_pos he, ih (i + 1)]
      constructor
      · intro ⟨j, h1, h2, h3, h4⟩
        refine ⟨j, by omega, by omega, fun h q1 q2 => ?_, h4⟩
        rcases Nat.eq_or_lt_of_le q1 with e | e
        · rw [← e]; exact he
        · exact h3 h e q2
      · intro ⟨j, h1, h2, h3, h4⟩
        rcases Nat.eq_or_lt_of_le h1 with e | e
        · subst e; rw [he] at h4; exact absurd h4 (Int32.lt_irrefl)
        · exact ⟨j, e, by omega, fun h q1 q2 => h3 h (by omega) q2, h4⟩
    · rw [if_neg he, decide_eq_true_eq]
      constructor
      · intro h; exact ⟨i, Nat.le_refl _, by omega, fun h q1 q2 => absurd q1 (by omega), h⟩
      · intro ⟨j, h1, h2, h3, h4⟩
        rcases Nat.eq_or_lt_of_le h1 with e | e
        · rw [e]; exact h4
        · exact absurd (h3 i (Nat.le_refl _) e) he
theorem ahB_Lx (m : Nat) (r f : List Int32) : ahB r f m 0 = true ↔ LxR m r f := by
  rw [ahB_iff]
  constructor
  · intro ⟨j, h1, h2, h3, h4⟩; exact ⟨j, by omega, fun i hi => h3 i (by omega) hi, h4⟩
  · intro ⟨j, h1, h2, h3⟩; exact ⟨j, by omega, by omega, fun i _ hi => h2 i hi, h3⟩
theorem Lx_tri (r f : List Int32) : ∀ m, LxR m r f ∨ LxR m f r ∨ ∀ j, j < m → r.getD j 0 = f.getD j 0 := by
  intro m
  induction m with
  | zero => exact Or.inr (Or.inr (fun j hj => absurd hj (by omega)))
  | succ m ih =>
    rcases ih with ⟨j, h1, h2, h3⟩ | ⟨j, h1, h2, h3⟩ | h
    · exact Or.inl ⟨j, by omega, h2, h3⟩
    · exact Or.inr (Or.inl ⟨j, by omega, h2, h3⟩)
    · by_cases q1 : r.getD m 0 < f.getD m 0
      · exact Or.inl ⟨m, by omega, fun i hi => h i hi, q1⟩
      · by_cases q2 : f.getD m 0 < r.getD m 0
        · exact Or.inr (Or.inl ⟨m, by omega, fun i hi => (h i hi).symm, q2⟩)
        · refine Or.inr (Or.inr (fun j hj => ?_))
          rcases Nat.lt_or_ge j m with e | e
          · exact h j e
          · have : j = m := by omega
            subst this
            exact Int32.le_antisymm (Int32.not_lt.mp q2) (Int32.not_lt.mp q1)
theorem Lx_trans {m : Nat} {a b c : List Int32} (h : LxR m a b) (g : LxR m b c) : LxR m a c := by
  obtain ⟨j, h1, h2, h3⟩ := h
  obtain ⟨k, g1, g2, g3⟩ := g
  rcases Nat.lt_or_ge j k with q | q
  · exact ⟨j, h1, fun i hi => (h2 i hi).trans (g2 i (by omega)), by rw [← g2 j q]; exact h3⟩
  · rcases Nat.eq_or_lt_of_le q with e | e
    · subst e
      exact ⟨k, h1, fun i hi => (h2 i hi).trans (g2 i hi), Int32.lt_trans h3 g3⟩
    · exact ⟨k, g1, fun i hi => (h2 i (by omega)).trans (g2 i hi), by rw [h2 k e]; exact g3⟩
theorem Lx_asym {m : Nat} {a b : List Int32} (h : LxR m a b) : ¬ LxR m b a := by
  intro g
  obtain ⟨j, -, -, h3⟩ := Lx_trans h g
  exact Int32.lt_irrefl h3
theorem Lx_congr {m : Nat} {a a' b : List Int32} (e : ∀ j, j < m → a.getD j 0 = a'.getD j 0) (h : LxR m a b) : LxR m a' b := by
  obtain ⟨j, h1, h2, h3⟩ := h
  exact ⟨j, h1, fun i hi => (e i (by omega)).symm.trans (h2 i hi), by rw [← e j h1]; exact h3⟩
def LeP (m : Nat) (p p' : List Int32 × Int32) : Prop := p.2 < p'.2 ∨ (p.2 = p'.2 ∧ ¬ LxR m p'.1 p.1)
theorem LeP.rf {m : Nat} {p : List Int32 × Int32} : LeP m p p := Or.inr ⟨rfl, fun ⟨_, _, _, h⟩ => Int32.lt_irrefl h⟩
theorem LeP.tr {m : Nat} {a b c : List Int32 × Int32} (h : LeP m a b) (g : LeP m b c) : LeP m a c := by
  rcases h with h | ⟨h1, h2⟩
  · rcases g with g | ⟨g1, g2⟩
    · exact Or.inl (Int32.lt_trans h g)
    · exact Or.inl (by rw [← g1]; exact h)
  · rcases g with g | ⟨g1, g2⟩
    · exact Or.inl (by rw [h1]; exact g)
    · refine Or.inr ⟨h1.trans g1, fun z => ?_⟩
      rcases Lx_tri b.1 c.1 m with q | q | q
      · exact h2 (Lx_trans q z)
      · exact g2 q
      · exact h2 (Lx_congr (fun j hj => (q j hj).symm) z)
def chP (q : DlE) (d : Int32) (i : Nat) (p : WLs) : WLs := cuP q d i (lastI (qKd q) (qLn q) (qN q) p.1 d, p.2)
def Lf (q : DlE) : Nat → Nat → Nat → List Nat → WLs → List Int32 → List Int32 × Int32 → Prop
  | 0, _, _, _, p, r, z => z = (r, p.2)
  | k + 1, slot, b, cs, p, r, z => ∃ i, i ∈ cs ∧ stQ q slot b ≤ i ∧ Lf q k (slot + 1) i (cs.erase i) (chP q ((qDs q).getD slot 0) i p) (r.set i ((qDs q).getD slot 0)) z
def AgC (cs : List Nat) (r r' : List Int32) : Prop := r.length = r'.length ∧ ∀ j, j ∉ cs → r.getD j 0 = r'.getD j 0
theorem AgC.set {cs : List Nat} {r r' : List Int32} (hn : cs.Nodup) (h : AgC cs r r') {i : Nat} (hi : i < r.length) (v : Int32) : AgC (cs.erase i) (r.set i v) (r'.set i v) := by
  refine ⟨by rw [List.length_set, List.length_set]; exact h.1, fun j hj => ?_⟩
  by_cases e : i = j
  · subst e
    rw [getD_set_eq hi, getD_set_eq (by rw [← h.1]; exact hi)]
  · rw [getD_set_ne e, getD_set_ne e]
    exact h.2 j (fun z => hj (hn.mem_erase_iff.mpr ⟨fun w => e w.symm, z⟩))
theorem Lf_agr {q : DlE} : ∀ k slot b cs p r r' z, cs.Nodup → cs.length = k → (∀ i, i ∈ cs → i < r.length) → AgC cs r r' → Lf q k slot b cs p r z → Lf q k slot b cs p r' z := by
  intro k
  induction k with
  | zero =>
    intro slot b cs p r r' z _ hl _ ha h
    have : cs = [] := List.length_eq_zero_iff.mp hl
    subst this
    have : r = r' := getD_ext ha.1 (fun j _ => ha.2 j (by simp))
    subst this
    exact h
  | succ k ih =>
    intro slot b cs p r r' z hn hl hm ha h
    obtain ⟨i, h1, h2, h3⟩ := h
    exact ⟨i, h1, h2, ih (slot + 1) i (cs.erase i) _ _ _ z (hn.erase i) (by rw [List.length_erase_of_mem h1, hl]; rfl) (fun j hj => by rw [List.length_set]; exact hm j (List.mem_of_mem_erase hj)) (ha.set hn (hm i h1) _) h3⟩
def DsOk (q : DlE) (slot k : Nat) : Prop := ∀ s, slot ≤ s → s < slot + k → ∃ y, (qDs q).getD s 0 = nI y ∧ y ≤ 99
theorem DsOk.nx {q : DlE} {slot k : Nat} (h : DsOk q slot (k + 1)) : DsOk q (slot + 1) k := fun s h1 h2 => h s (by omega) (by omega)
theorem ch_los {q : DlE} (hq : QOk q) {slot k : Nat} (hd : DsOk q slot (k + 1)) {p : WLs} {L : Nat} (hL : p.2 = nI L) (i : Nat) : ∃ L', L ≤ L' ∧ L' ≤ L + 960 ∧ (chP q ((qDs q).getD slot 0) i p).2 = nI L' := by
  obtain ⟨y, ey, hy⟩ := hd slot (Nat.le_refl _) (by omega)
  rw [ey]
  exact cu_los hq (d := y) (by omega) (p := (lastI (qKd q) (qLn q) (qN q) p.1 (nI y), p.2)) hL i
theorem Lf_ge {q : DlE} (hq : QOk q) : ∀ k slot b cs p r z L, DsOk q slot k → p.2 = nI L → Lf q k slot b cs p r z → ∃ X, z.2 = nI X ∧ L ≤ X ∧ X ≤ L + 960 * k := by
  intro k
  induction k with
  | zero => intro slot b cs p r z L _ hL h; exact ⟨L, by rw [show z = (r, p.2) from h]; exact hL, by omega, by omega⟩
  | succ k ih =>
    intro slot b cs p r z L hd hL h
    obtain ⟨i, h1, h2, h3⟩ := h
    obtain ⟨L', a1, a2, a3⟩ := ch_los hq hd hL i
    obtain ⟨X, b1, b2, b3⟩ := ih (slot + 1) i (cs.erase i) _ _ z L' hd.nx a3 h3
    exact ⟨X, b1, by omega, by omega⟩
theorem st_le {q : DlE} {slot b : Nat} : stQ q slot b ≤ b + 1 := by
  unfold stQ
  split <;> omega
def dlO (q : DlE) (k slot : Nat) (com : Int32) (p : WLs) : Nat → DlS → DlS := fun i s => if hasI com (nI i) = true then dealQ q k (slot + 1) i (com &&& (bitI (nI i) ^^^ (-1))) (chP q ((qDs q).getD slot 0) i p).1 (chP q ((qDs q).getD slot 0) i p).2 (s.1.set i ((qDs q).getD slot 0), s.2) else s
theorem deal_s (q : DlE) (k slot b : Nat) (com : Int32) (p : WLs) (s : DlS) : dealQ q (k + 1) slot b com p.1 p.2 s = if s.2.2 < p.2 then s else iter (dlO q k slot com p) (qM q - stQ q slot b) (stQ q slot b) s := by
  rw [dealQ]
  rfl
theorem deal_ok {q : DlE} (hq : QOk q) : ∀ k slot b cs com p r f l L, cs.Nodup → cs.length = k → (∀ i, i ∈ cs → i < qM q) → (S8 com ∧ ∀ i, i < 8 → hasI com (nI i) = decide (i ∈ cs)) → DsOk q slot k → r.length = 6 → p.2 = nI L → L + 960 * k < 2 ^ 30 → (slot = 0 ∨ b < qM q) → ((dealQ q k slot b com p.1 p.2 (r, f, l)).2 = (f, l) ∨ Lf q k slot b cs p r (dealQ q k slot b com p.1 p.2 (r, f, l)).2) ∧ LeP (qM q) (dealQ q k slot b com p.1 p.2 (r, f, l)).2 (f, l) ∧ (∀ z, Lf q k slot b cs p r z → LeP (qM q) (dealQ q k slot b com p.1 p.2 (r, f, l)).2 z) ∧ AgC cs r (dealQ q k slot b com p.1 p.2 (r, f, l)).1 := by
  have hm6 := hq.2.1
  intro k
  induction k with
  | zero =>
    intro slot b cs com p r f l L hn hl hm hc hd hr hL hB hb
    rw [dealQ]
    by_cases h1 : l < p.2
    · rw [if_pos h1]
      refine ⟨Or.inl rfl, LeP.rf, fun z hz => ?_, rfl, fun _ _ => rfl⟩
      rw [show z = (r, p.2) from hz]
      exact Or.inl h1
    · rw [if_neg h1, takeD]
      by_cases h2 : p.2 < l ∨ ahB r f (qM q) 0 = true
      · rw [if_pos h2]
        refine ⟨Or.inr rfl, ?_, fun z hz => ?_, rfl, fun _ _ => rfl⟩
        · rcases h2 with h2 | h2
          · exact Or.inl h2
          · by_cases h3 : p.2 < l
            · exact Or.inl h3
            · exact Or.inr ⟨Int32.le_antisymm (Int32.not_lt.mp h1) (Int32.not_lt.mp h3), Lx_asym ((ahB_Lx _ _ _).mp h2)⟩
        · rw [show z = (r, p.2) from hz]
          exact LeP.rf
      · rw [if_neg h2]
        refine ⟨Or.inl rfl, LeP.rf, fun z hz => ?_, rfl, fun _ _ => rfl⟩
        rw [show z = (r, p.2) from hz]
        exact Or.inr ⟨Int32.le_antisymm (Int32.not_lt.mp (fun w => h2 (Or.inl w))) (Int32.not_lt.mp h1), fun w => h2 (Or.inr ((ahB_Lx _ _ _).mpr w))⟩
  | succ k ih =>
    intro slot b cs com p r f l L hn hl hm ⟨hS, hc⟩ hd hr hL hB hb
    rw [deal_s]
    dsimp only
    by_cases h1 : l < p.2
    · rw [if_pos h1]
      refine ⟨Or.inl rfl, LeP.rf, fun z hz => ?_, rfl, fun _ _ => rfl⟩
      obtain ⟨X, b1, b2, b3⟩ := Lf_ge hq (k + 1) slot b cs p r z L hd hL hz
      refine Or.inl (Int32.lt_of_lt_of_le h1 ?_)
      rw [b1, hL]
      exact nI_le b2 (by omega)
    · rw [if_neg h1]
      have hst : stQ q slot b ≤ qM q := by
        rcases hb with hb | hb
        · rw [stQ, if_neg (fun z => by omega)]; omega
        · have := st_le (q := q) (slot := slot) (b := b); omega
      have key := iter_inv (dlO q k slot com p) (qM q) (fun i s => (s.2 = (f, l) ∨ ∃ j, j ∈ cs ∧ stQ q slot b ≤ j ∧ Lf q k (slot + 1) j (cs.erase j) (chP q ((qDs q).getD slot 0) j p) (r.set j ((qDs q).getD slot 0)) s.2) ∧ LeP (qM q) s.2 (f, l) ∧ (∀ j, j ∈ cs → stQ q slot b ≤ j → j < i → ∀ z, Lf q k (slot + 1) j (cs.erase j) (chP q ((qDs q).getD slot 0) j p) (r.set j ((qDs q).getD slot 0)) z → LeP (qM q) s.2 z) ∧ AgC cs r s.1 ∧ stQ q slot b ≤ i) (fun i s hi hs => ?_) (qM q - stQ q slot b) (stQ q slot b) (r, f, l) (by omega) ⟨Or.inl rfl, LeP.rf, fun j _ h2 h3 => absurd h3 (by omega), ⟨rfl, fun _ _ => rfl⟩, Nat.le_refl _⟩
      · obtain ⟨k1, k2, k3, k4, -⟩ := key
        exact ⟨k1, k2, fun z ⟨i, z1, z2, z3⟩ => k3 i z1 z2 (hm i z1) z z3, k4⟩
      · obtain ⟨s1, s2, s3, s4, s5⟩ := hs
        have hi8 : i < 8 := by omega
        rw [dlO]
        by_cases hci : i ∈ cs
        · rw [if_pos (by rw [hc i hi8, decide_eq_true hci])]
          obtain ⟨L', a1, a2, a3⟩ := ch_los hq hd hL i
          have hms : s.1.length = 6 := by rw [← s4.1]; exact hr
          have hmem : ∀ j, j ∈ cs.erase i → j < qM q := fun j hj => hm j (List.mem_of_mem_erase hj)
          have hle : (cs.erase i).length = k := by rw [List.length_erase_of_mem hci, hl]; rfl
          have hcom : S8 (com &&& (bitI (nI i) ^^^ (-1))) ∧ ∀ j, j < 8 → hasI (com &&& (bitI (nI i) ^^^ (-1))) (nI j) = decide (j ∈ cs.erase i) := by
            refine ⟨S8_and hS _, fun j hj => ?_⟩
            obtain ⟨c, hc8, rfl⟩ := hS
            have h5 := hc j hj
            rw [hasI_tb c hc8 j hj] at h5
            rw [(S8_bit i hi8).1, hasI_dif hc8 hj, h5, Nat.testBit_two_pow, Bool.eq_iff_iff, Bool.and_eq_true, decide_eq_true_eq, decide_eq_true_eq, hn.mem_erase_iff, Bool.not_eq_true', decide_eq_false_iff_not]
            exact ⟨fun z => ⟨fun e => z.2 e.symm, z.1⟩, fun z => ⟨z.2, fun e => z.1 e.symm⟩⟩
          have hag : AgC (cs.erase i) (r.set i ((qDs q).getD slot 0)) (s.1.set i ((qDs q).getD slot 0)) := s4.set hn (by omega) _
          obtain ⟨r1, r2, r3, r4⟩ := ih (slot + 1) i (cs.erase i) (com &&& (bitI (nI i) ^^^ (-1))) (chP q ((qDs q).getD slot 0) i p) (s.1.set i ((qDs q).getD slot 0)) s.2.1 s.2.2 L' (hn.erase i) hle hmem hcom hd.nx (by rw [List.length_set]; exact hms) a3 (by omega) (Or.inr hi)
          have hback : ∀ z, Lf q k (slot + 1) i (cs.erase i) (chP q ((qDs q).getD slot 0) i p) (s.1.set i ((qDs q).getD slot 0)) z → Lf q k (slot + 1) i (cs.erase i) (chP q ((qDs q).getD slot 0) i p) (r.set i ((qDs q).getD slot 0)) z := fun z hz => Lf_agr k _ _ _ _ _ _ z (hn.erase i) hle (fun j hj => by rw [List.length_set, hms]; have := hmem j hj; omega) ⟨hag.1.symm, fun j hj => (hag.2 j hj).symm⟩ hz
          have hforw : ∀ z, Lf q k (slot + 1) i (cs.erase i) (chP q ((qDs q).getD slot 0) i p) (r.set i ((qDs q).getD slot 0)) z → Lf q k (slot + 1) i (cs.erase i) (chP q ((qDs q).getD slot 0) i p) (s.1.set i ((qDs q).getD slot 0)) z := fun z hz => Lf_agr k _ _ _ _ _ _ z (hn.erase i) hle (fun j hj => by rw [List.length_set, hr]; have := hmem j hj; omega) hag hz
          refine ⟨?_, r2.tr s2, fun j j1 j2 j3 z hz => ?_, ?_, by omega⟩
          · rcases r1 with r1 | r1
            · rw [show (s.1.set i ((qDs q).getD slot 0), s.2) = (s.1.set i ((qDs q).getD slot 0), s.2.1, s.2.2) from rfl, r1]
              exact s1
            · exact Or.inr ⟨i, hci, s5, hback _ r1⟩
          · rcases Nat.lt_or_ge j i with e | e
            · exact r2.tr (s3 j j1 j2 e z hz)
            · have e : j = i := by omega
              subst e
              exact r3 z (hforw z hz)
          · refine ⟨?_, fun j hj => ?_⟩
            · rw [s4.1, ← r4.1, List.length_set]
            · rw [s4.2 j hj, ← r4.2 j (fun w => hj (List.mem_of_mem_erase w)), getD_set_ne (fun e => by subst e; exact hj hci)]
        · rw [if_neg (by rw [hc i hi8, decide_eq_false hci]; decide)]
          refine ⟨s1, s2, fun j j1 j2 j3 => s3 j j1 j2 ?_, s4, by omega⟩
          have : j ≠ i := fun e => by subst e; exact hci j1
          omega
