/-! SWAPPED: the leaves are the rows dealt otherwise -/
def gv (r : List Int32) (j : Nat) : Nat := sv (r.getD j 0)
def LfS (q : DlE) (slot b : Nat) (cs : List Nat) (Dn : List Nat) (d : Nat) (p : WLs) (r : List Int32) (z : List Int32 × Int32) : Prop := AgC cs r z.1 ∧ (∀ j, j ∈ cs → z.1.getD j 0 = nI (gv z.1 j) ∧ gv z.1 j ≤ 99) ∧ List.Perm (cs.map (gv z.1)) Dn ∧ (∀ j, j ∈ cs → Dn.head? = some (gv z.1 j) → stQ q slot b ≤ j) ∧ z.2 = (siP q (gv z.1) (fun o => decide (o ∈ cs)) (100 - d) d p).2
theorem lf_iff {q : DlE} (hq : QOk q) : ∀ k slot b cs Dn d p r z, cs.Nodup → cs.length = k → (∀ i, i ∈ cs → i < qM q) → r.length = 6 → Dn.length = k → (∀ j, j < k → (qDs q).getD (slot + j) 0 = nI (Dn.getD j 0) ∧ Dn.getD j 0 ≤ 99) → Dn.Pairwise (· ≤ ·) → FilW q d p.1 → (∀ y, y ∈ Dn → d ≤ y) → (Lf q k slot b cs p r z ↔ LfS q slot b cs Dn d p r z) := by
  have hm6 := hq.2.1
  intro k
  induction k with
  | zero =>
    intro slot b cs Dn d p r z hn hl hm hr hD hds hs hf hmin
    have : cs = [] := List.length_eq_zero_iff.mp hl
    subst this
    have : Dn = [] := List.length_eq_zero_iff.mp hD
    subst this
    have e2 : (siP q (gv z.1) (fun o => decide (o ∈ [])) (100 - d) d p).2 = p.2 := si_none (fun o _ => by simp) _ _ _
    constructor
    · intro h
      have h : z = (r, p.2) := h
      subst h
      exact ⟨⟨rfl, fun _ _ => rfl⟩, fun j hj => absurd hj (by simp), List.Perm.refl _, fun j hj => absurd hj (by simp), e2.symm⟩
    · intro ⟨h1, _, _, _, h5⟩
      have : r = z.1 := getD_ext h1.1 (fun j _ => h1.2 j (by simp))
      show z = (r, p.2)
      rw [this, ← e2, ← h5]
  | succ k ih =>
    intro slot b cs Dn d p r z hn hl hm hr hD hds hs hf hmin
    match Dn, hD, hds, hs, hmin with
    | [], hD, _, _, _ => cases hD
    | d0 :: D', hD, hds, hs, hmin =>
      have e0 : (qDs q).getD slot 0 = nI d0 := (hds 0 (by omega)).1
      have hd99 : d0 ≤ 99 := (hds 0 (by omega)).2
      have hdd : d ≤ d0 := hmin d0 List.mem_cons_self
      obtain ⟨hs1, hs2⟩ := List.pairwise_cons.mp hs
      obtain ⟨w, hw, hw2, -⟩ := id hf
      have hD' : D'.length = k := by simpa using hD
      have hds' : ∀ j, j < k → (qDs q).getD (slot + 1 + j) 0 = nI (D'.getD j 0) ∧ D'.getD j 0 ≤ 99 := fun j hj => by
        have := hds (j + 1) (by omega)
        rw [show slot + (j + 1) = slot + 1 + j by omega] at this
        exact this
      have hfc : ∀ i, i ∈ cs → FilW q d0 (cuP q (nI d0) i (laP q d0 p)).1 := fun i hi => cu_fil hq (by rw [laP, hw]; exact last_at hq hw2 _) (hm i hi) _
      have child : ∀ i, i ∈ cs → (Lf q k (slot + 1) i (cs.erase i) (chP q ((qDs q).getD slot 0) i p) (r.set i ((qDs q).getD slot 0)) z ↔ LfS q (slot + 1) i (cs.erase i) D' d0 (cuP q (nI d0) i (laP q d0 p)) (r.set i (nI d0)) z) := fun i hi => by
        rw [e0]
        exact ih (slot + 1) i (cs.erase i) D' d0 _ (r.set i (nI d0)) z (hn.erase i) (by rw [List.length_erase_of_mem hi, hl]; rfl) (fun j hj => hm j (List.mem_of_mem_erase hj)) (by rw [List.length_set]; exact hr) hD' hds' hs2 (hfc i hi) hs1
      have stn : ∀ i, stQ q (slot + 1) i = if D'.head? = some d0 ∨ (D' = [] ∧ nI d0 = (qDs q).getD (slot + 1) 0) then i + 1 else 0 := fun i => by
        rw [stQ]
        match D', hds', hD' with
        | [], _, _ =>
          show (if 0 < slot + 1 ∧ (qDs q).getD slot 0 = (qDs q).getD (slot + 1) 0 then i + 1 else 0) = _
          rw [e0]
          by_cases h : nI d0 = (qDs q).getD (slot + 1) 0
          · rw [if_pos ⟨by omega, h⟩, if_pos (Or.inr ⟨rfl, h⟩)]
          · rw [if_neg (fun z => h z.2), if_neg (fun z => z.elim (fun z => by cases z) (fun z => h z.2))]
        | e :: D'', hds', hD' =>
          obtain ⟨f1, f2⟩ := hds' 0 (by simp at hD'; omega)
          have f1 : (qDs q).getD (slot + 1) 0 = nI e := f1
          have f2 : e ≤ 99 := f2
          show (if 0 < slot + 1 ∧ (qDs q).getD slot 0 = (qDs q).getD (slot + 1) 0 then i + 1 else 0) = _
          rw [e0, f1]
          by_cases h : d0 = e
          · subst h
            rw [if_pos ⟨by omega, rfl⟩, if_pos (Or.inl (show (d0 :: D'').head? = some d0 from rfl))]
          · rw [if_neg (fun z => h ((nI_eq (by omega) (by omega)).mp z.2)), if_neg (fun z => z.elim (fun z => by
              have z : some e = some d0 := z
              cases z; exact h rfl) (fun z => by cases z.1))]
      have hne : ∀ i, i ∉ cs.erase i := fun i z => (hn.mem_erase_iff.mp z).1 rfl
      constructor
      · intro ⟨i, hi, hst, hc⟩
        obtain ⟨h1, h2, h3, h4, h5⟩ := (child i hi).mp hc
        have hil : i < r.length := by have := hm i hi; omega
        have hzi : z.1.getD i 0 = nI d0 := by rw [← h1.2 i (hne i), getD_set_eq hil]
        have hgi : gv z.1 i = d0 := by rw [gv, hzi, sv_nI (by omega)]
        have hP : List.Perm (cs.map (gv z.1)) (d0 :: D') := by
          have := (List.perm_cons_erase hi).map (gv z.1)
          rw [List.map_cons, hgi] at this
          exact this.trans (h3.cons d0)
        have hge : ∀ j, j ∈ cs → d0 ≤ gv z.1 j := fun j hj => by
          have := hP.mem_iff.mp (List.mem_map_of_mem (f := gv z.1) hj)
          rcases List.mem_cons.mp this with e | e
          · omega
          · exact hs1 _ e
        have hlater : ∀ j, j ∈ cs → gv z.1 j = d0 → i ≤ j := fun j hj hgj => by
          by_cases e : j = i
          · omega
          · have hje : j ∈ cs.erase i := hn.mem_erase_iff.mpr ⟨e, hj⟩
            have hmem := h3.mem_iff.mp (List.mem_map_of_mem (f := gv z.1) hje)
            have hhead : D'.head? = some d0 := by
              match D', hmem, hs1, hs2 with
              | e' :: D'', hmem, hs1, hs2 =>
                have q1 := hs1 e' List.mem_cons_self
                rcases List.mem_cons.mp hmem with w | w
                · rw [← hgj, w]; rfl
                · have := (List.pairwise_cons.mp hs2).1 _ w
                  show some e' = some d0
                  congr 1
                  omega
            have := h4 j hje (by rw [hhead, hgj])
            rw [stn, if_pos (Or.inl hhead)] at this
            omega
        refine ⟨⟨by rw [← h1.1, List.length_set], fun j hj => ?_⟩, fun j hj => ?_, hP, fun j hj hh => ?_, ?_⟩
        · have : i ≠ j := fun e => by subst e; exact hj hi
          rw [← h1.2 j (fun w => hj (List.mem_of_mem_erase w)), getD_set_ne this]
        · by_cases e : j = i
          · subst e; rw [hzi, hgi]; exact ⟨rfl, hd99⟩
          · exact h2 j (hn.mem_erase_iff.mpr ⟨e, hj⟩)
        · have hh : some d0 = some (gv z.1 j) := hh
          have hh : d0 = gv z.1 j := by simpa using hh
          exact Nat.le_trans hst (hlater j hj hh.symm)
        · rw [h5]
          congr 1
          refine (si_pick hq hdd hd99 hf (hm i hi) (decide_eq_true hi) hgi (fun o _ ho => hge o (of_decide_eq_true ho)) (fun o ho z => ?_) (decide_eq_false (hne i)) (fun o ho => ?_)).symm
          · have := hlater o (of_decide_eq_true z.1) z.2
            omega
          · apply decide_eq_decide.mpr
            rw [hn.mem_erase_iff]
            exact ⟨fun z => z.2, fun z => ⟨ho, z⟩⟩
      · intro ⟨h1, h2, h3, h4, h5⟩
        have hex : ∃ j, j ∈ cs ∧ gv z.1 j = d0 := by
          have := h3.mem_iff.mpr (List.mem_cons_self (a := d0) (l := D'))
          obtain ⟨j, hj, ej⟩ := List.mem_map.mp this
          exact ⟨j, hj, ej⟩
        obtain ⟨i, ⟨hi, hgi⟩, hleast⟩ := pk_least (fun j => j ∈ cs ∧ gv z.1 j = d0) hex
        have hil : i < r.length := by have := hm i hi; omega
        have hge : ∀ j, j ∈ cs → d0 ≤ gv z.1 j := fun j hj => by
          have := h3.mem_iff.mp (List.mem_map_of_mem (f := gv z.1) hj)
          rcases List.mem_cons.mp this with e | e
          · omega
          · exact hs1 _ e
        have hlater : ∀ j, j ∈ cs → gv z.1 j = d0 → i ≤ j := fun j hj hgj => Nat.not_lt.mp (fun w => hleast j w ⟨hj, hgj⟩)
        refine ⟨i, hi, h4 i hi (by rw [hgi]; rfl), (child i hi).mpr ⟨⟨by rw [List.length_set]; exact h1.1, fun j hj => ?_⟩, fun j hj => h2 j (List.mem_of_mem_erase hj), ?_, fun j hj hh => ?_, ?_⟩⟩
        · by_cases e : i = j
          · subst e
            rw [getD_set_eq hil, (h2 i hi).1, hgi]
          · rw [getD_set_ne e]
            exact h1.2 j (fun w => hj (hn.mem_erase_iff.mpr ⟨fun w => e w.symm, w⟩))
        · have := (List.perm_cons_erase hi).map (gv z.1)
          rw [List.map_cons, hgi] at this
          exact List.Perm.cons_inv (this.symm.trans h3)
        · rw [stn]
          split
          · rename_i hc
            have hgj : gv z.1 j = d0 := by
              rcases hc with hc | hc
              · rw [hc] at hh
                have : d0 = gv z.1 j := by simpa using hh
                exact this.symm
              · rw [hc.1] at hh; cases hh
            have q1 := hlater j (List.mem_of_mem_erase hj) hgj
            have q2 := (hn.mem_erase_iff.mp hj).1
            omega
          · omega
        · rw [h5]
          congr 1
          refine si_pick hq hdd hd99 hf (hm i hi) (decide_eq_true hi) hgi (fun o _ ho => hge o (of_decide_eq_true ho)) (fun o ho z => ?_) (decide_eq_false (hne i)) (fun o ho => ?_)
          · have := hlater o (of_decide_eq_true z.1) z.2
            omega
          · apply decide_eq_decide.mpr
            rw [hn.mem_erase_iff]
            exact ⟨fun z => z.2, fun z => ⟨ho, z⟩⟩
