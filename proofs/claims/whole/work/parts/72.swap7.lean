/-! SWAPPED: the reference's rows and losses -/
def vlR (a : AS) (g : List Int32) : List Nat := (csO a).map (gv g)
theorem vl_at (a : AS) (g : List Int32) {k : Nat} (hk : k < (csO a).length) : (vlR a g).getD k 0 = gv g ((csO a).getD k 0) := by
  rw [vlR, List.getD_eq_getElem?_getD, List.getElem?_map, List.getElem?_eq_getElem hk, List.getD_eq_getElem?_getD, List.getElem?_eq_getElem hk]
  rfl
theorem vl_len (a : AS) (g : List Int32) : (vlR a g).length = (csO a).length := by rw [vlR, List.length_map]
theorem RwR.vl {a : AS} {l : List Int32} {v : List Nat} (h : RwR a l v) : vlR a l = v := by
  refine nd_ext (by rw [vl_len, h.2.1]) (fun k hk => ?_)
  rw [vl_len] at hk
  rw [vl_at a l hk, gv, h.2.2.1 k (by rw [h.2.1]; exact hk), sv_nI (by have := h.v99 (show k < v.length by rw [h.2.1]; exact hk); omega)]
theorem cs_idx (a : AS) {o : Nat} (h : o ∈ csO a) : ∃ k, k < (csO a).length ∧ (csO a).getD k 0 = o := by
  obtain ⟨k, hk, e⟩ := List.getElem_of_mem h
  exact ⟨k, hk, by rw [List.getD_eq_getElem?_getD, List.getElem?_eq_getElem hk]; exact e⟩
theorem RwR.row {a : AS} {l : List Int32} {v : List Nat} (h : RwR a l v) (hp : List.Perm v (vlR a (aOd a))) : RowP a l := by
  refine ⟨fun o _ ho => h.2.2.2.2 o ho, fun o ho => ?_, ?_⟩
  · obtain ⟨k, hk, rfl⟩ := cs_idx a ho
    have hk' : k < v.length := by rw [h.2.1]; exact hk
    have := h.v99 hk'
    rw [gv, h.2.2.1 k hk', sv_nI (by omega)]
    exact ⟨rfl, this⟩
  · have := h.vl
    rw [vlR] at this
    rw [this]
    exact hp
theorem row_lx {a : AS} {g l : List Int32} (hg : RowP a g) (hl : RowP a l) : LxR (aM a) g l ↔ LxN (csO a).length (vlR a g) (vlR a l) := by
  constructor
  · intro ⟨j, j1, j2, j3⟩
    have hj : j ∈ csO a := by
      by_cases h : j ∈ csO a
      · exact h
      · rw [hg.1 j j1 h, hl.1 j j1 h] at j3
        exact absurd j3 Int32.lt_irrefl
    obtain ⟨k, hk, rfl⟩ := cs_idx a hj
    refine ⟨k, hk, fun i hi => ?_, ?_⟩
    · rw [vl_at a g (by omega), vl_at a l (by omega), gv, gv, j2 _ (cs_lt a hi hk)]
    · rw [vl_at a g hk, vl_at a l hk]
      obtain ⟨g1, g2⟩ := hg.2.1 _ hj
      obtain ⟨l1, l2⟩ := hl.2.1 _ hj
      rw [g1, l1] at j3
      exact (nI_ltI (by omega) (by omega)).mp j3
  · intro ⟨k, hk, k2, k3⟩
    have hj := cs_mem a hk
    rw [vl_at a g hk, vl_at a l hk] at k3
    obtain ⟨g1, g2⟩ := hg.2.1 _ hj
    obtain ⟨l1, l2⟩ := hl.2.1 _ hj
    refine ⟨(csO a).getD k 0, csO_mem hj, fun i hi => ?_, ?_⟩
    · by_cases h : i ∈ csO a
      · obtain ⟨x, hx, rfl⟩ := cs_idx a h
        have hxk : x < k := Nat.not_le.mp (fun z => by
          rcases Nat.eq_or_lt_of_le z with e | e
          · subst e; omega
          · have := cs_lt a e hx; omega)
        have := k2 x hxk
        rw [vl_at a g hx, vl_at a l hx] at this
        rw [(hg.2.1 _ h).1, (hl.2.1 _ h).1, this]
      · have hm : i < aM a := by have := csO_mem hj; omega
        rw [hg.1 i hm h, hl.1 i hm h]
    · rw [g1, l1]
      exact nI_lt k3 (by omega)
theorem row_eq {a : AS} {g l : List Int32} (hg : RowP a g) (hl : RowP a l) (h : vlR a g = vlR a l) : ∀ j, j < aM a → g.getD j 0 = l.getD j 0 := by
  intro j hj
  by_cases hc : j ∈ csO a
  · obtain ⟨k, hk, rfl⟩ := cs_idx a hc
    have := congrArg (fun z => z.getD k 0) h
    simp only [vl_at a g hk, vl_at a l hk] at this
    rw [(hg.2.1 _ hc).1, (hl.2.1 _ hc).1, this]
  · rw [hg.1 j hj hc, hl.1 j hj hc]
theorem od_bnd {q : DlE} (hq : QOk q) {g : Nat → Nat} {com : Nat → Bool} {d : Nat} (hd : d ≤ 999) : ∀ n k p L, p.2 = nI L → ∃ L', L' ≤ L + 960 * n ∧ (iter (odP q g com d) n k p).2 = nI L' := by
  intro n
  induction n with
  | zero => intro k p L h; exact ⟨L, by omega, h⟩
  | succ n ih =>
    intro k p L h
    rw [iter, odP]
    split
    · obtain ⟨L1, a1, a2, a3⟩ := cu_los hq hd h k
      obtain ⟨L2, b1, b2⟩ := ih (k + 1) _ L1 a3
      exact ⟨L2, by omega, b2⟩
    · obtain ⟨L2, b1, b2⟩ := ih (k + 1) _ L h
      exact ⟨L2, by omega, b2⟩
theorem si_bnd {q : DlE} (hq : QOk q) {g : Nat → Nat} {com : Nat → Bool} : ∀ c d p L, d + c ≤ 999 → p.2 = nI L → ∃ L', L' ≤ L + 5760 * c ∧ (siP q g com c d p).2 = nI L' := by
  have := hq.2.1
  intro c
  induction c with
  | zero => intro d p L _ h; exact ⟨L, by omega, h⟩
  | succ c ih =>
    intro d p L hd h
    rw [siP]
    obtain ⟨L1, a1, a2⟩ := od_bnd (g := g) (com := com) hq (show d ≤ 999 by omega) (qM q) 0 p L h
    obtain ⟨L2, b1, b2⟩ := ih (d + 1) (laP q (d + 1) (iter (odP q g com d) (qM q) 0 p)) L1 (by omega) a2
    refine ⟨L2, ?_, b2⟩
    have := Nat.mul_le_mul_left 960 this
    omega
theorem ls_nn {a : AS} (hI : InvA a) (g : List Int32) : ∃ X, X < 2 ^ 30 ∧ lsP a g = nI X := by
  obtain ⟨hd1, hd9⟩ := sv_day hI.2.2.1
  obtain ⟨X, x1, x2⟩ := si_bnd (hI.qok []) (g := gv g) (com := fun o => decide (o ∈ csO a)) (100 - sv (lDay (aNow a))) (sv (lDay (aNow a))) (lWhole (aNow a), nI 0) 0 (by omega) rfl
  exact ⟨X, by omega, x2⟩
theorem doom_ls {a : AS} (hI : InvA a) {l : List Int32} {v : List Nat} (hR : RwR a l v) : lLost (iter (fun _ => dayU (aN a) (aM a) (aKd a) (aLn a) (aOt a) l) (100 - sv (lDay (aNow a))) 0 (nI 0, aNow a)).2 - lLost (aNow a) = lsP a l := by
  obtain ⟨hd1, hd9⟩ := sv_day hI.2.2.1
  have hgv : ∀ o, o < aM a → l.getD o 0 = nI (gv l o) ∧ gv l o < 1000 := fun o ho => by
    by_cases hc : o ∈ csO a
    · obtain ⟨k, hk, rfl⟩ := cs_idx a hc
      have hk' : k < v.length := by rw [hR.2.1]; exact hk
      have := hR.v99 hk'
      rw [gv, hR.2.2.1 k hk', sv_nI (by omega)]
      exact ⟨rfl, by omega⟩
    · have := hI.ods o ho
      rw [gv, hR.2.2.2.2 o hc]
      exact ⟨this.1, by have := this.2; rw [gv] at this; omega⟩
  rw [dayU_2]
  have h := days_pr (q := dlE a []) (hI.qok []) hgv (100 - sv (lDay (aNow a))) (aNow a) (sv (lDay (aNow a))) hd1 (by omega) rfl rfl
  have h' : lLost (iter (fun _ => dayS (aN a) (aM a) (aKd a) (aLn a) (aOt a) l) (100 - sv (lDay (aNow a))) 0 (aNow a)) = _ := h
  rw [h', si_shift, lsP]
  dsimp only
  rw [Int32.add_comm, Int32.add_sub_cancel]
  congr 1
  refine si_cong _ _ _ (fun o ho hg => (decide_eq_true ?_).symm)
  have ho : o < aM a := ho
  by_cases hc : o ∈ csO a
  · exact hc
  · exfalso
    have h1 := hR.2.2.2.2 o hc
    obtain ⟨o1, o2⟩ := hI.ods o ho
    have hop : ¬ opB a o = true := fun z => hc (csU_mem.mpr ⟨ho, z⟩)
    rw [opB, decide_eq_true_eq] at hop
    have hop : (aOd a).getD o 0 < lDay (aNow a) := Classical.byContradiction (fun z => hop z)
    rw [o1, hd1] at hop
    have := (nI_ltI (by omega) (by omega)).mp hop
    have e : gv l o = gv (aOd a) o := by rw [gv, gv, h1]
    omega
/-- what the loop over rows keeps -/
def BsR (a : AS) (l B : List Int32) (x : Int32) : Prop := x = lsP a B ∧ B.length = 6 ∧ RowP a B ∧ (LxR (aM a) B l ∨ ∀ j, j < aM a → B.getD j 0 = l.getD j 0) ∧ ∀ g, g.length = 6 → RowP a g → (LxR (aM a) g l ∨ ∀ j, j < aM a → g.getD j 0 = l.getD j 0) → LeP (aM a) (B, x) (g, lsP a g)
def PrR (a : AS) (l B : List Int32) (x : Int32) : Prop := (x = -1 ∧ ∀ g, g.length = 6 → RowP a g → ¬ LxR (aM a) g l) ∨ (x = lsP a B ∧ B.length = 6 ∧ RowP a B ∧ LxR (aM a) B l ∧ ∀ g, g.length = 6 → RowP a g → LxR (aM a) g l → LeP (aM a) (B, x) (g, lsP a g))
theorem bs_new {a : AS} (hI : InvA a) {l B B' : List Int32} {x : Int32} (hP : PrR a l B x) (hl : RowP a l) (hB : B'.length = 6) (hBl : ∀ j, j < aM a → B'.getD j 0 = l.getD j 0) (hb : x < 0 ∨ lsP a l < x) : BsR a l B' (lsP a l) := by
  refine ⟨(lsP_cg hBl).symm, hB, RowP_cg (fun j hj => (hBl j hj).symm) hl, Or.inr hBl, fun g g1 g2 g3 => ?_⟩
  rcases g3 with g3 | g3
  · rcases hP with ⟨-, h2⟩ | ⟨h1, -, -, -, h5⟩
    · exact absurd g3 (h2 g g1 g2)
    · have hb : lsP a l < x := by
        rcases hb with w | w
        · obtain ⟨X, x1, x2⟩ := ls_nn hI B
          rw [h1, x2] at w
          exact absurd w (nI_pos (by omega))
        · exact w
      rcases h5 g g1 g2 g3 with w | ⟨w, -⟩
      · exact Or.inl (Int32.lt_trans hb w)
      · have w : x = lsP a g := w
        exact Or.inl (by show lsP a l < lsP a g; rw [← w]; exact hb)
  · refine Or.inr ⟨?_, fun w => ?_⟩
    · show lsP a l = lsP a g
      exact (lsP_cg g3).symm
    · obtain ⟨j, j1, -, j3⟩ := w
      rw [g3 j j1, hBl j j1] at j3
      exact Int32.lt_irrefl j3
theorem bs_old {a : AS} {l B : List Int32} {x : Int32} (hP : PrR a l B x) (h0 : ¬ x < 0) (hb : ¬ lsP a l < x) : BsR a l B x := by
  rcases hP with ⟨h1, -⟩ | ⟨h1, h2, h3, h4, h5⟩
  · rw [h1] at h0; exact absurd (by decide) h0
  · refine ⟨h1, h2, h3, Or.inl h4, fun g g1 g2 g3 => ?_⟩
    rcases g3 with g3 | g3
    · exact h5 g g1 g2 g3
    · have e : lsP a g = lsP a l := lsP_cg g3
      by_cases w : x < lsP a g
      · exact Or.inl w
      · refine Or.inr ⟨Int32.le_antisymm (by rw [e]; exact Int32.not_lt.mp hb) (Int32.not_lt.mp w), fun z => ?_⟩
        have z : LxR (aM a) g B := z
        exact Lx_asym (Lx_congr g3 z) h4
theorem bs_next {a : AS} {l l' B : List Int32} {x : Int32} (h : BsR a l B x) (hl : RowP a l) (hl' : RowP a l') (hlt : LxR (aM a) l l') (hsuc : ∀ g, g.length = 6 → RowP a g → LxR (aM a) l g → ¬ LxR (aM a) g l') : PrR a l' B x := by
  obtain ⟨h1, h2, h3, h4, h5⟩ := h
  refine Or.inr ⟨h1, h2, h3, ?_, fun g g1 g2 g3 => h5 g g1 g2 ?_⟩
  · rcases h4 with h4 | h4
    · exact Lx_trans h4 hlt
    · exact Lx_congr (fun j hj => (h4 j hj).symm) hlt
  · rcases Lx_tri g l (aM a) with q | q | q
    · exact Or.inl q
    · exact absurd g3 (hsuc g g1 g2 q)
    · exact Or.inr q
