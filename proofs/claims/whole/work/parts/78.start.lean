def F00 : FT := fun _ _ => 0
def G00 : GT := fun k => List.replicate (gLen k) 0
def z8 : List Int32 := List.replicate 8 0
def lo0 : LoS := (0, 0, 0, 0, z8, z8, z8, z8)
def a00 : AS := ((List.replicate 160 0, 0), (0, 0, z8, z8, z8, z8, z8, List.replicate 6 0, List.replicate 6 0), lo0, [], none, none)
def mem0 : MM := memX ++ bMo
set_option maxRecDepth 100000 in
theorem mem0_eq : mem0 = (List.range 111).map (cellOf F00 G00) := by rfl
theorem mem0_M : Mem mem0 F00 G00 := by
  rw [mem0_eq]
  refine ⟨by simp, fun k hk => ?_, fun k => List.length_replicate⟩
  rw [List.getElem?_map, List.getElem?_range hk]; rfl
theorem xr_0 : XR a00 F00 G00 := ⟨⟨rfl, by decide +kernel⟩, ⟨by decide +kernel, by decide +kernel, rfl, rfl, rfl, rfl, rfl, rfl, rfl⟩, rfl, ⟨0, by decide, by decide +kernel, by decide +kernel, by decide, fun j x h => by have h : ([] : List LoS)[j]? = some x := h; simp at h⟩, by decide +kernel, fun x h => by simp [a00] at h, fun x h => by simp [a00] at h⟩
theorem mr_0 : MR a00 F00 G00 := ⟨⟨by decide +kernel, by decide +kernel, by decide +kernel, by decide +kernel⟩, ⟨rfl, rfl, rfl, rfl, rfl⟩, ⟨by decide +kernel, rfl⟩, ⟨by decide, fun j x h => by have h : ([] : List LoS)[j]? = some x := h; simp at h⟩, by decide +kernel, fun x h => by simp [a00] at h, fun x h => by simp [a00] at h⟩
theorem z8_at (q : Nat) : z8.getD q 0 = 0 := by
  unfold z8
  rw [List.getD_eq_getElem?_getD, List.getElem?_replicate]; split <;> rfl
theorem z8_n : z8 = List.replicate 8 (nI 0) := by decide +kernel
theorem inv_00 : InvA a00 := by
  have hok : okS z8 := by rw [z8_n]; exact okS_rep
  have hac : Acy z8 := by rw [z8_n]; exact Acy_rep
  have hsy : Sym8 z8 := by rw [z8_n]; exact Sym_rep
  refine ⟨⟨⟨by decide, by decide⟩, ⟨rfl, rfl, rfl, rfl, rfl, rfl, rfl⟩, ⟨hok, hok, hac, hsy⟩, fun q _ _ => ⟨z8_at q, z8_at q⟩, fun i hi => absurd hi (Nat.not_lt_zero _), fun o ho => absurd ho (Nat.not_lt_zero _)⟩, ⟨List.length_replicate, by decide⟩, ⟨⟨rfl, rfl, rfl, rfl⟩, ⟨hok, hok, hac, hsy⟩, fun q _ _ => ⟨z8_at q, z8_at q⟩, 0, 0, 0, by decide +kernel, by decide, by decide +kernel, by decide, by decide +kernel, by decide, fun i h => by simp at h, fun i hi => absurd hi (Nat.not_lt_zero _)⟩, by decide, fun x h => ?_, fun x h => ?_, fun x h => ?_⟩
  · have h : x ∈ ([] : List LoS) := h
    cases h
  · have h : (none : Option LoS) = some x := h
    cases h
  · have h : (none : Option LoS) = some x := h
    cases h
theorem MR.keep {a : AS} {F F' : FT} {G G' : GT} (h : MR a F G) (k : FrM F G F' G') : MR a F' G' := by
  unfold MR at h ⊢
  rw [k.1, k.1, k.1, k.1, k.2 90 (by decide), k.2 91 (by decide), k.2 92 (by decide), k.2 93 (by decide), k.2 94 (by decide), k.2 95 (by decide), k.2 96 (by decide), k.2 102 (by decide), k.2 105 (by decide), k.2 106 (by decide)]
  exact h
theorem XR.keep {a : AS} {F F' : FT} {G G' : GT} (h : XR a F G) (k : FrX F G F' G') : XR a F' G' := by
  obtain ⟨⟨h1, h2⟩, ⟨t1, t2, t3, t4, t5, t6, t7, t8, t9⟩, h4, ⟨p, p1, p2, p3, p4, p5⟩, k1, k2, k3⟩ := h
  have g : ∀ b, b + 4 < 89 → gL F' G' b = gL F G b := fun b hb => gL_o (fun i => k.1 b i (by omega)) (fun c _ h2 => k.2 c (by omega))
  refine ⟨⟨(k.2 2 (by decide)).trans h1, (k.1 1 1 (by decide)).trans h2⟩, ⟨(k.1 3 0 (by decide)).trans t1, (k.1 3 1 (by decide)).trans t2, (k.2 4 (by decide)).trans t3, (k.2 5 (by decide)).trans t4, (k.2 6 (by decide)).trans t5, (k.2 7 (by decide)).trans t6, (k.2 8 (by decide)).trans t7, (k.2 9 (by decide)).trans t8, (k.2 10 (by decide)).trans t9⟩, (g 19 (by decide)).trans h4, ⟨p, p1, (k.1 29 1 (by decide)).trans p2, (k.1 29 2 (by decide)).trans p3, p4, fun j x hj => ?_⟩, (k.1 0 7 (by decide)).trans k1, fun x hx => (g 72 (by decide)).trans (k2 x hx), fun x hx => (g 77 (by decide)).trans (k3 x hx)⟩
  rw [g _ (by omega)]; exact p5 j x hj
