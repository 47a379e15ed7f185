section VM
variable {D : MD} {b : BB} {pc : Nat} {L : List (Option Value)} {st : List Value} {M : MM} {Out : Option Value → MM → Prop}
theorem okV_up {n n' : Nat} (h : n ≤ n') {v : Value} (hv : okV n v = true) : okV n' v = true := by
  cases v <;> try rfl
  simp only [okV, Bool.or_eq_true, decide_eq_true_eq] at hv ⊢
  exact hv.imp (fun g => Nat.lt_of_lt_of_le g h) id
theorem okC_up {n n' : Nat} (h : n ≤ n') {x : CC} (hx : okC n x = true) : okC n' x = true := by
  match x, hx with
  | .inl l, _ => rfl
  | .inr (.inl l), _ => rfl
  | .inr (.inr (.inl l)), hx =>
    refine List.all_eq_true.mpr fun o ho => ?_
    have := List.all_eq_true.mp hx o ho
    cases o with
    | none => rfl
    | some k => simp only [decide_eq_true_eq] at this ⊢; omega
  | .inr (.inr (.inr (t, fs))), hx => exact List.all_eq_true.mpr fun v hv => okV_up h (List.all_eq_true.mp hx v hv)
/-- behind a making -/
theorem Vx.made {D : MD} {L : List (Option Value)} {M : MM} {p : Program} {s : State} {m : MethodId} {args : Array Value} {meth : Method} {c : Code} {H H1 : Heap} {locs : List Loc} {G : va_G} {ad0 : Nat → Nat} {n0 : Nat} {ad : Nat → Nat} {A : Nat → Prop} {ls : Array Slot} {q : Nat} {x : CC} {ca : Nat → ClassId} {cA : ClassId} (hX : Vx D L M p s m args meth c H locs G ad0 n0 ad A ls) (hL : L.all (okO M.length) = true) (hlt : M.length < 999) (hx : ∀ ad, toE ad cA x = toE (fun k => k) cA x) (hxo : okC (M.length + 1) x = true)
    (hP : va_P G vwCl (wsF ad ca 0 M ++ [(q, toE (fun k => k) cA x)]) H1) (hD : va_D A (wsF ad ca 0 M ++ [(q, toE (fun k => k) cA x)])) (hK : va_K G vwCl [] s) (hT : ∀ (i : Nat) (x : CC) (ty : FieldType), M[i]? = some x → tyE x = some ty → ArrOfT s (ca i) ty ∧ va_RA s (ca i) ty) (hTx : ∀ ty, tyE x = some ty → ArrOfT s cA ty ∧ va_RA s cA ty) (hS : va_S A s.heap H1 locs) :
    Vx D L (M ++ [x]) p s m args meth c H1 locs G ad0 n0 (fun k => if k = M.length then q else ad k) A ls := by
  obtain ⟨_, -, -, -, -, ho, -⟩ := hX.2.1
  have e : wsF ad ca 0 M ++ [(q, toE (fun k => k) cA x)] = wsF (fun k => if k = M.length then q else ad k) (fun k => if k = M.length then cA else ca k) 0 (M ++ [x]) := by
    rw [wsF_app, Nat.zero_add, if_pos rfl, if_pos rfl, hx (fun k => if k = M.length then q else ad k)]
    rw [wsF_ext (n := M.length) (ad := ad) (ca := ca) (fun k hk => if_neg (by omega)) (fun k hk => if_neg (by omega)) M 0 (by omega) ho]
  rw [e] at hP hD
  have hlen : (M ++ [x]).length = M.length + 1 := by simp
  refine ⟨hX.1, ⟨_, hP, hD, hK, fun i z ty hz hty => ?_, ?_, by omega⟩, hX.2.2.1.ad (fun k hk => if_neg (by omega)), hS, hX.2.2.2.2.1, ?_, by have := hX.2.2.2.2.2.2.1; omega, hX.2.2.2.2.2.2.2.1, hX.2.2.2.2.2.2.2.2.1, hX.2.2.2.2.2.2.2.2.2.1, fun i u hi => ?_⟩
  · show ArrOfT s (if i = M.length then cA else ca i) ty ∧ va_RA s (if i = M.length then cA else ca i) ty
    by_cases hi : i < M.length
    · rw [List.getElem?_append_left hi] at hz
      rw [if_neg (by omega)]
      exact hT i z ty hz hty
    · rw [List.getElem?_append_right (by omega)] at hz
      have hi2 : i - M.length = 0 := by have := (List.getElem?_eq_some_iff.mp hz).1; simp at this; omega
      rw [hi2] at hz
      cases hz
      rw [if_pos (by omega)]
      exact hTx ty hty
  · rw [hlen]
    intro y hy
    rcases List.mem_append.mp hy with h | h
    · exact okC_up (by omega) (ho y h)
    · simp at h; subst h; exact hxo
  · refine hX.2.2.2.2.2.1.trans (n1 := M.length) ⟨fun k hk => if_neg (by omega), fun e => by omega⟩ hX.2.2.2.2.2.2.1 (by omega)
  · rw [tr_ext (n := M.length) (ad := ad) (fun k hk => if_neg (by omega)) (List.all_eq_true.mp hL _ (List.mem_of_getElem? hi) : okV M.length u = true)]
    exact hX.2.2.2.2.2.2.2.2.2.2 i u hi
theorem tr_made {n q : Nat} {ad : Nat → Nat} {st : List Value} (hlt : n < 999) (hst : st.all (okV n) = true) : (Value.ref n :: st).map (tr (fun k => if k = n then q else ad k)) = .ref q :: st.map (tr ad) := by
  rw [List.map_cons, tr_map (n := n) (ad := ad) (fun k hk => if_neg (by omega)) hst]
  simp [tr]
theorem V_newi {x : Int32} {N : Nat} (harr : Cond.arrayClass .int ∈ TT) (hx : x = nI N) (hN : N < 100000) (hL : L.all (okO M.length) = true) (hst : st.all (okV M.length) = true) (hlt : M.length < 999) (hc : b.2.2.2.1 + 1 ≤ b.2.1) (hs : b.2.2.2.2 + N ≤ b.2.2.1) (hd : decode D.2.1 pc = .ok (.newarray .int, 2))
    (k : V D (b.1, b.2.1, b.2.2.1, b.2.2.2.1 + 1, b.2.2.2.2 + N) (pc + 2) L (.ref M.length :: st) (M ++ [cI (List.replicate N 0)]) Out) : V D b pc L (.int x :: st) M Out := by
  intro p l e s m args below meth c H locs G ad0 n0 ad A ls hX
  obtain ⟨ca, hP, hD, hK, hT, ho, -⟩ := id hX.2.1
  subst hx
  refine va_newa (atype := .int) (ty := .int) (N' := N) (a0 := (N, .inl (fun _ => 0))) hX.1.1 hX.1.2.1 (hX.1.2.2.2.2.2.1 _ harr) rfl hK hP hD hX.2.2.2.1 hX.2.2.2.2.1 (fun cA => rfl) (nI_pos (by omega)) (nI_clamp (by omega)) (by show N * 4 ≤ _; omega) hc hs hd (fun q cA H1 g0 g1 g2 g3 => ?_)
  have e1 : (.inl (cA, N, .inl (fun _ => 0)) : va_E) = toE (fun k => k) cA (cI (List.replicate N 0)) := by
    show _ = Sum.inl (cA, (List.replicate N (0 : Int32)).length, Sum.inl (fun j => (List.replicate N (0 : Int32)).getD j 0))
    have : (fun j => (List.replicate N (0 : Int32)).getD j 0) = fun _ => 0 := by
      funext j; rw [List.getD_eq_getElem?_getD, List.getElem?_replicate]; split <;> rfl
    rw [this, List.length_replicate]
  rw [e1] at g1 g2
  have := k p l e s m args below meth c H1 locs G ad0 n0 _ A ls (hX.made hL hlt (fun _ => rfl) rfl g1 g2 hK hT (fun ty hty => by cases hty; exact g0.2 0 _ rfl) g3)
  rw [tr_made hlt hst] at this
  exact this
theorem V_newz {x : Int32} {N : Nat} (harr : Cond.arrayClass .boolean ∈ TT) (hx : x = nI N) (hN : N < 100000) (hL : L.all (okO M.length) = true) (hst : st.all (okV M.length) = true) (hlt : M.length < 999) (hc : b.2.2.2.1 + 1 ≤ b.2.1) (hs : b.2.2.2.2 + N ≤ b.2.2.1) (hd : decode D.2.1 pc = .ok (.newarray .boolean, 2))
    (k : V D (b.1, b.2.1, b.2.2.1, b.2.2.2.1 + 1, b.2.2.2.2 + N) (pc + 2) L (.ref M.length :: st) (M ++ [cZ (List.replicate N 0)]) Out) : V D b pc L (.int x :: st) M Out := by
  intro p l e s m args below meth c H locs G ad0 n0 ad A ls hX
  obtain ⟨ca, hP, hD, hK, hT, ho, -⟩ := id hX.2.1
  subst hx
  refine va_newa (atype := .boolean) (ty := .boolean) (N' := N) (a0 := (N, .inl (fun _ => 0))) hX.1.1 hX.1.2.1 (hX.1.2.2.2.2.2.1 _ harr) rfl hK hP hD hX.2.2.2.1 hX.2.2.2.2.1 (fun cA => rfl) (nI_pos (by omega)) (nI_clamp (by omega)) (by show N * 1 ≤ _; omega) hc hs hd (fun q cA H1 g0 g1 g2 g3 => ?_)
  have e1 : (.inl (cA, N, .inl (fun _ => 0)) : va_E) = toE (fun k => k) cA (cZ (List.replicate N 0)) := by
    show _ = Sum.inl (cA, (List.replicate N (0 : Int32)).length, Sum.inl (fun j => (List.replicate N (0 : Int32)).getD j 0))
    have : (fun j => (List.replicate N (0 : Int32)).getD j 0) = fun _ => 0 := by
      funext j; rw [List.getD_eq_getElem?_getD, List.getElem?_replicate]; split <;> rfl
    rw [this, List.length_replicate]
  rw [e1] at g1 g2
  have := k p l e s m args below meth c H1 locs G ad0 n0 _ A ls (hX.made hL hlt (fun _ => rfl) rfl g1 g2 hK hT (fun ty hty => by cases hty; exact g0.2 0 _ rfl) g3)
  rw [tr_made hlt hst] at this
  exact this
theorem V_newq {x : Int32} {N idx : Nat} (hcl : Cond.classLink D.1.cls idx "WhoseThread$Loom" ∈ TT) (hx : x = nI N) (hN : N < 100000) (hL : L.all (okO M.length) = true) (hst : st.all (okV M.length) = true) (hlt : M.length < 999) (hc : b.2.2.2.1 + 1 ≤ b.2.1) (hs : b.2.2.2.2 + N ≤ b.2.2.1) (hd : decode D.2.1 pc = .ok (.anewarray idx, 3))
    (k : V D (b.1, b.2.1, b.2.2.1, b.2.2.2.1 + 1, b.2.2.2.2 + N) (pc + 3) L (.ref M.length :: st) (M ++ [cR (List.replicate N none)]) Out) : V D b pc L (.int x :: st) M Out := by
  intro p l e s m args below meth c H locs G ad0 n0 ad A ls hX
  obtain ⟨ca, hP, hD, hK, hT, ho, -⟩ := id hX.2.1
  subst hx
  refine va_newq (N' := N) hX.1.1 hX.1.2.1 hX.1.2.2.2.2.1 (hX.1.2.2.2.2.2.1 _ hcl) hX.2.2.1.2.2.2.2.1 hK hP hD hX.2.2.2.1 hX.2.2.2.2.1 (nI_pos (by omega)) (nI_clamp (by omega)) (by omega) hc hs hd (fun q cA H1 g0 g1 g2 g3 => ?_)
  have e0 : ∀ ad : Nat → Nat, toE ad cA (cR (List.replicate N none)) = .inl (cA, N, .inr (.inr (.inr (.inr (fun _ => none))))) := by
    intro ad
    show Sum.inl (cA, (List.replicate N (none : Option Nat)).length, Sum.inr (Sum.inr (Sum.inr (Sum.inr (fun j => ((List.replicate N (none : Option Nat)).getD j none).map ad))))) = _
    have : (fun j => ((List.replicate N (none : Option Nat)).getD j none).map ad) = fun _ => none := by
      funext j; rw [List.getD_eq_getElem?_getD, List.getElem?_replicate]; split <;> rfl
    rw [this, List.length_replicate]
  rw [← e0 (fun k => k)] at g1 g2
  have := k p l e s m args below meth c H1 locs G ad0 n0 _ A ls (hX.made hL hlt (fun ad => (e0 ad).trans (e0 _).symm) (List.all_eq_true.mpr fun o ho => by rw [List.eq_of_mem_replicate ho]) g1 g2 hK hT (fun ty hty => by cases hty; exact g0.2 0 _ rfl) g3)
  rw [tr_made hlt hst] at this
  exact this
/-- a class whose objects can be made -/
def FN (own : String) (idx ci : Nat) (fs : List Value) : Prop := ∃ (C : String) (T : u_T) (N : Nat) (ty : Nat → FieldType), vwCl[ci]? = some (C, T, N) ∧ (∀ w ∈ u_ws C T N, w ∈ TT) ∧ (∀ k, k < N → parseFieldDescriptor (T k).2.2.1 = some (ty k)) ∧ Cond.classLink own idx C ∈ TT ∧ Cond.instantiable C N ∈ TT ∧ Cond.initialized C ∈ TT ∧ (∀ j, j < N → defaultValue (ty j) = vp_V fs j) ∧ fs.length = N ∧ (∀ v ∈ fs, v = .null ∨ v = .int 0)
theorem V_new {idx ci : Nat} {fs : List Value} (hf : FN D.1.cls idx ci fs) (hL : L.all (okO M.length) = true) (hst : st.all (okV M.length) = true) (hlt : M.length < 999) (hc : b.2.2.2.1 + 1 ≤ b.2.1) (hs : b.2.2.2.2 + fs.length ≤ b.2.2.1) (hd : decode D.2.1 pc = .ok (.new idx, 3))
    (k : V D (b.1, b.2.1, b.2.2.1, b.2.2.2.1 + 1, b.2.2.2.2 + fs.length) (pc + 3) L (.ref M.length :: st) (M ++ [cO ci fs]) Out) : V D b pc L st M Out := by
  intro p l e s m args below meth c H locs G ad0 n0 ad A ls hX
  obtain ⟨ca, hP, hD, hK, hT, ho, -⟩ := id hX.2.1
  obtain ⟨C, T, N, ty, h1, h2, h3, h4, h5, h6, h7, h8, h9⟩ := hf
  subst h8
  refine va_new (fs := fs) hX.1.1 hX.1.2.1 hX.1.2.2.2.2.2.1 h2 ty h3 hX.1.2.2.2.2.1 (hX.1.2.2.2.2.2.1 _ h4) (hX.1.2.2.2.2.2.1 _ h5) (hX.1.2.2.2.2.2.1 _ h6) hK hP hD hX.2.2.2.1 hX.2.2.2.2.1 h1 h7 hc hs hd (fun q H1 g1 g2 g3 => ?_)
  have hm : ∀ ad : Nat → Nat, fs.map (tr ad) = fs := fun ad => by
    conv => rhs; rw [← List.map_id fs]
    exact List.map_congr_left fun v hv => by rcases h9 v hv with rfl | rfl <;> rfl
  have e1 : ∀ ad : Nat → Nat, (.inr (ci, fs) : va_E) = toE ad 0 (cO ci fs) := fun ad => by
    show _ = Sum.inr (ci, fs.map (tr ad)); rw [hm]
  rw [e1 (fun k => k)] at g1 g2
  have := k p l e s m args below meth c H1 locs G ad0 n0 _ A ls (hX.made (cA := 0) hL hlt (fun ad => (e1 ad).symm.trans (e1 _)) (List.all_eq_true.mpr fun v hv => by rcases h9 v hv with rfl | rfl <;> rfl) g1 g2 hK hT (fun ty hty => by cases hty) g3)
  rw [tr_made hlt hst] at this
  exact this
theorem V_aast {a v ci : Nat} {l : List (Option Nat)} {x : Int32} {vs : List Value} (hci : ci = 1) (hM : M[a]? = some (cR l)) (hv : M[v]? = some (cO ci vs)) (hx : vp_in x l.length) (hd : decode D.2.1 pc = .ok (.aastore, 1)) (k : V D b (pc + 1) L st (M.set a (cR (l.set x.toNatClampNeg (some v)))) Out) : V D b pc L (.ref v :: .int x :: .ref a :: st) M Out := by
  intro p l' e' s m args below meth c H locs G ad0 n0 ad A ls hX
  obtain ⟨ca, hP, hD, hK, hT, ho, -⟩ := id hX.2.1
  subst hci
  refine va_astq (tys := [(ca a, .object "WhoseThread$Loom")]) (r := (RX1, TX1, 9)) hX.1.1 hX.1.2.1 (kT hK (hT a _ _ hM rfl)) hP hD hX.2.2.2.1 a 0 v 1 (Hl.at (G := G) hM) rfl (Hl.at (G := G) hv) rfl hx hd (fun H1 locs1 g1 g2 g3 => ?_)
  have hlt : x.toNatClampNeg < l.length := Nat.not_le.mp fun q => hx (Or.inr q)
  have e : (.inl (ca a, l.length, .inr (.inr (.inr (.inr (va_up (fun j => (l.getD j none).map ad) x.toNatClampNeg (some (ad v))))))) : va_E) = toE ad (ca a) (cR (l.set x.toNatClampNeg (some v))) := by
    show _ = Sum.inl (ca a, (l.set x.toNatClampNeg (some v)).length, Sum.inr (Sum.inr (Sum.inr (Sum.inr (fun j => ((l.set x.toNatClampNeg (some v)).getD j none).map ad)))))
    have : (fun j => ((l.set x.toNatClampNeg (some v)).getD j none).map ad) = va_up (fun j => (l.getD j none).map ad) x.toNatClampNeg (some (ad v)) := by
      funext j
      unfold va_up
      simp only [List.getD_eq_getElem?_getD, List.getElem?_set]
      by_cases h : x.toNatClampNeg = j
      · subst h; simp [hlt]
      · rw [if_neg h, if_neg (fun e : j = _ => h e.symm)]
    rw [this, List.length_set]
  rw [e] at g1 g2
  refine k p l' e' s m args below meth c H1 locs1 G ad0 n0 ad A ls (hX.put hM rfl ?_ g1 g2 hK hT g3)
  have := okC_at ho hM
  refine List.all_eq_true.mpr fun o hoo => ?_
  rcases List.mem_or_eq_of_mem_set hoo with h | h
  · exact List.all_eq_true.mp this o h
  · subst h; simp only [decide_eq_true_eq]; exact (List.getElem?_eq_some_iff.mp hv).1
theorem V_objInit {idx a : Nat} (hl : Cond.methodLink D.1.cls idx Lib.objectInit ∈ TT) (hi : Cond.instanceMethod Lib.objectInit ∈ TT) (hc : Cond.code Lib.objectInit ⟨#[0xb1]⟩ 1 none ∈ TT) (hb : 1 ≤ b.1) (hd : decode D.2.1 pc = .ok (.invokespecial idx, 3)) (hW : (st.map fun v => v.category).sum ≤ 8) (k : V D b (pc + 3) L st M Out) : V D b pc L (.ref a :: st) M Out := by
  intro p l e s m args below meth c H locs G ad0 n0 ad A ls hX
  have hts := hX.1.2.2.2.2.2.1
  refine W.objInit hX.1.1 hX.1.2.1 hX.1.2.2.2.2.1 (hts _ hl) (hts _ hi) (hts _ hc) rfl ?_ rfl hd hb ?_ (k p l e s m args below meth c H locs G ad0 n0 ad A ls hX)
  · rw [hX.1.2.2.1]; exact hX.2.2.2.2.2.2.2.1
  · rw [cat_map]; show _ ≤ 40 * b.1; have : 2 * (F0 m pc ls ((Value.ref a :: st).map (tr ad))).monitorRoom = 0 := by simp [JFrame.monitorRoom]
    omega
def LkM (own : String) (idx : Nat) : Prop := Cond.methodLink own idx arraycopyName ∈ TT ∧ Cond.native arraycopyName ∈ TT ∧ Cond.static arraycopyName ∈ TT ∧ Cond.initialized "java/lang/System" ∈ TT
theorem cpy_all {f g : List Int32} {N : Nat} (hf : f.length = N) (hg : g.length = N) : va_cpy (fun j => f.getD j 0) (fun j => g.getD j 0) 0 0 N = fun j => f.getD j 0 := by
  funext j
  by_cases h : j < N
  · rw [pk_cpy_in (by omega) (by omega)]; simp
  · rw [pk_cpy_out (by omega), List.getD_eq_getElem?_getD, List.getD_eq_getElem?_getD, List.getElem?_eq_none (by omega), List.getElem?_eq_none (by omega)]
theorem V_acopy {idx a0 a1 N : Nat} {l0 l1 : List Int32} (hl : LkM D.1.cls idx) (h0 : M[a0]? = some (cI l0)) (h1 : M[a1]? = some (cI l1)) (e0 : l0.length = N) (e1 : l1.length = N) (hN : N < 100000) (hb : 1 ≤ b.1) (hd : decode D.2.1 pc = .ok (.invokestatic idx, 3)) (k : V D b (pc + 3) L [] (M.set a1 (cI l0)) Out) : V D b pc L [.int (nI N), .int (nI 0), .ref a1, .int (nI 0), .ref a0] M Out := by
  intro p l e s m args below meth c H locs G ad0 n0 ad A ls hX
  obtain ⟨ca, hP, hD, hK, hT, ho, -⟩ := id hX.2.1
  have hts := hX.1.2.2.2.2.2.1
  have hK2 : va_K G vwCl [(ca a0, .int), (ca a1, .int)] s := (kT hK (hT a0 _ .int h0 rfl)).app (kT hK (hT a1 _ .int h1 rfl))
  have c0 : (nI 0).toNatClampNeg = 0 := rfl
  have cN : (nI N).toNatClampNeg = N := nI_clamp (by omega)
  refine va_copyi (rest := []) hX.1.1 hX.1.2.1 (hX.1.2.2.1.trans hX.2.2.2.2.2.2.2.1.symm) hX.1.2.2.2.2.1 (hts _ hl.1) (hts _ hl.2.1) (hts _ hl.2.2.1) (hts _ hl.2.2.2) hK2 hP hD hX.2.2.2.1 a0 a1 0 1 (Hl.at (G := G) h0) (Hl.at (G := G) h1) rfl rfl rfl (nI_pos (by omega)) (nI_pos (by omega)) (nI_pos (by omega)) (by rw [c0, cN]; omega) (by rw [c0, cN]; omega) (fun i _ => rfl) hb ?_ hd (fun H1 locs1 g1 g2 g3 => ?_)
  · show _ ≤ 40 * b.1
    have : ((([] : List Value).map fun v => v.category).sum + (nativeFrameWords "java/lang/System" "arraycopy" 5 + 11)) ≤ 40 := by decide +kernel
    omega
  · rw [c0, cN, cpy_all e0 e1] at g1 g2
    have e2 : (.inl (ca a1, l1.length, .inl (fun j => l0.getD j 0)) : va_E) = toE ad (ca a1) (cI l0) := by
      show _ = Sum.inl (ca a1, l0.length, Sum.inl (fun j => l0.getD j 0)); rw [e0, e1]
    rw [e2] at g1 g2
    exact k p l e s m args below meth c H1 locs1 G ad0 n0 ad A ls (hX.put h1 rfl rfl g1 g2 hK hT g3)
def LkX (own : String) (idx : Nat) : Prop := Cond.methodLink own idx Lib.Math.max.name ∈ TT ∧ Cond.static Lib.Math.max.name ∈ TT ∧ Cond.initialized "java/lang/Math" ∈ TT ∧ Cond.code Lib.Math.max.name Lib.Math.max.code 2 (some .int) ∈ TT
def LkN (own : String) (idx : Nat) : Prop := Cond.methodLink own idx Lib.Math.min.name ∈ TT ∧ Cond.static Lib.Math.min.name ∈ TT ∧ Cond.initialized "java/lang/Math" ∈ TT ∧ Cond.code Lib.Math.min.name Lib.Math.min.code 2 (some .int) ∈ TT
theorem V_max {idx : Nat} {x y : Int32} (hl : LkX D.1.cls idx) (hb : 1 ≤ b.1) (hc : b.2.2.2.1 ≤ b.2.1 ∧ b.2.2.2.2 ≤ b.2.2.1) (hW : (st.map fun v => v.category).sum ≤ 8) (hd : decode D.2.1 pc = .ok (.invokestatic idx, 3)) (k : V D b (pc + 3) L (.int (if x < y then y else x) :: st) M Out) : V D b pc L (.int y :: .int x :: st) M Out := by
  intro p l e s m args below meth c H locs G ad0 n0 ad A ls hX
  have hts := hX.1.2.2.2.2.2.1
  exact va_mmax hX.1.1 hX.1.2.1 (hX.1.2.2.1.trans hX.2.2.2.2.2.2.2.1.symm) hX.1.2.2.2.2.1 (hts _ hl.1) (hts _ hl.2.1) (hts _ hl.2.2.1) (hts _ hl.2.2.2) hb (by rw [cat_map]; show _ ≤ 40 * b.1; omega) hc.1 hc.2 hd (k p l e s m args below meth c H locs G ad0 n0 ad A ls hX)
theorem V_min {idx : Nat} {x y : Int32} (hl : LkN D.1.cls idx) (hb : 1 ≤ b.1) (hc : b.2.2.2.1 ≤ b.2.1 ∧ b.2.2.2.2 ≤ b.2.2.1) (hW : (st.map fun v => v.category).sum ≤ 8) (hd : decode D.2.1 pc = .ok (.invokestatic idx, 3)) (k : V D b (pc + 3) L (.int (if y < x then y else x) :: st) M Out) : V D b pc L (.int y :: .int x :: st) M Out := by
  intro p l e s m args below meth c H locs G ad0 n0 ad A ls hX
  have hts := hX.1.2.2.2.2.2.1
  exact va_mmin hX.1.1 hX.1.2.1 (hX.1.2.2.1.trans hX.2.2.2.2.2.2.2.1.symm) hX.1.2.2.2.2.1 (hts _ hl.1) (hts _ hl.2.1) (hts _ hl.2.2.1) (hts _ hl.2.2.2) hb (by rw [cat_map]; show _ ≤ 40 * b.1; omega) hc.1 hc.2 hd (k p l e s m args below meth c H locs G ad0 n0 ad A ls hX)
/-- texts -/
theorem V_ldcS {idx i : Nat} {tx : String} (hc : D.1.cls = "WhoseThread$Text") (hi : txL[i]? = some (idx, tx)) (hd : decode D.2.1 pc = .ok (.ldc idx, 2)) (k : V D b (pc + 2) L (.ref (1000 + i) :: st) M Out) : V D b pc L st M Out := by
  intro p l e s m args below meth c H locs G ad0 n0 ad A ls hX
  exact va_ldcS hX.1.1 hX.1.2.1 (hc ▸ hX.1.2.2.2.2.1) (hX.2.2.1.2.2.1 i (idx, tx) hi) hd (k p l e s m args below meth c H locs G ad0 n0 ad A ls hX)
theorem V_gets {idx : Nat} (hl : Cond.fieldLink D.1.cls idx "java/lang/String" "COMPACT_STRINGS" "Z" ∈ TT) (hd : decode D.2.1 pc = .ok (.getstatic idx, 3)) (k : V D b (pc + 3) L (.int 1 :: st) M Out) : V D b pc L st M Out := by
  intro p l e s m args below meth c H locs G ad0 n0 ad A ls hX
  exact va_gets hX.1.1 hX.1.2.1 hX.2.2.1.2.2.2.1 hX.2.2.2.1 hX.1.2.2.2.2.1 (hX.1.2.2.2.2.2.1 _ hl) (fun _ h => h) hd (k p l e s m args below meth c H locs G ad0 n0 ad A ls hX)
theorem V_getsq {idx : Nat} (hl : Cond.fieldLink D.1.cls idx "jdk/internal/util/Preconditions" "SIOOBE_FORMATTER" "Ljava/util/function/BiFunction;" ∈ TT) (hd : decode D.2.1 pc = .ok (.getstatic idx, 3)) (k : ∀ v : Value, v = .null ∨ v = .ref 1200 → V D b (pc + 3) L (v :: st) M Out) : V D b pc L st M Out := by
  intro p l e s m args below meth c H locs G ad0 n0 ad A ls hX
  rcases hX.2.2.1.2.2.2.2.2 with h | h
  · exact va_gets hX.1.1 hX.1.2.1 h hX.2.2.2.1 hX.1.2.2.2.2.1 (hX.1.2.2.2.2.2.1 _ hl) (fun _ h => h) hd (k .null (Or.inl rfl) p l e s m args below meth c H locs G ad0 n0 ad A ls hX)
  · exact va_gets hX.1.1 hX.1.2.1 h hX.2.2.2.1 hX.1.2.2.2.2.1 (hX.1.2.2.2.2.2.1 _ hl) (fun _ h => h) hd (k (.ref 1200) (Or.inr rfl) p l e s m args below meth c H locs G ad0 n0 ad A ls hX)
theorem V_sval {idx i : Nat} (hi : i < 10) (hl : Cond.fieldLink D.1.cls idx "java/lang/String" "value" "[B" ∈ TT) (hd : decode D.2.1 pc = .ok (.getfield idx, 3)) (k : V D b (pc + 3) L (.ref (1100 + i) :: st) M Out) : V D b pc L (.ref (1000 + i) :: st) M Out := by
  intro p l e s m args below meth c H locs G ad0 n0 ad A ls hX
  exact vk_getf hX.1.1 hX.1.2.1 (hX.2.2.1.2.1.1 i hi).2.2.1 hX.2.2.2.1 hX.1.2.2.2.2.1 (hX.1.2.2.2.2.2.1 _ hl) (fun _ h => h) hd (k p l e s m args below meth c H locs G ad0 n0 ad A ls hX)
theorem V_scod {idx i : Nat} (hi : i < 10) (hl : Cond.fieldLink D.1.cls idx "java/lang/String" "coder" "B" ∈ TT) (hd : decode D.2.1 pc = .ok (.getfield idx, 3)) (k : V D b (pc + 3) L (.int 0 :: st) M Out) : V D b pc L (.ref (1000 + i) :: st) M Out := by
  intro p l e s m args below meth c H locs G ad0 n0 ad A ls hX
  exact vk_getf hX.1.1 hX.1.2.1 (hX.2.2.1.2.1.1 i hi).2.1 hX.2.2.2.1 hX.1.2.2.2.2.1 (hX.1.2.2.2.2.2.1 _ hl) (fun _ h => h) hd (k p l e s m args below meth c H locs G ad0 n0 ad A ls hX)
theorem V_slen {i : Nat} (hi : i < 10) (hd : decode D.2.1 pc = .ok (.arraylength, 1)) (k : V D b (pc + 1) L (.int (nI (txN.getD i 0)) :: st) M Out) : V D b pc L (.ref (1100 + i) :: st) M Out := by
  intro p l e s m args below meth c H locs G ad0 n0 ad A ls hX
  exact va_tlen hX.1.1 hX.1.2.1 (hX.2.2.1.2.1.1 i hi).2.2.2 hX.2.2.2.1 rfl hd (k p l e s m args below meth c H locs G ad0 n0 ad A ls hX)
theorem V_sbal {i : Nat} {x : Int32} (hi : i < 10) (hx : vp_in x (txN.getD i 0)) (hd : decode D.2.1 pc = .ok (.baload, 1)) (k : V D b (pc + 1) L (.int ((txB.getD i []).getD x.toNatClampNeg 0) :: st) M Out) : V D b pc L (.int x :: .ref (1100 + i) :: st) M Out := by
  intro p l e s m args below meth c H locs G ad0 n0 ad A ls hX
  exact va_tb hX.1.1 hX.1.2.1 (hX.2.2.1.2.1.1 i hi).2.2.2 hX.2.2.2.1 hx rfl hd (k p l e s m args below meth c H locs G ad0 n0 ad A ls hX)
end VM
