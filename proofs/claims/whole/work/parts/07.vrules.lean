section VR
variable {D : MD} {b : BB} {pc : Nat} {L : List (Option Value)} {st : List Value} {M : MM} {Out : Option Value → MM → Prop}
def lpr (ad : Nat → Nat) (L : List (Option Value)) : List (Nat × Value) := (List.range L.length).filterMap (fun i => match L[i]? with
  | some (some v) => some (i, tr ad v)
  | _ => none)
theorem lpr_mem {ad : Nat → Nat} {L : List (Option Value)} {i : Nat} {w : Value} : (i, w) ∈ lpr ad L ↔ ∃ v, L[i]? = some (some v) ∧ w = tr ad v := by
  unfold lpr
  rw [List.mem_filterMap]
  constructor
  · rintro ⟨j, -, h⟩
    split at h
    · rename_i v hv
      cases h
      exact ⟨v, hv, rfl⟩
    · cases h
  · rintro ⟨v, h, rfl⟩
    refine ⟨i, List.mem_range.mpr (List.getElem?_eq_some_iff.mp h).1, ?_⟩
    rw [h]
theorem Lh.has {ad : Nat → Nat} {ls : Array Slot} {nL : Nat} {L : List (Option Value)} (h : Lh ad ls nL L) : lv_has ls nL (lpr ad L) :=
  ⟨h.1, h.2.2.1, fun q hq => by obtain ⟨v, h1, h2⟩ := lpr_mem.mp hq; rw [h2]; exact h.2.2.2 _ _ h1⟩
def c1o (o : Option Value) : Bool := match o with
  | some v => v.category == 1
  | none => true
def c1 (L : List (Option Value)) : Nat → Bool
  | 0 => true
  | i + 1 => match L[i]? with
    | some o => c1o o
    | none => true
theorem c1_at {L : List (Option Value)} {i j : Nat} {v : Value} (h : c1 L i = true) (hj : j + 1 = i) (hv : L[j]? = some (some v)) : ¬ v.category = 2 := by
  subst hj
  simp only [c1, hv, c1o, beq_iff_eq] at h
  omega
theorem tr_cat (ad : Nat → Nat) (v : Value) : (tr ad v).category = v.category := by cases v <;> rfl
theorem Lh.set1 {ad : Nat → Nat} {ls' : Array Slot} {nL i : Nat} {L : List (Option Value)} {v w : Value} (hw : w = tr ad v) (hn : L.length ≤ nL) (hc : c1 L i = true) (h : lv_has ls' nL ((i, w) :: (lpr ad L).filter (fun q => !(q.1 == i) && !(q.1 + 1 == i && q.2.category == 2)))) : Lh ad ls' nL (L.set i (some v)) := by
  refine ⟨h.1, by simpa using hn, h.2.1, fun j u hj => ?_⟩
  rw [List.getElem?_set] at hj
  by_cases hij : i = j
  · subst hij
    simp only [if_true] at hj
    split at hj
    · cases hj
      subst hw
      exact h.2.2 (i, tr ad v) List.mem_cons_self
    · cases hj
  · rw [if_neg hij] at hj
    refine h.2.2 (j, tr ad u) (List.mem_cons_of_mem _ (List.mem_filter.mpr ⟨lpr_mem.mpr ⟨u, hj, rfl⟩, ?_⟩))
    simp only [Bool.and_eq_true, Bool.not_eq_true', beq_eq_false_iff_ne, ne_eq, Bool.and_eq_false_iff]
    refine ⟨fun q => hij q.symm, ?_⟩
    by_cases hq : j + 1 = i
    · exact Or.inr (by rw [tr_cat]; exact c1_at hc hq hj)
    · exact Or.inl hq
theorem Lh.set2 {ad : Nat → Nat} {ls' : Array Slot} {nL i : Nat} {L : List (Option Value)} {v w : Value} (hw : w = tr ad v) (hn : L.length ≤ nL) (hc : c1 L i = true) (h : lv_has ls' nL ((i, w) :: (lpr ad L).filter (fun q => !(q.1 == i) && (!(q.1 == i + 1) && !(q.1 + 1 == i && q.2.category == 2))))) : Lh ad ls' nL ((L.set i (some v)).set (i + 1) none) := by
  refine ⟨h.1, by simpa using hn, h.2.1, fun j u hj => ?_⟩
  rw [List.getElem?_set] at hj
  by_cases hij1 : i + 1 = j
  · rw [if_pos hij1] at hj
    split at hj <;> cases hj
  rw [if_neg hij1, List.getElem?_set] at hj
  by_cases hij : i = j
  · subst hij
    simp only [if_true] at hj
    split at hj
    · cases hj
      subst hw
      exact h.2.2 (i, tr ad v) List.mem_cons_self
    · cases hj
  · rw [if_neg hij] at hj
    refine h.2.2 (j, tr ad u) (List.mem_cons_of_mem _ (List.mem_filter.mpr ⟨lpr_mem.mpr ⟨u, hj, rfl⟩, ?_⟩))
    simp only [Bool.and_eq_true, Bool.not_eq_true', beq_eq_false_iff_ne, ne_eq, Bool.and_eq_false_iff]
    refine ⟨fun q => hij q.symm, fun q => hij1 q.symm, ?_⟩
    by_cases hq : j + 1 = i
    · exact Or.inr (by rw [tr_cat]; exact c1_at hc hq hj)
    · exact Or.inl hq

theorem V_iconst {n : Int} {v : Int32} (hd : decode D.2.1 pc = .ok (.iconst n, 1)) (hv : Int32.ofInt n = v) (k : V D b (pc + 1) L (.int v :: st) M Out) : V D b pc L (st) M Out := by
  intro p l e s m args below meth c H locs G ad0 n0 ad A ls hX
  exact lv_iconst hX.1.1 hX.1.2.1 hd hv (k p l e s m args below meth c H locs G ad0 n0 ad A ls hX)
theorem V_bipush {n : Int} {v : Int32} (hd : decode D.2.1 pc = .ok (.bipush n, 2)) (hv : (Int8.ofInt n).toInt32 = v) (k : V D b (pc + 2) L (.int v :: st) M Out) : V D b pc L (st) M Out := by
  intro p l e s m args below meth c H locs G ad0 n0 ad A ls hX
  exact lv_bipush hX.1.1 hX.1.2.1 hd hv (k p l e s m args below meth c H locs G ad0 n0 ad A ls hX)
theorem V_sipush {n : Int} {v : Int32} (hd : decode D.2.1 pc = .ok (.sipush n, 3)) (hv : (Int16.ofInt n).toInt32 = v) (k : V D b (pc + 3) L (.int v :: st) M Out) : V D b pc L (st) M Out := by
  intro p l e s m args below meth c H locs G ad0 n0 ad A ls hX
  exact lv_sipush hX.1.1 hX.1.2.1 hd hv (k p l e s m args below meth c H locs G ad0 n0 ad A ls hX)
theorem V_lconst {n : Fin 2} {v : Int64} (hd : decode D.2.1 pc = .ok (.lconst n, 1)) (hv : Int64.ofNat (n : Nat) = v) (k : V D b (pc + 1) L (.long v :: st) M Out) : V D b pc L (st) M Out := by
  intro p l e s m args below meth c H locs G ad0 n0 ad A ls hX
  exact lv_lconst hX.1.1 hX.1.2.1 hd hv (k p l e s m args below meth c H locs G ad0 n0 ad A ls hX)
theorem V_iload_n {j : Fin 4} {x : Int32} (hd : decode D.2.1 pc = .ok (.iload_n j, 1)) (hl : L[(j : Nat)]? = some (some (.int x))) (k : V D b (pc + 1) L (.int x :: st) M Out) : V D b pc L (st) M Out := by
  intro p l e s m args below meth c H locs G ad0 n0 ad A ls hX
  exact lv_iload_n hX.1.1 hX.1.2.1 hd rfl (hX.2.2.2.2.2.2.2.2.2.2 (j : Nat) _ hl) (k p l e s m args below meth c H locs G ad0 n0 ad A ls hX)
theorem V_iload {i : Nat} {x : Int32} (hd : decode D.2.1 pc = .ok (.iload i, 2)) (hl : L[i]? = some (some (.int x))) (k : V D b (pc + 2) L (.int x :: st) M Out) : V D b pc L (st) M Out := by
  intro p l e s m args below meth c H locs G ad0 n0 ad A ls hX
  exact lv_iload hX.1.1 hX.1.2.1 hd (hX.2.2.2.2.2.2.2.2.2.2 i _ hl) (k p l e s m args below meth c H locs G ad0 n0 ad A ls hX)
theorem V_lload_n {j : Fin 4} {x : Int64} (hd : decode D.2.1 pc = .ok (.lload_n j, 1)) (hl : L[(j : Nat)]? = some (some (.long x))) (k : V D b (pc + 1) L (.long x :: st) M Out) : V D b pc L (st) M Out := by
  intro p l e s m args below meth c H locs G ad0 n0 ad A ls hX
  exact lv_lload_n hX.1.1 hX.1.2.1 hd rfl (hX.2.2.2.2.2.2.2.2.2.2 (j : Nat) _ hl) (k p l e s m args below meth c H locs G ad0 n0 ad A ls hX)
theorem V_lload {i : Nat} {x : Int64} (hd : decode D.2.1 pc = .ok (.lload i, 2)) (hl : L[i]? = some (some (.long x))) (k : V D b (pc + 2) L (.long x :: st) M Out) : V D b pc L (st) M Out := by
  intro p l e s m args below meth c H locs G ad0 n0 ad A ls hX
  exact lv_lload hX.1.1 hX.1.2.1 hd (hX.2.2.2.2.2.2.2.2.2.2 i _ hl) (k p l e s m args below meth c H locs G ad0 n0 ad A ls hX)
theorem V_aload_n {j : Fin 4} {x : Nat} (hd : decode D.2.1 pc = .ok (.aload_n j, 1)) (hl : L[(j : Nat)]? = some (some (.ref x))) (k : V D b (pc + 1) L (.ref x :: st) M Out) : V D b pc L (st) M Out := by
  intro p l e s m args below meth c H locs G ad0 n0 ad A ls hX
  exact lv_aload_n hX.1.1 hX.1.2.1 hd rfl (hX.2.2.2.2.2.2.2.2.2.2 (j : Nat) _ hl) (k p l e s m args below meth c H locs G ad0 n0 ad A ls hX)
theorem V_aload {i : Nat} {x : Nat} (hd : decode D.2.1 pc = .ok (.aload i, 2)) (hl : L[i]? = some (some (.ref x))) (k : V D b (pc + 2) L (.ref x :: st) M Out) : V D b pc L (st) M Out := by
  intro p l e s m args below meth c H locs G ad0 n0 ad A ls hX
  exact lv_aload hX.1.1 hX.1.2.1 hd (hX.2.2.2.2.2.2.2.2.2.2 i _ hl) (k p l e s m args below meth c H locs G ad0 n0 ad A ls hX)
theorem V_istore_n {j : Fin 4} {x : Int32} (hd : decode D.2.1 pc = .ok (.istore_n j, 1)) (hi : (j : Nat) < L.length) (hc : c1 L (j : Nat) = true) (k : V D b (pc + 1) (L.set (j : Nat) (some (.int x))) st M Out) : V D b pc L (.int x :: st) M Out := by
  intro p l e s m args below meth c H locs G ad0 n0 ad A ls hX
  exact lv_istore_n hX.1.1 hX.1.2.1 hd rfl (hX.2.2.2.2.2.2.2).has (Nat.lt_of_lt_of_le hi hX.2.2.2.2.2.2.2.2.1) rfl (fun ls' hl => k p l e s m args below meth c H locs G ad0 n0 ad A ls' ⟨hX.1, hX.2.1, hX.2.2.1, hX.2.2.2.1, hX.2.2.2.2.1, hX.2.2.2.2.2.1, hX.2.2.2.2.2.2.1, Lh.set1 (v := .int x) rfl hX.2.2.2.2.2.2.2.2.1 hc hl⟩)
theorem V_istore {i : Nat} {x : Int32} (hd : decode D.2.1 pc = .ok (.istore i, 2)) (hi : i < L.length) (hc : c1 L i = true) (k : V D b (pc + 2) (L.set i (some (.int x))) st M Out) : V D b pc L (.int x :: st) M Out := by
  intro p l e s m args below meth c H locs G ad0 n0 ad A ls hX
  exact lv_istore hX.1.1 hX.1.2.1 hd (hX.2.2.2.2.2.2.2).has (Nat.lt_of_lt_of_le hi hX.2.2.2.2.2.2.2.2.1) rfl (fun ls' hl => k p l e s m args below meth c H locs G ad0 n0 ad A ls' ⟨hX.1, hX.2.1, hX.2.2.1, hX.2.2.2.1, hX.2.2.2.2.1, hX.2.2.2.2.2.1, hX.2.2.2.2.2.2.1, Lh.set1 (v := .int x) rfl hX.2.2.2.2.2.2.2.2.1 hc hl⟩)
theorem V_astore_n {j : Fin 4} {x : Nat} (hd : decode D.2.1 pc = .ok (.astore_n j, 1)) (hi : (j : Nat) < L.length) (hc : c1 L (j : Nat) = true) (k : V D b (pc + 1) (L.set (j : Nat) (some (.ref x))) st M Out) : V D b pc L (.ref x :: st) M Out := by
  intro p l e s m args below meth c H locs G ad0 n0 ad A ls hX
  exact lv_astore_n hX.1.1 hX.1.2.1 hd rfl (hX.2.2.2.2.2.2.2).has (Nat.lt_of_lt_of_le hi hX.2.2.2.2.2.2.2.2.1) rfl (fun ls' hl => k p l e s m args below meth c H locs G ad0 n0 ad A ls' ⟨hX.1, hX.2.1, hX.2.2.1, hX.2.2.2.1, hX.2.2.2.2.1, hX.2.2.2.2.2.1, hX.2.2.2.2.2.2.1, Lh.set1 (v := .ref x) rfl hX.2.2.2.2.2.2.2.2.1 hc hl⟩)
theorem V_astore {i : Nat} {x : Nat} (hd : decode D.2.1 pc = .ok (.astore i, 2)) (hi : i < L.length) (hc : c1 L i = true) (k : V D b (pc + 2) (L.set i (some (.ref x))) st M Out) : V D b pc L (.ref x :: st) M Out := by
  intro p l e s m args below meth c H locs G ad0 n0 ad A ls hX
  exact lv_astore hX.1.1 hX.1.2.1 hd (hX.2.2.2.2.2.2.2).has (Nat.lt_of_lt_of_le hi hX.2.2.2.2.2.2.2.2.1) rfl (fun ls' hl => k p l e s m args below meth c H locs G ad0 n0 ad A ls' ⟨hX.1, hX.2.1, hX.2.2.1, hX.2.2.2.1, hX.2.2.2.2.1, hX.2.2.2.2.2.1, hX.2.2.2.2.2.2.1, Lh.set1 (v := .ref x) rfl hX.2.2.2.2.2.2.2.2.1 hc hl⟩)
theorem V_lstore_n {j : Fin 4} {x : Int64} (hd : decode D.2.1 pc = .ok (.lstore_n j, 1)) (hi : (j : Nat) + 1 < L.length) (hc : c1 L (j : Nat) = true) (k : V D b (pc + 1) ((L.set (j : Nat) (some (.long x))).set ((j : Nat) + 1) none) st M Out) : V D b pc L (.long x :: st) M Out := by
  intro p l e s m args below meth c H locs G ad0 n0 ad A ls hX
  exact lv_lstore_n hX.1.1 hX.1.2.1 hd rfl (hX.2.2.2.2.2.2.2).has (Nat.lt_of_lt_of_le hi hX.2.2.2.2.2.2.2.2.1) rfl (fun ls' hl => k p l e s m args below meth c H locs G ad0 n0 ad A ls' ⟨hX.1, hX.2.1, hX.2.2.1, hX.2.2.2.1, hX.2.2.2.2.1, hX.2.2.2.2.2.1, hX.2.2.2.2.2.2.1, Lh.set2 (v := .long x) rfl hX.2.2.2.2.2.2.2.2.1 hc hl⟩)
theorem V_lstore {i : Nat} {x : Int64} (hd : decode D.2.1 pc = .ok (.lstore i, 2)) (hi : i + 1 < L.length) (hc : c1 L i = true) (k : V D b (pc + 2) ((L.set i (some (.long x))).set (i + 1) none) st M Out) : V D b pc L (.long x :: st) M Out := by
  intro p l e s m args below meth c H locs G ad0 n0 ad A ls hX
  exact lv_lstore hX.1.1 hX.1.2.1 hd (hX.2.2.2.2.2.2.2).has (Nat.lt_of_lt_of_le hi hX.2.2.2.2.2.2.2.2.1) rfl (fun ls' hl => k p l e s m args below meth c H locs G ad0 n0 ad A ls' ⟨hX.1, hX.2.1, hX.2.2.1, hX.2.2.2.1, hX.2.2.2.2.1, hX.2.2.2.2.2.1, hX.2.2.2.2.2.2.1, Lh.set2 (v := .long x) rfl hX.2.2.2.2.2.2.2.2.1 hc hl⟩)
theorem V_iinc {i : Nat} {n : Int} {x v : Int32} (hd : decode D.2.1 pc = .ok (.iinc i n, 3)) (hl : L[i]? = some (some (.int x))) (hv : x + Int32.ofInt n = v) (hc : c1 L i = true) (k : V D b (pc + 3) (L.set i (some (.int v))) st M Out) : V D b pc L st M Out := by
  intro p l e s m args below meth c H locs G ad0 n0 ad A ls hX
  obtain ⟨k0, hk0⟩ := List.getElem?_of_mem (lpr_mem.mpr ⟨_, hl, rfl⟩ : (i, tr ad (.int x)) ∈ lpr ad L)
  exact lv_iinc hX.1.1 hX.1.2.1 hd (hX.2.2.2.2.2.2.2).has hk0 hv (Nat.lt_of_lt_of_le (List.getElem?_eq_some_iff.mp hl).1 hX.2.2.2.2.2.2.2.2.1) rfl (fun ls' hl => k p l e s m args below meth c H locs G ad0 n0 ad A ls' ⟨hX.1, hX.2.1, hX.2.2.1, hX.2.2.2.1, hX.2.2.2.2.1, hX.2.2.2.2.2.1, hX.2.2.2.2.2.2.1, Lh.set1 (v := .int v) rfl hX.2.2.2.2.2.2.2.2.1 hc hl⟩)
theorem V_iadd {x y : Int32} (hd : decode D.2.1 pc = .ok (.iadd, 1)) (k : V D b (pc + 1) L (.int (x + y) :: st) M Out) : V D b pc L (.int y :: .int x :: st) M Out := by
  intro p l e s m args below meth c H locs G ad0 n0 ad A ls hX
  exact lv_iadd hX.1.1 hX.1.2.1 hd (k p l e s m args below meth c H locs G ad0 n0 ad A ls hX)
theorem V_isub {x y : Int32} (hd : decode D.2.1 pc = .ok (.isub, 1)) (k : V D b (pc + 1) L (.int (x - y) :: st) M Out) : V D b pc L (.int y :: .int x :: st) M Out := by
  intro p l e s m args below meth c H locs G ad0 n0 ad A ls hX
  exact lv_isub hX.1.1 hX.1.2.1 hd (k p l e s m args below meth c H locs G ad0 n0 ad A ls hX)
theorem V_imul {x y : Int32} (hd : decode D.2.1 pc = .ok (.imul, 1)) (k : V D b (pc + 1) L (.int (x * y) :: st) M Out) : V D b pc L (.int y :: .int x :: st) M Out := by
  intro p l e s m args below meth c H locs G ad0 n0 ad A ls hX
  exact lv_imul hX.1.1 hX.1.2.1 hd (k p l e s m args below meth c H locs G ad0 n0 ad A ls hX)
theorem V_iand {x y : Int32} (hd : decode D.2.1 pc = .ok (.iand, 1)) (k : V D b (pc + 1) L (.int (x &&& y) :: st) M Out) : V D b pc L (.int y :: .int x :: st) M Out := by
  intro p l e s m args below meth c H locs G ad0 n0 ad A ls hX
  exact lv_iand hX.1.1 hX.1.2.1 hd (k p l e s m args below meth c H locs G ad0 n0 ad A ls hX)
theorem V_ior {x y : Int32} (hd : decode D.2.1 pc = .ok (.ior, 1)) (k : V D b (pc + 1) L (.int (x ||| y) :: st) M Out) : V D b pc L (.int y :: .int x :: st) M Out := by
  intro p l e s m args below meth c H locs G ad0 n0 ad A ls hX
  exact lv_ior hX.1.1 hX.1.2.1 hd (k p l e s m args below meth c H locs G ad0 n0 ad A ls hX)
theorem V_ixor {x y : Int32} (hd : decode D.2.1 pc = .ok (.ixor, 1)) (k : V D b (pc + 1) L (.int (x ^^^ y) :: st) M Out) : V D b pc L (.int y :: .int x :: st) M Out := by
  intro p l e s m args below meth c H locs G ad0 n0 ad A ls hX
  exact lv_ixor hX.1.1 hX.1.2.1 hd (k p l e s m args below meth c H locs G ad0 n0 ad A ls hX)
theorem V_ishl {x y : Int32} (hd : decode D.2.1 pc = .ok (.ishl, 1)) (k : V D b (pc + 1) L (.int (x <<< (y &&& 31)) :: st) M Out) : V D b pc L (.int y :: .int x :: st) M Out := by
  intro p l e s m args below meth c H locs G ad0 n0 ad A ls hX
  exact lv_ishl hX.1.1 hX.1.2.1 hd (k p l e s m args below meth c H locs G ad0 n0 ad A ls hX)
theorem V_ishr {x y : Int32} (hd : decode D.2.1 pc = .ok (.ishr, 1)) (k : V D b (pc + 1) L (.int (x >>> (y &&& 31)) :: st) M Out) : V D b pc L (.int y :: .int x :: st) M Out := by
  intro p l e s m args below meth c H locs G ad0 n0 ad A ls hX
  exact lv_ishr hX.1.1 hX.1.2.1 hd (k p l e s m args below meth c H locs G ad0 n0 ad A ls hX)
theorem V_idiv {x y : Int32} (hd : decode D.2.1 pc = .ok (.idiv, 1)) (hne : ¬ y = 0) (k : V D b (pc + 1) L (.int (x / y) :: st) M Out) : V D b pc L (.int y :: .int x :: st) M Out := by
  intro p l e s m args below meth c H locs G ad0 n0 ad A ls hX
  exact lv_idiv hX.1.1 hX.1.2.1 hd hne (k p l e s m args below meth c H locs G ad0 n0 ad A ls hX)
theorem V_irem {x y : Int32} (hd : decode D.2.1 pc = .ok (.irem, 1)) (hne : ¬ y = 0) (k : V D b (pc + 1) L (.int (x - x / y * y) :: st) M Out) : V D b pc L (.int y :: .int x :: st) M Out := by
  intro p l e s m args below meth c H locs G ad0 n0 ad A ls hX
  exact lv_irem hX.1.1 hX.1.2.1 hd hne (k p l e s m args below meth c H locs G ad0 n0 ad A ls hX)
theorem V_ladd {x y : Int64} (hd : decode D.2.1 pc = .ok (.ladd, 1)) (k : V D b (pc + 1) L (.long (x + y) :: st) M Out) : V D b pc L (.long y :: .long x :: st) M Out := by
  intro p l e s m args below meth c H locs G ad0 n0 ad A ls hX
  exact lv_ladd hX.1.1 hX.1.2.1 hd (k p l e s m args below meth c H locs G ad0 n0 ad A ls hX)
theorem V_lsub {x y : Int64} (hd : decode D.2.1 pc = .ok (.lsub, 1)) (k : V D b (pc + 1) L (.long (x - y) :: st) M Out) : V D b pc L (.long y :: .long x :: st) M Out := by
  intro p l e s m args below meth c H locs G ad0 n0 ad A ls hX
  exact lv_lsub hX.1.1 hX.1.2.1 hd (k p l e s m args below meth c H locs G ad0 n0 ad A ls hX)
theorem V_lmul {x y : Int64} (hd : decode D.2.1 pc = .ok (.lmul, 1)) (k : V D b (pc + 1) L (.long (x * y) :: st) M Out) : V D b pc L (.long y :: .long x :: st) M Out := by
  intro p l e s m args below meth c H locs G ad0 n0 ad A ls hX
  exact lv_lmul hX.1.1 hX.1.2.1 hd (k p l e s m args below meth c H locs G ad0 n0 ad A ls hX)
theorem V_lcmp {x y : Int64} (hd : decode D.2.1 pc = .ok (.lcmp, 1)) (k : V D b (pc + 1) L (.int (lg_cmp x y) :: st) M Out) : V D b pc L (.long y :: .long x :: st) M Out := by
  intro p l e s m args below meth c H locs G ad0 n0 ad A ls hX
  exact W.lcmp hX.1.1 hX.1.2.1 hd (k p l e s m args below meth c H locs G ad0 n0 ad A ls hX)
theorem V_i2l {x : Int32} (hd : decode D.2.1 pc = .ok (.i2l, 1)) (k : V D b (pc + 1) L (.long x.toInt64 :: st) M Out) : V D b pc L (.int x :: st) M Out := by
  intro p l e s m args below meth c H locs G ad0 n0 ad A ls hX
  exact lv_i2l hX.1.1 hX.1.2.1 hd rfl (k p l e s m args below meth c H locs G ad0 n0 ad A ls hX)
theorem V_i2c {x : Int32} (hd : decode D.2.1 pc = .ok (.i2c, 1)) (k : V D b (pc + 1) L (.int (x.toUInt32 % 65536).toInt32 :: st) M Out) : V D b pc L (.int x :: st) M Out := by
  intro p l e s m args below meth c H locs G ad0 n0 ad A ls hX
  exact lv_i2c hX.1.1 hX.1.2.1 hd rfl (k p l e s m args below meth c H locs G ad0 n0 ad A ls hX)
theorem V_iushr {x y : Int32} (hd : decode D.2.1 pc = .ok (.iushr, 1)) (k : V D b (pc + 1) L (.int (x.toUInt32 >>> (y.toUInt32 &&& Int32.toUInt32 31)).toInt32 :: st) M Out) : V D b pc L (.int y :: .int x :: st) M Out := by
  intro p l e s m args below meth c H locs G ad0 n0 ad A ls hX
  exact lv_iushr hX.1.1 hX.1.2.1 hd rfl (k p l e s m args below meth c H locs G ad0 n0 ad A ls hX)
theorem V_dup {va : Value} (hd : decode D.2.1 pc = .ok (.dup, 1)) (hva : va.category = 1) (k : V D b (pc + 1) L (va :: va :: st) M Out) : V D b pc L (va :: st) M Out := by
  intro p l e s m args below meth c H locs G ad0 n0 ad A ls hX
  exact lv_dup hX.1.1 hX.1.2.1 hd ((tr_cat ad va).trans hva) (k p l e s m args below meth c H locs G ad0 n0 ad A ls hX)
theorem V_pop {va : Value} (hd : decode D.2.1 pc = .ok (.pop, 1)) (hva : va.category = 1) (k : V D b (pc + 1) L (st) M Out) : V D b pc L (va :: st) M Out := by
  intro p l e s m args below meth c H locs G ad0 n0 ad A ls hX
  exact lv_pop hX.1.1 hX.1.2.1 hd ((tr_cat ad va).trans hva) (k p l e s m args below meth c H locs G ad0 n0 ad A ls hX)
theorem V_dup2 {va vb : Value} (hd : decode D.2.1 pc = .ok (.dup2, 1)) (hva : va.category = 1) (hvb : vb.category = 1) (k : V D b (pc + 1) L (va :: vb :: va :: vb :: st) M Out) : V D b pc L (va :: vb :: st) M Out := by
  intro p l e s m args below meth c H locs G ad0 n0 ad A ls hX
  exact lv_dup2_11 hX.1.1 hX.1.2.1 hd ((tr_cat ad va).trans hva) ((tr_cat ad vb).trans hvb) (k p l e s m args below meth c H locs G ad0 n0 ad A ls hX)
theorem V_if_eq {x : Int32} {off : Int} (tgt : Nat) (hd : decode D.2.1 pc = .ok (.ifCond .eq off, 3)) (ht : (pc : Int) + off = (tgt : Int)) (kt : x = 0 → V D b tgt L st M Out) (kf : ¬ x = 0 → V D b (pc + 3) L st M Out) : V D b pc L (.int x :: st) M Out := by
  intro p l e s m args below meth c H locs G ad0 n0 ad A ls hX
  exact lv_if_eq (tgt := tgt) hX.1.1 hX.1.2.1 hd ht (fun h => kt h p l e s m args below meth c H locs G ad0 n0 ad A ls hX) (fun h => kf h p l e s m args below meth c H locs G ad0 n0 ad A ls hX)
theorem V_icmp_eq {x y : Int32} {off : Int} (tgt : Nat) (hd : decode D.2.1 pc = .ok (.if_icmp .eq off, 3)) (ht : (pc : Int) + off = (tgt : Int)) (kt : x = y → V D b tgt L st M Out) (kf : ¬ x = y → V D b (pc + 3) L st M Out) : V D b pc L (.int y :: .int x :: st) M Out := by
  intro p l e s m args below meth c H locs G ad0 n0 ad A ls hX
  exact lv_icmp_eq (tgt := tgt) hX.1.1 hX.1.2.1 hd ht (fun h => kt h p l e s m args below meth c H locs G ad0 n0 ad A ls hX) (fun h => kf h p l e s m args below meth c H locs G ad0 n0 ad A ls hX)
theorem V_if_ne {x : Int32} {off : Int} (tgt : Nat) (hd : decode D.2.1 pc = .ok (.ifCond .ne off, 3)) (ht : (pc : Int) + off = (tgt : Int)) (kt : ¬ x = 0 → V D b tgt L st M Out) (kf : x = 0 → V D b (pc + 3) L st M Out) : V D b pc L (.int x :: st) M Out := by
  intro p l e s m args below meth c H locs G ad0 n0 ad A ls hX
  exact lv_if_ne (tgt := tgt) hX.1.1 hX.1.2.1 hd ht (fun h => kt h p l e s m args below meth c H locs G ad0 n0 ad A ls hX) (fun h => kf h p l e s m args below meth c H locs G ad0 n0 ad A ls hX)
theorem V_icmp_ne {x y : Int32} {off : Int} (tgt : Nat) (hd : decode D.2.1 pc = .ok (.if_icmp .ne off, 3)) (ht : (pc : Int) + off = (tgt : Int)) (kt : ¬ x = y → V D b tgt L st M Out) (kf : x = y → V D b (pc + 3) L st M Out) : V D b pc L (.int y :: .int x :: st) M Out := by
  intro p l e s m args below meth c H locs G ad0 n0 ad A ls hX
  exact lv_icmp_ne (tgt := tgt) hX.1.1 hX.1.2.1 hd ht (fun h => kt h p l e s m args below meth c H locs G ad0 n0 ad A ls hX) (fun h => kf h p l e s m args below meth c H locs G ad0 n0 ad A ls hX)
theorem V_if_lt {x : Int32} {off : Int} (tgt : Nat) (hd : decode D.2.1 pc = .ok (.ifCond .lt off, 3)) (ht : (pc : Int) + off = (tgt : Int)) (kt : x < 0 → V D b tgt L st M Out) (kf : ¬ x < 0 → V D b (pc + 3) L st M Out) : V D b pc L (.int x :: st) M Out := by
  intro p l e s m args below meth c H locs G ad0 n0 ad A ls hX
  exact lv_if_lt (tgt := tgt) hX.1.1 hX.1.2.1 hd ht (fun h => kt h p l e s m args below meth c H locs G ad0 n0 ad A ls hX) (fun h => kf h p l e s m args below meth c H locs G ad0 n0 ad A ls hX)
theorem V_icmp_lt {x y : Int32} {off : Int} (tgt : Nat) (hd : decode D.2.1 pc = .ok (.if_icmp .lt off, 3)) (ht : (pc : Int) + off = (tgt : Int)) (kt : x < y → V D b tgt L st M Out) (kf : ¬ x < y → V D b (pc + 3) L st M Out) : V D b pc L (.int y :: .int x :: st) M Out := by
  intro p l e s m args below meth c H locs G ad0 n0 ad A ls hX
  exact lv_icmp_lt (tgt := tgt) hX.1.1 hX.1.2.1 hd ht (fun h => kt h p l e s m args below meth c H locs G ad0 n0 ad A ls hX) (fun h => kf h p l e s m args below meth c H locs G ad0 n0 ad A ls hX)
theorem V_if_ge {x : Int32} {off : Int} (tgt : Nat) (hd : decode D.2.1 pc = .ok (.ifCond .ge off, 3)) (ht : (pc : Int) + off = (tgt : Int)) (kt : 0 ≤ x → V D b tgt L st M Out) (kf : ¬ 0 ≤ x → V D b (pc + 3) L st M Out) : V D b pc L (.int x :: st) M Out := by
  intro p l e s m args below meth c H locs G ad0 n0 ad A ls hX
  exact lv_if_ge (tgt := tgt) hX.1.1 hX.1.2.1 hd ht (fun h => kt h p l e s m args below meth c H locs G ad0 n0 ad A ls hX) (fun h => kf h p l e s m args below meth c H locs G ad0 n0 ad A ls hX)
theorem V_icmp_ge {x y : Int32} {off : Int} (tgt : Nat) (hd : decode D.2.1 pc = .ok (.if_icmp .ge off, 3)) (ht : (pc : Int) + off = (tgt : Int)) (kt : y ≤ x → V D b tgt L st M Out) (kf : ¬ y ≤ x → V D b (pc + 3) L st M Out) : V D b pc L (.int y :: .int x :: st) M Out := by
  intro p l e s m args below meth c H locs G ad0 n0 ad A ls hX
  exact lv_icmp_ge (tgt := tgt) hX.1.1 hX.1.2.1 hd ht (fun h => kt h p l e s m args below meth c H locs G ad0 n0 ad A ls hX) (fun h => kf h p l e s m args below meth c H locs G ad0 n0 ad A ls hX)
theorem V_if_gt {x : Int32} {off : Int} (tgt : Nat) (hd : decode D.2.1 pc = .ok (.ifCond .gt off, 3)) (ht : (pc : Int) + off = (tgt : Int)) (kt : 0 < x → V D b tgt L st M Out) (kf : ¬ 0 < x → V D b (pc + 3) L st M Out) : V D b pc L (.int x :: st) M Out := by
  intro p l e s m args below meth c H locs G ad0 n0 ad A ls hX
  exact lv_if_gt (tgt := tgt) hX.1.1 hX.1.2.1 hd ht (fun h => kt h p l e s m args below meth c H locs G ad0 n0 ad A ls hX) (fun h => kf h p l e s m args below meth c H locs G ad0 n0 ad A ls hX)
theorem V_icmp_gt {x y : Int32} {off : Int} (tgt : Nat) (hd : decode D.2.1 pc = .ok (.if_icmp .gt off, 3)) (ht : (pc : Int) + off = (tgt : Int)) (kt : y < x → V D b tgt L st M Out) (kf : ¬ y < x → V D b (pc + 3) L st M Out) : V D b pc L (.int y :: .int x :: st) M Out := by
  intro p l e s m args below meth c H locs G ad0 n0 ad A ls hX
  exact lv_icmp_gt (tgt := tgt) hX.1.1 hX.1.2.1 hd ht (fun h => kt h p l e s m args below meth c H locs G ad0 n0 ad A ls hX) (fun h => kf h p l e s m args below meth c H locs G ad0 n0 ad A ls hX)
theorem V_if_le {x : Int32} {off : Int} (tgt : Nat) (hd : decode D.2.1 pc = .ok (.ifCond .le off, 3)) (ht : (pc : Int) + off = (tgt : Int)) (kt : x ≤ 0 → V D b tgt L st M Out) (kf : ¬ x ≤ 0 → V D b (pc + 3) L st M Out) : V D b pc L (.int x :: st) M Out := by
  intro p l e s m args below meth c H locs G ad0 n0 ad A ls hX
  exact lv_if_le (tgt := tgt) hX.1.1 hX.1.2.1 hd ht (fun h => kt h p l e s m args below meth c H locs G ad0 n0 ad A ls hX) (fun h => kf h p l e s m args below meth c H locs G ad0 n0 ad A ls hX)
theorem V_icmp_le {x y : Int32} {off : Int} (tgt : Nat) (hd : decode D.2.1 pc = .ok (.if_icmp .le off, 3)) (ht : (pc : Int) + off = (tgt : Int)) (kt : x ≤ y → V D b tgt L st M Out) (kf : ¬ x ≤ y → V D b (pc + 3) L st M Out) : V D b pc L (.int y :: .int x :: st) M Out := by
  intro p l e s m args below meth c H locs G ad0 n0 ad A ls hX
  exact lv_icmp_le (tgt := tgt) hX.1.1 hX.1.2.1 hd ht (fun h => kt h p l e s m args below meth c H locs G ad0 n0 ad A ls hX) (fun h => kf h p l e s m args below meth c H locs G ad0 n0 ad A ls hX)
theorem V_goto {off : Int} (tgt : Nat) (hd : decode D.2.1 pc = .ok (.goto off, 3)) (ht : (pc : Int) + off = (tgt : Int)) (k : V D b tgt L st M Out) : V D b pc L st M Out := by
  intro p l e s m args below meth c H locs G ad0 n0 ad A ls hX
  exact lv_goto (tgt := tgt) hX.1.1 hX.1.2.1 hd ht (k p l e s m args below meth c H locs G ad0 n0 ad A ls hX)
theorem V_tableIn {dflt lo hi : Int} {offs : Array Int} {len : Nat} {x : Int32} {off : Int} (tgt : Nat) (hd : decode D.2.1 pc = .ok (.tableswitch dflt lo hi offs, len)) (h1 : ¬ x.toInt < lo) (h2 : ¬ hi < x.toInt) (ho : offs[(x.toInt - lo).toNat]? = some off) (ht : (pc : Int) + off = (tgt : Int)) (k : V D b tgt L st M Out) : V D b pc L (.int x :: st) M Out := by
  intro p l e s m args below meth c H locs G ad0 n0 ad A ls hX
  exact lv_tableIn (tgt := tgt) hX.1.1 hX.1.2.1 hd h1 h2 ho ht (k p l e s m args below meth c H locs G ad0 n0 ad A ls hX)
theorem V_tableOut {dflt lo hi : Int} {offs : Array Int} {len : Nat} {x : Int32} (tgt : Nat) (hd : decode D.2.1 pc = .ok (.tableswitch dflt lo hi offs, len)) (h : x.toInt < lo ∨ hi < x.toInt) (ht : (pc : Int) + dflt = (tgt : Int)) (k : V D b tgt L st M Out) : V D b pc L (.int x :: st) M Out := by
  intro p l e s m args below meth c H locs G ad0 n0 ad A ls hX
  exact lv_tableOut (tgt := tgt) hX.1.1 hX.1.2.1 hd h ht (k p l e s m args below meth c H locs G ad0 n0 ad A ls hX)
theorem V_lookup {dflt : Int} {ps : Array (Int × Int)} {len : Nat} {x : Int32} {off : Int} (tgt : Nat) (hd : decode D.2.1 pc = .ok (.lookupswitch dflt ps, len)) (hp : (ps.toList.zip (ps.toList.drop 1)).all (fun (a, next) => a.1 < next.1) = true) (ho : Op.lookupswitch.offset ps.toList dflt x.toInt = off) (ht : (pc : Int) + off = (tgt : Int)) (k : V D b tgt L st M Out) : V D b pc L (.int x :: st) M Out := by
  intro p l e s m args below meth c H locs G ad0 n0 ad A ls hX
  exact lv_lookup (tgt := tgt) hX.1.1 hX.1.2.1 hd hp ho ht (k p l e s m args below meth c H locs G ad0 n0 ad A ls hX)
theorem V_ldc {i : Nat} {v : Int32} (hc : Cond.constant D.1.cls i v ∈ TT) (hd : decode D.2.1 pc = .ok (.ldc i, 2)) (k : V D b (pc + 2) L (.int v :: st) M Out) : V D b pc L st M Out := by
  intro p l e s m args below meth c H locs G ad0 n0 ad A ls hX
  exact lv_ldc hX.1.1 hX.1.2.1 hX.1.2.2.2.2.1 (hX.1.2.2.2.2.2.1 _ hc) hd (k p l e s m args below meth c H locs G ad0 n0 ad A ls hX)
theorem V_ldcw {i : Nat} {v : Int32} (hc : Cond.constant D.1.cls i v ∈ TT) (hd : decode D.2.1 pc = .ok (.ldc_w i, 3)) (k : V D b (pc + 3) L (.int v :: st) M Out) : V D b pc L st M Out := by
  intro p l e s m args below meth c H locs G ad0 n0 ad A ls hX
  exact lv_ldcw hX.1.1 hX.1.2.1 hX.1.2.2.2.2.1 (hX.1.2.2.2.2.2.1 _ hc) hd (k p l e s m args below meth c H locs G ad0 n0 ad A ls hX)
theorem V_ldc2 {i : Nat} {v : Int64} (hc : Cond.constantLong D.1.cls i v ∈ TT) (hd : decode D.2.1 pc = .ok (.ldc2_w i, 3)) (k : V D b (pc + 3) L (.long v :: st) M Out) : V D b pc L st M Out := by
  intro p l e s m args below meth c H locs G ad0 n0 ad A ls hX
  exact lv_ldc2 hX.1.1 hX.1.2.1 hX.1.2.2.2.2.1 (hX.1.2.2.2.2.2.1 _ hc) hd (k p l e s m args below meth c H locs G ad0 n0 ad A ls hX)
theorem Vx.done {D : MD} {L : List (Option Value)} {M : MM} {p : Program} {s : State} {m : MethodId} {args : Array Value} {meth : Method} {c : Code} {H : Heap} {locs : List Loc} {G : va_G} {ad0 : Nat → Nat} {n0 : Nat} {ad : Nat → Nat} {A : Nat → Prop} {ls : Array Slot} {Out : Option Value → MM → Prop} {v : Option Value} (hX : Vx D L M p s m args meth c H locs G ad0 n0 ad A ls) (ho : Out v M) (t : State) (ht : t.heap = H) (hW : s.WarmedH t.vm) : Qo G ad0 n0 A Out args s (.returned (v.map (tr ad))) t :=
  ⟨⟨v, M, ad, rfl, ho, hX.2.2.2.2.2.1, hX.2.2.2.2.2.2.1, by rw [ht]; exact hX.2.1.moved hW.alike⟩, hX.2.2.2.1.F ht⟩
theorem V_iret {x : Int32} (hr : D.2.2.2 = some .int) (hb : b.2.2.2.1 ≤ b.2.1 ∧ b.2.2.2.2 ≤ b.2.2.1) (hd : decode D.2.1 pc = .ok (.ireturn, 1)) (ho : Out (some (.int x)) M) : V D b pc L [.int x] M Out := by
  intro p l e s m args below meth c H locs G ad0 n0 ad A ls hX
  refine W.widen (k := b.2.1) (n := b.2.2.1) hb.1 hb.2 ?_
  exact W.iret hX.1.1 hX.1.2.1 (hX.1.2.2.2.1.trans hr) (hX.done ho) hX.2.2.2.1.2.2 hd hX.1.2.2.2.2.2.2.1
theorem V_lret {x : Int64} (hr : D.2.2.2 = some .long) (hb : b.2.2.2.1 ≤ b.2.1 ∧ b.2.2.2.2 ≤ b.2.2.1) (hd : decode D.2.1 pc = .ok (.lreturn, 1)) (ho : Out (some (.long x)) M) : V D b pc L [.long x] M Out := by
  intro p l e s m args below meth c H locs G ad0 n0 ad A ls hX
  refine W.widen (k := b.2.1) (n := b.2.2.1) hb.1 hb.2 ?_
  exact W.lret hX.1.1 hX.1.2.1 (hX.1.2.2.2.1.trans hr) (hX.done ho) hX.2.2.2.1.2.2 hd hX.1.2.2.2.2.2.2.1
theorem V_zret {x : Int32} {ty : FieldType} (hr : D.2.2.2 = some ty) (hn : narrow ty (.int x) = .int x) (hb : b.2.2.2.1 ≤ b.2.1 ∧ b.2.2.2.2 ≤ b.2.2.1) (hd : decode D.2.1 pc = .ok (.ireturn, 1)) (ho : Out (some (.int x)) M) : V D b pc L [.int x] M Out := by
  intro p l e s m args below meth c H locs G ad0 n0 ad A ls hX
  refine W.widen (k := b.2.1) (n := b.2.2.1) hb.1 hb.2 ?_
  exact W.zret hX.1.1 hX.1.2.1 (hX.1.2.2.2.1.trans hr) hn (hX.done ho) hX.2.2.2.1.2.2 hd hX.1.2.2.2.2.2.2.1
theorem V_vret (hr : D.2.2.2 = none) (hb : b.2.2.2.1 ≤ b.2.1 ∧ b.2.2.2.2 ≤ b.2.2.1) (hd : decode D.2.1 pc = .ok (.return_, 1)) (ho : Out none M) : V D b pc L [] M Out := by
  intro p l e s m args below meth c H locs G ad0 n0 ad A ls hX
  refine W.widen (k := b.2.1) (n := b.2.2.1) hb.1 hb.2 ?_
  exact W.vret hX.1.1 hX.1.2.1 (hX.1.2.2.2.1.trans hr) (hX.done ho) hX.2.2.2.1.2.2 hd hX.1.2.2.2.2.2.2.1
/-- a field's link: class own, its pool's entry, the kind of the object, the field's place -/
def FL (own : String) (idx ci k : Nat) : Prop := ∃ (C : String) (T : u_T) (N : Nat) (ty : Nat → FieldType), vwCl[ci]? = some (C, T, N) ∧ (∀ w ∈ u_ws C T N, w ∈ TT) ∧ k < N ∧ Cond.fieldLink own idx (T k).1 (T k).2.1 (T k).2.2.1 ∈ TT ∧ (∀ k, k < N → parseFieldDescriptor (T k).2.2.1 = some (ty k)) ∧ (∀ a, a < N → ∀ b, b < N → a ≠ b → (T a).2.1 ≠ (T b).2.1)
/-- an int field that may be written -/
def FP (own : String) (idx ci k : Nat) : Prop := ∃ (C : String) (T : u_T) (N : Nat) (ty : Nat → FieldType), vwCl[ci]? = some (C, T, N) ∧ (∀ w ∈ u_ws C T N, w ∈ TT) ∧ k < N ∧ Cond.fieldLink own idx (T k).1 (T k).2.1 (T k).2.2.1 ∈ TT ∧ (∀ k, k < N → parseFieldDescriptor (T k).2.2.1 = some (ty k)) ∧ (∀ a, a < N → ∀ b, b < N → a ≠ b → (T a).2.1 ≠ (T b).2.1) ∧ (T k).2.2.2 = false ∧ ty k = .int
/-- a final field of references, written in a constructor -/
def FF (own : String) (idx ci k : Nat) : Prop := ∃ (C : String) (T : u_T) (N : Nat) (ty : Nat → FieldType), vwCl[ci]? = some (C, T, N) ∧ (∀ w ∈ u_ws C T N, w ∈ TT) ∧ k < N ∧ Cond.fieldLink own idx (T k).1 (T k).2.1 (T k).2.2.1 ∈ TT ∧ (∀ k, k < N → parseFieldDescriptor (T k).2.2.1 = some (ty k)) ∧ (∀ a, a < N → ∀ b, b < N → a ≠ b → (T a).2.1 ≠ (T b).2.1) ∧ (T k).2.2.2 = true ∧ (T k).1 = own ∧ (∀ q : Nat, narrow (ty k) (.ref q) = .ref q ∧ fits (ty k) (.ref q) = true)
theorem Hl.at {G : va_G} {ad : Nat → Nat} {M : MM} {ca : Nat → ClassId} {a : Nat} {x : CC} (h : M[a]? = some x) : (wsF ad ca 0 M)[a]? = some (ad a, toE ad (ca a) x) := by
  rw [wsF_get, h, Nat.zero_add]; rfl
theorem V_get {idx ci f a : Nat} {fs : List Value} {v : Value} (hf : FL D.1.cls idx ci f) (hM : M[a]? = some (cO ci fs)) (hv : fs[f]? = some v) (hd : decode D.2.1 pc = .ok (.getfield idx, 3)) (k : V D b (pc + 3) L (v :: st) M Out) : V D b pc L (.ref a :: st) M Out := by
  intro p l e s m args below meth c H locs G ad0 n0 ad A ls hX
  obtain ⟨C, T, N, ty, h1, h2, h3, h4, -, -⟩ := hf
  obtain ⟨ca, hP, -, hK, -⟩ := hX.2.1
  exact va_get hX.1.1 hX.1.2.1 hX.1.2.2.2.2.2.1 h2 hX.1.2.2.2.2.1 hK hP a (Hl.at (G := G) hM) h1 f h3 (hX.1.2.2.2.2.2.1 _ h4) (fun _ h => h) (by rw [List.getElem?_map, hv]; rfl) hd (k p l e s m args below meth c H locs G ad0 n0 ad A ls hX)
theorem okM_set {n : Nat} {M : MM} {a : Nat} {x : CC} (h : okM n M) (hx : okC n x = true) : okM n (M.set a x) := fun y hy => (List.mem_or_eq_of_mem_set hy).elim (h y) (fun e => e ▸ hx)
/-- behind a store -/
theorem Vx.put {D : MD} {L : List (Option Value)} {M : MM} {p : Program} {s : State} {m : MethodId} {args : Array Value} {meth : Method} {c : Code} {H H1 : Heap} {locs locs1 : List Loc} {G : va_G} {ad0 : Nat → Nat} {n0 : Nat} {ad : Nat → Nat} {A : Nat → Prop} {ls : Array Slot} {a : Nat} {x y : CC} {ca : Nat → ClassId} (hX : Vx D L M p s m args meth c H locs G ad0 n0 ad A ls) (hy : M[a]? = some y) (ht : tyE x = tyE y) (hx : okC M.length x = true)
    (hP : va_P G vwCl ((wsF ad ca 0 M).set a (ad a, toE ad (ca a) x)) H1) (hD : va_D A ((wsF ad ca 0 M).set a (ad a, toE ad (ca a) x))) (hK : va_K G vwCl [] s) (hT : ∀ (i : Nat) (x : CC) (ty : FieldType), M[i]? = some x → tyE x = some ty → ArrOfT s (ca i) ty ∧ va_RA s (ca i) ty) (hS : va_S A s.heap H1 locs1) : Vx D L (M.set a x) p s m args meth c H1 locs1 G ad0 n0 ad A ls := by
  have e := wsF_set ad ca x M 0 a
  rw [Nat.zero_add] at e
  rw [e] at hP hD
  obtain ⟨_, -, -, -, -, ho, hl⟩ := hX.2.1
  have hlen : (M.set a x).length = M.length := List.length_set
  refine ⟨hX.1, ⟨ca, hP, hD, hK, fun i z ty hz hty => ?_, by rw [hlen]; exact okM_set ho hx, by rw [hlen]; exact hl⟩, hX.2.2.1, hS, hX.2.2.2.2.1, by rw [hlen]; exact hX.2.2.2.2.2.1, by rw [hlen]; exact hX.2.2.2.2.2.2.1, hX.2.2.2.2.2.2.2⟩
  rw [List.getElem?_set] at hz
  by_cases hi : a = i
  · subst hi
    rw [if_pos rfl] at hz
    split at hz
    · cases hz
      exact hT a y ty hy (ht ▸ hty)
    · cases hz
  · rw [if_neg hi] at hz
    exact hT i z ty hz hty
theorem okC_at {n : Nat} {M : MM} {a : Nat} {x : CC} (h : okM n M) (hx : M[a]? = some x) : okC n x = true := h x (List.mem_of_getElem? hx)
theorem all_set {n k : Nat} {fs : List Value} {v : Value} (h : fs.all (okV n) = true) (hv : okV n v = true) : (fs.set k v).all (okV n) = true := List.all_eq_true.mpr fun y hy => (List.mem_or_eq_of_mem_set hy).elim (List.all_eq_true.mp h y) (fun e => e ▸ hv)
theorem V_put {idx ci f a : Nat} {fs : List Value} {v : Int32} (hf : FP D.1.cls idx ci f) (hM : M[a]? = some (cO ci fs)) (hl : f < fs.length) (hd : decode D.2.1 pc = .ok (.putfield idx, 3)) (k : V D b (pc + 3) L st (M.set a (cO ci (fs.set f (.int v)))) Out) : V D b pc L (.int v :: .ref a :: st) M Out := by
  intro p l e' s m args below meth c H locs G ad0 n0 ad A ls hX
  obtain ⟨C, T, N, ty, h1, h2, h3, h4, h5, h6, h7, h8⟩ := hf
  obtain ⟨ca, hP, hD, hK, hT, ho, -⟩ := id hX.2.1
  refine va_put (v := .int v) (ty := .int) hX.1.1 hX.1.2.1 hX.1.2.2.2.2.2.1 h2 ty h5 h6 hX.1.2.2.2.2.1 hK hP hD hX.2.2.2.1 a (Hl.at (G := G) hM) h1 f h3 (hX.1.2.2.2.2.2.1 _ h4) (fun _ h => h) h7 (h8 ▸ h5 f h3) rfl rfl (by simpa using hl) hd (fun H1 locs1 g1 g2 g3 => ?_)
  have e : (.inr (ci, (fs.map (tr ad)).set f (.int v)) : va_E) = toE ad (ca a) (cO ci (fs.set f (.int v))) := by
    show _ = Sum.inr (ci, (fs.set f (.int v)).map (tr ad)); rw [List.map_set]; rfl
  rw [e] at g1 g2
  exact k p l e' s m args below meth c H1 locs1 G ad0 n0 ad A ls (hX.put hM rfl (all_set (okC_at ho hM) rfl) g1 g2 hK hT g3)
theorem V_putF {idx ci f a q : Nat} {fs : List Value} (hf : FF D.1.cls idx ci f) (hi : D.1.name = "<init>") (hM : M[a]? = some (cO ci fs)) (hl : f < fs.length) (hq : okV M.length (.ref q) = true) (hd : decode D.2.1 pc = .ok (.putfield idx, 3)) (k : V D b (pc + 3) L st (M.set a (cO ci (fs.set f (.ref q)))) Out) : V D b pc L (.ref q :: .ref a :: st) M Out := by
  intro p l e' s m args below meth c H locs G ad0 n0 ad A ls hX
  obtain ⟨C, T, N, ty, h1, h2, h3, h4, h5, h6, h7, h8, h9⟩ := hf
  obtain ⟨ca, hP, hD, hK, hT, ho, -⟩ := id hX.2.1
  refine va_putF (v := .ref (ad q)) (ty := ty f) hX.1.1 hX.1.2.1 hX.1.2.2.2.2.2.1 h2 ty h5 h6 hX.1.2.2.2.2.1 hK hP hD hX.2.2.2.1 a (Hl.at (G := G) hM) h1 f h3 (hX.1.2.2.2.2.2.1 _ h4) (fun _ h => h) h7 (hX.1.2.2.2.2.2.2.2.trans hi) h8 (h5 f h3) (h9 _).1 (h9 _).2 (by simpa using hl) hd (fun H1 locs1 g1 g2 g3 => ?_)
  have e : (.inr (ci, (fs.map (tr ad)).set f (.ref (ad q))) : va_E) = toE ad (ca a) (cO ci (fs.set f (.ref q))) := by
    show _ = Sum.inr (ci, (fs.set f (.ref q)).map (tr ad)); rw [List.map_set]; rfl
  rw [e] at g1 g2
  exact k p l e' s m args below meth c H1 locs1 G ad0 n0 ad A ls (hX.put hM rfl (all_set (okC_at ho hM) hq) g1 g2 hK hT g3)
theorem kT {G : va_G} {s : State} {cA : ClassId} {ty : FieldType} (hK : va_K G vwCl [] s) (h : ArrOfT s cA ty ∧ va_RA s cA ty) : va_K G vwCl [(cA, ty)] s := ⟨hK.1, fun k q hq => by
  cases k with
  | zero => cases hq; exact h
  | succ k => simp at hq⟩
theorem getD_set (l : List Int32) (k : Nat) (x : Int32) (hk : k < l.length) : (fun j => (l.set k x).getD j 0) = upd (fun j => l.getD j 0) k x := by
  funext j
  unfold upd
  simp only [List.getD_eq_getElem?_getD, List.getElem?_set]
  by_cases h : k = j
  · subst h; simp [hk]
  · rw [if_neg h, if_neg (fun e : j = k => h e.symm)]
theorem V_iald {a : Nat} {l : List Int32} {x : Int32} (hM : M[a]? = some (cI l)) (hx : vp_in x l.length) (hd : decode D.2.1 pc = .ok (.iaload, 1)) (k : V D b (pc + 1) L (.int (l.getD x.toNatClampNeg 0) :: st) M Out) : V D b pc L (.int x :: .ref a :: st) M Out := by
  intro p l' e' s m args below meth c H locs G ad0 n0 ad A ls hX
  obtain ⟨ca, hP, -, hK, hT, -⟩ := hX.2.1
  exact va_iald (tys := [(ca a, .int)]) hX.1.1 hX.1.2.1 (kT hK (hT a _ .int hM rfl)) hP a 0 (Hl.at (G := G) hM) rfl hx hd (k p l' e' s m args below meth c H locs G ad0 n0 ad A ls hX)
theorem V_iast {a : Nat} {l : List Int32} {x y : Int32} (hM : M[a]? = some (cI l)) (hx : vp_in x l.length) (hd : decode D.2.1 pc = .ok (.iastore, 1)) (k : V D b (pc + 1) L st (M.set a (cI (l.set x.toNatClampNeg y))) Out) : V D b pc L (.int y :: .int x :: .ref a :: st) M Out := by
  intro p l' e' s m args below meth c H locs G ad0 n0 ad A ls hX
  obtain ⟨ca, hP, hD, hK, hT, ho, -⟩ := id hX.2.1
  refine va_iast (tys := [(ca a, .int)]) hX.1.1 hX.1.2.1 (kT hK (hT a _ .int hM rfl)) hP hD hX.2.2.2.1 a 0 (Hl.at (G := G) hM) rfl hx hd (fun H1 locs1 g1 g2 g3 => ?_)
  have hlt : x.toNatClampNeg < l.length := Nat.not_le.mp fun q => hx (Or.inr q)
  have e : (.inl (ca a, l.length, .inl (upd (fun j => l.getD j 0) x.toNatClampNeg y)) : va_E) = toE ad (ca a) (cI (l.set x.toNatClampNeg y)) := by
    show _ = Sum.inl (ca a, (l.set x.toNatClampNeg y).length, Sum.inl (fun j => (l.set x.toNatClampNeg y).getD j 0)); rw [getD_set l _ _ hlt, List.length_set]
  rw [e] at g1 g2
  exact k p l' e' s m args below meth c H1 locs1 G ad0 n0 ad A ls (hX.put hM rfl rfl g1 g2 hK hT g3)
theorem V_zald {a : Nat} {l : List Int32} {x : Int32} (hM : M[a]? = some (cZ l)) (hx : vp_in x l.length) (hd : decode D.2.1 pc = .ok (.baload, 1)) (k : V D b (pc + 1) L (.int (l.getD x.toNatClampNeg 0) :: st) M Out) : V D b pc L (.int x :: .ref a :: st) M Out := by
  intro p l' e' s m args below meth c H locs G ad0 n0 ad A ls hX
  obtain ⟨ca, hP, -, hK, hT, -⟩ := hX.2.1
  exact va_zald (tys := [(ca a, .boolean)]) hX.1.1 hX.1.2.1 (kT hK (hT a _ .boolean hM rfl)) hP a 0 (Hl.at (G := G) hM) rfl hx hd (k p l' e' s m args below meth c H locs G ad0 n0 ad A ls hX)
theorem V_zast {a : Nat} {l : List Int32} {x y : Int32} (hM : M[a]? = some (cZ l)) (hx : vp_in x l.length) (hy : vp_nar .boolean y = y) (hd : decode D.2.1 pc = .ok (.bastore, 1)) (k : V D b (pc + 1) L st (M.set a (cZ (l.set x.toNatClampNeg y))) Out) : V D b pc L (.int y :: .int x :: .ref a :: st) M Out := by
  intro p l' e' s m args below meth c H locs G ad0 n0 ad A ls hX
  obtain ⟨ca, hP, hD, hK, hT, ho, -⟩ := id hX.2.1
  refine va_zast (tys := [(ca a, .boolean)]) hX.1.1 hX.1.2.1 (kT hK (hT a _ .boolean hM rfl)) hP hD hX.2.2.2.1 a 0 (Hl.at (G := G) hM) rfl hx hd (fun H1 locs1 g1 g2 g3 => ?_)
  have hlt : x.toNatClampNeg < l.length := Nat.not_le.mp fun q => hx (Or.inr q)
  rw [hy] at g1 g2
  have e : (.inl (ca a, l.length, .inl (upd (fun j => l.getD j 0) x.toNatClampNeg y)) : va_E) = toE ad (ca a) (cZ (l.set x.toNatClampNeg y)) := by
    show _ = Sum.inl (ca a, (l.set x.toNatClampNeg y).length, Sum.inl (fun j => (l.set x.toNatClampNeg y).getD j 0)); rw [getD_set l _ _ hlt, List.length_set]
  rw [e] at g1 g2
  exact k p l' e' s m args below meth c H1 locs1 G ad0 n0 ad A ls (hX.put hM rfl rfl g1 g2 hK hT g3)
theorem V_aald {a q : Nat} {l : List (Option Nat)} {x : Int32} (hM : M[a]? = some (cR l)) (hx : vp_in x l.length) (hq : l.getD x.toNatClampNeg none = some q) (hd : decode D.2.1 pc = .ok (.aaload, 1)) (k : V D b (pc + 1) L (.ref q :: st) M Out) : V D b pc L (.int x :: .ref a :: st) M Out := by
  intro p l' e' s m args below meth c H locs G ad0 n0 ad A ls hX
  obtain ⟨ca, hP, -, hK, hT, -⟩ := hX.2.1
  refine va_aldq (tys := [(ca a, .object "WhoseThread$Loom")]) hX.1.1 hX.1.2.1 (kT hK (hT a _ _ hM rfl)) hP a 0 (Hl.at (G := G) hM) rfl hx hd ?_
  have e : va_rf ((l.getD x.toNatClampNeg none).map ad) = tr ad (.ref q) := by rw [hq]; rfl
  rw [e]
  exact k p l' e' s m args below meth c H locs G ad0 n0 ad A ls hX
theorem V_alen {a : Nat} {l : List Int32} (hM : M[a]? = some (cI l)) (hd : decode D.2.1 pc = .ok (.arraylength, 1)) (k : V D b (pc + 1) L (.int (nI l.length) :: st) M Out) : V D b pc L (.ref a :: st) M Out := by
  intro p l' e' s m args below meth c H locs G ad0 n0 ad A ls hX
  obtain ⟨ca, hP, -, hK, hT, -⟩ := hX.2.1
  exact va_alen (tys := [(ca a, .int)]) hX.1.1 hX.1.2.1 (kT hK (hT a _ .int hM rfl)) hP a 0 (Hl.at (G := G) hM) rfl rfl hd (k p l' e' s m args below meth c H locs G ad0 n0 ad A ls hX)
end VR
