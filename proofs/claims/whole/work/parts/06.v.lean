/-! THE ABSTRACT MACHINE. A memory M is a row of cells (int arrays, boolean arrays, arrays of looms, objects); a value's reference is a cell's place in M (1000 + i: the i-th text constant, 1100 + i: its bytes). V: from here the method comes to its end with Out. Con: a method's contract. -/
abbrev CC : Type := List Int32 ⊕ (List Int32 ⊕ (List (Option Nat) ⊕ (Nat × List Value)))
abbrev MM : Type := List CC
abbrev cI (l : List Int32) : CC := .inl l
abbrev cZ (l : List Int32) : CC := .inr (.inl l)
abbrev cR (l : List (Option Nat)) : CC := .inr (.inr (.inl l))
abbrev cO (t : Nat) (fs : List Value) : CC := .inr (.inr (.inr (t, fs)))
def tr (ad : Nat → Nat) (v : Value) : Value := match v with
  | .ref k => .ref (ad k)
  | w => w
def toE (ad : Nat → Nat) (cA : ClassId) (x : CC) : va_E := match x with
  | .inl l => .inl (cA, l.length, .inl (fun j => l.getD j 0))
  | .inr (.inl l) => .inl (cA, l.length, .inl (fun j => l.getD j 0))
  | .inr (.inr (.inl l)) => .inl (cA, l.length, .inr (.inr (.inr (.inr (fun j => (l.getD j none).map ad)))))
  | .inr (.inr (.inr (t, fs))) => .inr (t, fs.map (tr ad))
def tyE (x : CC) : Option FieldType := match x with
  | .inl _ => some .int
  | .inr (.inl _) => some .boolean
  | .inr (.inr (.inl _)) => some (.object "WhoseThread$Loom")
  | .inr (.inr (.inr _)) => none
def wsF (ad : Nat → Nat) (ca : Nat → ClassId) : Nat → MM → va_W
  | _, [] => []
  | k, x :: r => (ad k, toE ad (ca k) x) :: wsF ad ca (k + 1) r
theorem wsF_get (ad : Nat → Nat) (ca : Nat → ClassId) : ∀ (M : MM) (k i : Nat), (wsF ad ca k M)[i]? = M[i]?.map (fun x => (ad (k + i), toE ad (ca (k + i)) x)) := by
  intro M
  induction M with
  | nil => intro k i; simp [wsF]
  | cons x r ih =>
    intro k i
    cases i with
    | zero => simp [wsF]
    | succ i =>
      rw [wsF, List.getElem?_cons_succ, List.getElem?_cons_succ, ih, Nat.add_right_comm k 1 i, Nat.add_assoc k i 1]
theorem wsF_set (ad : Nat → Nat) (ca : Nat → ClassId) (x : CC) : ∀ (M : MM) (k i : Nat), (wsF ad ca k M).set i (ad (k + i), toE ad (ca (k + i)) x) = wsF ad ca k (M.set i x) := by
  intro M
  induction M with
  | nil => intro k i; simp [wsF]
  | cons y r ih =>
    intro k i
    cases i with
    | zero => simp [wsF]
    | succ i =>
      have h := ih (k + 1) i
      rw [Nat.add_right_comm k 1 i, Nat.add_assoc k i 1] at h
      rw [wsF, List.set_cons_succ, List.set_cons_succ, wsF, h]
theorem wsF_app (ad : Nat → Nat) (ca : Nat → ClassId) (x : CC) : ∀ (M : MM) (k : Nat), wsF ad ca k (M ++ [x]) = wsF ad ca k M ++ [(ad (k + M.length), toE ad (ca (k + M.length)) x)] := by
  intro M
  induction M with
  | nil => intro k; simp [wsF]
  | cons y r ih =>
    intro k
    rw [List.cons_append, wsF, ih (k + 1), wsF, List.cons_append, List.length_cons, Nat.add_right_comm k 1, Nat.add_assoc k r.length 1]
def okV (n : Nat) (v : Value) : Bool := match v with
  | .ref k => decide (k < n) || decide (1000 ≤ k)
  | _ => true
def okC (n : Nat) (x : CC) : Bool := match x with
  | .inr (.inr (.inl l)) => l.all (fun o => match o with
    | some k => decide (k < n)
    | none => true)
  | .inr (.inr (.inr (_, fs))) => fs.all (okV n)
  | _ => true
def okM (n : Nat) (M : MM) : Prop := ∀ x ∈ M, okC n x = true
/-- what addresses may become: old places keep theirs; nothing new, nothing else -/
def Ext (n0 : Nat) (ad0 : Nat → Nat) (n : Nat) (ad : Nat → Nat) : Prop := (∀ k, (k < n0 ∨ 1000 ≤ k) → ad k = ad0 k) ∧ (n = n0 → ad = ad0)
theorem Ext.rf {n : Nat} {ad : Nat → Nat} : Ext n ad n ad := ⟨fun _ _ => rfl, fun _ => rfl⟩
theorem Ext.trans {n0 n1 n2 : Nat} {a0 a1 a2 : Nat → Nat} (h : Ext n0 a0 n1 a1) (g : Ext n1 a1 n2 a2) (h1 : n0 ≤ n1) (h2 : n1 ≤ n2) : Ext n0 a0 n2 a2 :=
  ⟨fun k hk => (g.1 k (by omega)).trans (h.1 k hk), fun e => (g.2 (by omega)).trans (h.2 (by omega))⟩
theorem tr_ext {n : Nat} {ad ad' : Nat → Nat} (h : ∀ k, (k < n ∨ 1000 ≤ k) → ad' k = ad k) {v : Value} (hv : okV n v = true) : tr ad' v = tr ad v := by
  cases v <;> try rfl
  rename_i k
  simp only [okV, Bool.or_eq_true, decide_eq_true_eq] at hv
  simp only [tr, h k hv]
theorem tr_map {n : Nat} {ad ad' : Nat → Nat} (h : ∀ k, (k < n ∨ 1000 ≤ k) → ad' k = ad k) {vs : List Value} (hv : vs.all (okV n) = true) : vs.map (tr ad') = vs.map (tr ad) :=
  List.map_congr_left fun v hm => tr_ext h (List.all_eq_true.mp hv v hm)
theorem toE_ext {n : Nat} {ad ad' : Nat → Nat} (h : ∀ k, (k < n ∨ 1000 ≤ k) → ad' k = ad k) {x : CC} (hx : okC n x = true) (cA : ClassId) : toE ad' cA x = toE ad cA x := by
  match x, hx with
  | .inl l, _ => rfl
  | .inr (.inl l), _ => rfl
  | .inr (.inr (.inl l)), hx =>
    have e : (fun j => (l.getD j none).map ad') = (fun j => (l.getD j none).map ad) := by
      funext j
      cases hj : l.getD j none with
      | none => rfl
      | some k =>
        have hm : some k ∈ l := by
          rw [List.getD_eq_getElem?_getD] at hj
          cases hq : l[j]? with
          | none => rw [hq] at hj; cases hj
          | some o => rw [hq] at hj; simp at hj; subst hj; exact List.mem_of_getElem? hq
        have := List.all_eq_true.mp hx (some k) hm
        simp only [decide_eq_true_eq] at this
        simp only [Option.map_some, h k (Or.inl this)]
    simp only [toE, e]
  | .inr (.inr (.inr (t, fs))), hx => simp only [toE, tr_map h hx]
theorem wsF_ext {n : Nat} {ad ad' : Nat → Nat} {ca ca' : Nat → ClassId} (h : ∀ k, (k < n ∨ 1000 ≤ k) → ad' k = ad k) (hc : ∀ k, k < n → ca' k = ca k) : ∀ (M : MM) (k : Nat), k + M.length ≤ n → okM n M → wsF ad' ca' k M = wsF ad ca k M := by
  intro M
  induction M with
  | nil => intro k _ _; rfl
  | cons x r ih =>
    intro k hk ho
    have hk' : k + (r.length + 1) ≤ n := hk
    rw [wsF, wsF, ih (k + 1) (by omega) (fun y hy => ho y (List.mem_cons_of_mem _ hy)), h k (Or.inl (by omega)), hc k (by omega), toE_ext h (ho x List.mem_cons_self)]
/-- the words that hold at every body -/
def TT : List Cond := lw_tbl.filter goodWord
theorem TT_good (w : Cond) (h : w ∈ TT) : (w.onTables && w.keeps) = true ∨ ∃ ty, w = .arrayClass ty := good_of_word (List.mem_filter.mp h).2
theorem TT_of {w : Cond} (i : Nat) (h : tables_1[i]? = some w) (hg : goodWord w = true) : w ∈ TT := List.mem_filter.mpr ⟨List.mem_append_right _ (List.mem_of_getElem? h), hg⟩
theorem TT_sel {w : Cond} (i : Nat) (h : (k2_sels lw_privs)[i]? = some w) (hg : goodWord w = true) : w ∈ TT := List.mem_filter.mpr ⟨List.mem_append_left _ (List.mem_of_getElem? h), hg⟩
theorem TT_lw {w : Cond} (h : w ∈ TT) : w ∈ lw_tbl := (List.mem_filter.mp h).1
abbrev MD : Type := MethodName × ByteArray × Nat × Option FieldType
def wsD (D : MD) : List Cond := .code D.1 D.2.1 D.2.2.1 D.2.2.2 :: TT
theorem wsD_good {D : MD} (h : Cond.code D.1 D.2.1 D.2.2.1 D.2.2.2 ∈ TT) : GoodIn TT (wsD D) := fun w hw => (List.mem_cons.mp hw).elim (fun e => e ▸ ⟨h, TT_good _ h⟩) (fun h => ⟨h, TT_good w h⟩)
def txL : List (Nat × String) := [(99, "plain"), (105, "brave"), (107, "silk"), (109, "endless"), (111, "over"), (112, "knot"), (114, "cut"), (116, "loom"), (118, "calm"), (120, "free")]
def txB : List (List Int32) := [[112, 108, 97, 105, 110], [98, 114, 97, 118, 101], [115, 105, 108, 107], [101, 110, 100, 108, 101, 115, 115], [111, 118, 101, 114], [107, 110, 111, 116], [99, 117, 116], [108, 111, 111, 109], [99, 97, 108, 109], [102, 114, 101, 101]]
def txN : List Nat := [5, 5, 4, 7, 4, 4, 3, 4, 4, 4]
def NWs : List Cond := [.methodLinkNest "WhoseThread" 11 ⟨"WhoseThread$Text", "<init>", "()V"⟩ "WhoseThread", .methodLinkNest "WhoseThread" 18 ⟨"WhoseThread$Telling", "<init>", "()V"⟩ "WhoseThread",
  .methodLinkNest "WhoseThread$Dealing" 50 ⟨"WhoseThread", "bit", "(I)I"⟩ "WhoseThread", .methodLinkNest "WhoseThread$Dealing" 71 ⟨"WhoseThread", "has", "(II)Z"⟩ "WhoseThread",
  .methodLinkNest "WhoseThread$Loom" 56 ⟨"WhoseThread", "has", "(II)Z"⟩ "WhoseThread", .methodLinkNest "WhoseThread$Loom" 74 ⟨"WhoseThread", "bit", "(I)I"⟩ "WhoseThread", .methodLinkNest "WhoseThread$Loom" 77 ⟨"WhoseThread", "spread", "([III)I"⟩ "WhoseThread",
  .methodLinkNest "WhoseThread$Tailing" 51 ⟨"WhoseThread", "has", "(II)Z"⟩ "WhoseThread", .methodLinkNest "WhoseThread$Tailing" 72 ⟨"WhoseThread", "bit", "(I)I"⟩ "WhoseThread",
  .methodLinkNest "WhoseThread$Telling" 49 ⟨"WhoseThread", "bit", "(I)I"⟩ "WhoseThread", .methodLinkNest "WhoseThread$Telling" 63 ⟨"WhoseThread", "has", "(II)Z"⟩ "WhoseThread",
  .methodLinkNest "WhoseThread$Text" 81 ⟨"WhoseThread", "makesRing", "([III)Z"⟩ "WhoseThread", .methodLinkNest "WhoseThread$Text" 85 ⟨"WhoseThread", "bit", "(I)I"⟩ "WhoseThread"]
/-- what stands outside the memory: the nest's words, the text constants, one static, what an array of looms is -/
def Sx (ad : Nat → Nat) (A : Nat → Prop) (U : State) (H : Heap) : Prop :=
  (∀ w ∈ NWs, va_Nw w U) ∧ vk_S 10 txN txB (fun i => ad (1000 + i)) (fun i => ad (1100 + i)) A U H ∧ (∀ (i : Nat) (q : Nat × String), txL[i]? = some q → vk_R "WhoseThread$Text" q.1 q.2 (ad (1000 + i)) U) ∧ va_Z "java/lang/String" "COMPACT_STRINGS" "Z" (.int 1) A U H ∧ va_AO "WhoseThread$Loom" U ∧ (va_Z "jdk/internal/util/Preconditions" "SIOOBE_FORMATTER" "Ljava/util/function/BiFunction;" .null A U H ∨ va_Z "jdk/internal/util/Preconditions" "SIOOBE_FORMATTER" "Ljava/util/function/BiFunction;" (.ref (ad 1200)) A U H)
/-- the memory is held -/
def Hl (G : va_G) (ad : Nat → Nat) (M : MM) (A : Nat → Prop) (U : State) (H : Heap) : Prop :=
  ∃ ca : Nat → ClassId, va_P G vwCl (wsF ad ca 0 M) H ∧ va_D A (wsF ad ca 0 M) ∧ va_K G vwCl [] U ∧ (∀ (i : Nat) (x : CC) (ty : FieldType), M[i]? = some x → tyE x = some ty → ArrOfT U (ca i) ty ∧ va_RA U (ca i) ty) ∧ okM M.length M ∧ M.length < 1000
def Cx (D : MD) (p : Program) (s : State) (m : MethodId) (args : Array Value) (meth : Method) (c : Code) : Prop :=
  p.tables.exec = Jvm.exec ∧ c.code = D.2.1 ∧ c.maxLocals = D.2.2.1 ∧ meth.sig.returnType = D.2.2.2 ∧ s.vm.findClass D.1.cls = some m.cls ∧ (∀ w ∈ TT, w.before args s = true) ∧ meth.locks = false ∧ meth.name = D.1.name
def Lh (ad : Nat → Nat) (ls : Array Slot) (nL : Nat) (L : List (Option Value)) : Prop := ls.size = nL ∧ L.length ≤ nL ∧ lv_wf ls ∧ ∀ (i : Nat) (v : Value), L[i]? = some (some v) → ls[i]? = some (.val (tr ad v))
def Qo (G : va_G) (ad0 : Nat → Nat) (n0 : Nat) (A : Nat → Prop) (Out : Option Value → MM → Prop) : Array Value → State → Outcome → State → Prop := fun _ st oc t =>
  (∃ (v : Option Value) (M' : MM) (ad' : Nat → Nat), oc = .returned (v.map (tr ad')) ∧ Out v M' ∧ Ext n0 ad0 M'.length ad' ∧ n0 ≤ M'.length ∧ Hl G ad' M' A t t.heap) ∧ va_F A st t
/-- depth, cells and slots that the method may make, cells and slots made so far -/
abbrev BB : Type := Nat × Nat × Nat × Nat × Nat
def rmO (d mc ms : Nat) : Room := { frames := d, cells := mc, slots := ms, locals := 40 * d }
def Vx (D : MD) (L : List (Option Value)) (M : MM) (p : Program) (s : State) (m : MethodId) (args : Array Value) (meth : Method) (c : Code) (H : Heap) (locs : List Loc) (G : va_G) (ad0 : Nat → Nat) (n0 : Nat) (ad : Nat → Nat) (A : Nat → Prop) (ls : Array Slot) : Prop :=
  Cx D p s m args meth c ∧ Hl G ad M A s H ∧ Sx ad A s s.heap ∧ va_S A s.heap H locs ∧ (∀ q, s.heap.size ≤ q → A q) ∧ Ext n0 ad0 M.length ad ∧ n0 ≤ M.length ∧ Lh ad ls D.2.2.1 L
def V (D : MD) (b : BB) (pc : Nat) (L : List (Option Value)) (st : List Value) (M : MM) (Out : Option Value → MM → Prop) : Prop :=
  ∀ (p : Program) (l : Launch) (e : Env) (s : State) (m : MethodId) (args : Array Value) (below : List Frame) (meth : Method) (c : Code) (H : Heap) (locs : List Loc) (G : va_G) (ad0 : Nat → Nat) (n0 : Nat) (ad : Nat → Nat) (A : Nat → Prop) (ls : Array Slot),
    Vx D L M p s m args meth c H locs G ad0 n0 ad A ls →
    W p l e (rmO b.1 b.2.1 b.2.2.1) s m args below meth c H locs b.2.2.2.1 b.2.2.2.2 (MQ below (Qo G ad0 n0 A Out) args s b.2.1 b.2.2.1 A) (F0 m pc ls (st.map (tr ad)))
def Ar (ad : Nat → Nat) (n sz : Nat) : Nat → Prop := fun q => (∃ k, k < n ∧ ad k = q) ∨ sz ≤ q
def Con (D : MD) (d mc ms : Nat) (av : List Value) (M : MM) (Out : Option Value → MM → Prop) : Prop :=
  ∀ (l : Launch) (G : va_G) (ad : Nat → Nat) (sz : Nat), Met l D.1 (wsD D) (rmO d mc ms) (va_Pc (av.map (tr ad)) (fun U => U.heap.size = sz ∧ Hl G ad M (Ar ad M.length sz) U U.heap ∧ Sx ad (Ar ad M.length sz) U U.heap)) (Qo G ad M.length (Ar ad M.length sz) Out) mc ms (Ar ad M.length sz)
theorem Sx.moved {ad : Nat → Nat} {A : Nat → Prop} {u U : State} {H : Heap} (hW : u.WarmedH U.vm) (h : Sx ad A u H) : Sx ad A U H := by
  obtain ⟨h1, h2, h3, h4, h5, h6⟩ := h
  have hvm : u.vm.Alike U.vm := hW.alike
  refine ⟨fun w hw => ?_, h2.moved hvm, fun i q hq => vk_R.warm hW (h3 i q hq), h4.moved hvm, h5.moved hvm, h6.imp (fun g => g.moved hvm) (fun g => g.moved hvm)⟩
  · have h := h1 w hw
    simp only [NWs, List.mem_cons, List.not_mem_nil, or_false] at hw
    rcases hw with rfl | rfl | rfl | rfl | rfl | rfl | rfl | rfl | rfl | rfl | rfl | rfl | rfl <;> exact va_Nw.warmM hW h
theorem Hl.moved {G : va_G} {ad : Nat → Nat} {M : MM} {A : Nat → Prop} {u U : State} {H : Heap} (hvm : u.vm.Alike U.vm) (h : Hl G ad M A u H) : Hl G ad M A U H := by
  obtain ⟨ca, h1, h2, h3, h4, h5⟩ := h
  exact ⟨ca, h1, h2, h3.moved hvm, fun i x ty hx ht => ⟨arrOfT_moved hvm (h4 i x ty hx ht).1, (h4 i x ty hx ht).2.moved hvm⟩, h5⟩
