theorem Sx.kept {ad : Nat → Nat} {A : Nat → Prop} {U : State} {H H1 : Heap} (h : Sx ad A U H) (hq : ∀ a : Nat, a < H.size → ¬ A a → H1[a]? = H[a]?) : Sx ad A U H1 :=
  ⟨h.1, h.2.1.kept hq, h.2.2.1, h.2.2.2.1.kept hq, h.2.2.2.2.1, h.2.2.2.2.2.imp (fun g => g.kept hq) (fun g => g.kept hq)⟩
theorem Sx.narrow {ad : Nat → Nat} {A B : Nat → Prop} {U : State} {H : Heap} (h : Sx ad A U H) (hAB : ∀ q, B q → A q) : Sx ad B U H :=
  ⟨h.1, h.2.1.narrow hAB, h.2.2.1, h.2.2.2.1.narrow hAB, h.2.2.2.2.1, h.2.2.2.2.2.imp (fun g => g.narrow hAB) (fun g => g.narrow hAB)⟩
theorem Sx.ad {ad ad' : Nat → Nat} {A : Nat → Prop} {U : State} {H : Heap} (h : Sx ad A U H) (e : ∀ k, 1000 ≤ k → ad' k = ad k) : Sx ad' A U H := by
  obtain ⟨h1, h2, h3, h4, h5, h6⟩ := h
  have e1 : (fun i => ad' (1000 + i)) = (fun i => ad (1000 + i)) := funext fun i => e _ (by omega)
  have e2 : (fun i => ad' (1100 + i)) = (fun i => ad (1100 + i)) := funext fun i => e _ (by omega)
  refine ⟨h1, by rw [e1, e2]; exact h2, fun i q hq => by rw [e _ (by omega)]; exact h3 i q hq, h4, h5, by rw [e 1200 (by decide)]; exact h6⟩
theorem Hl.A {G : va_G} {ad : Nat → Nat} {M : MM} {A B : Nat → Prop} {U : State} {H : Heap} (h : Hl G ad M A U H) (hAB : ∀ q, A q → B q) : Hl G ad M B U H := by
  obtain ⟨ca, h1, h2, h3, h4, h5⟩ := h
  exact ⟨ca, h1, h2.weaken (fun _ _ _ h => hAB _ h), h3, h4, h5⟩
theorem Hl.self {G : va_G} {ad : Nat → Nat} {M : MM} {A : Nat → Prop} {U : State} {H : Heap} (h : Hl G ad M A U H) (sz : Nat) : Hl G ad M (Ar ad M.length sz) U H := by
  obtain ⟨ca, h1, h2, h3, h4, h5⟩ := h
  refine ⟨ca, h1, ⟨h2.1, fun k q hk => ?_⟩, h3, h4, h5⟩
  rw [wsF_get, Nat.zero_add] at hk
  cases hm : M[k]? with
  | none => rw [hm] at hk; cases hk
  | some x =>
    rw [hm] at hk
    cases hk
    exact Or.inl ⟨k, (List.getElem?_eq_some_iff.mp hm).1, rfl⟩
theorem Hl.Ar {G : va_G} {ad : Nat → Nat} {M : MM} {A : Nat → Prop} {U : State} {H : Heap} (h : Hl G ad M A U H) {n sz : Nat} (hA : ∀ q, n ≤ q → A q) (hn : n ≤ sz) : ∀ q, Ar ad M.length sz q → A q := by
  obtain ⟨ca, h1, h2, -⟩ := h
  rintro q (⟨k, hk, rfl⟩ | hq)
  · have hm : M[k]? = some M[k] := List.getElem?_eq_getElem hk
    exact h2.2 k _ (Hl.at (G := G) hm)
  · exact hA q (by omega)
def entO : List Value → List (Option Value)
  | [] => []
  | v :: r => if v.category = 2 then some v :: none :: entO r else some v :: entO r
def entL (n : Nat) (av : List Value) : List (Option Value) := entO av ++ List.replicate (n - (entO av).length) none
theorem entO_args (ad : Nat → Nat) : ∀ (av : List Value) (k i : Nat) (v : Value), (entO av)[i]? = some (some v) → (k + i, tr ad v) ∈ lv_args k (av.map (tr ad)) := by
  intro av
  induction av with
  | nil => intro k i v h; simp [entO] at h
  | cons u r ih =>
    intro k i v h
    rw [List.map_cons, lv_args, tr_cat]
    by_cases hu : u.category = 2
    · rw [entO, if_pos hu] at h
      rw [if_pos hu]
      match i, h with
      | 0, h => simp at h; subst h; exact List.mem_cons_self
      | 1, h => simp at h
      | i + 2, h =>
        have := ih (k + 2) i v (by simpa using h)
        rw [show k + (i + 2) = k + 2 + i by omega]
        exact List.mem_cons_of_mem _ this
    · rw [entO, if_neg hu] at h
      rw [if_neg hu]
      match i, h with
      | 0, h => simp at h; subst h; exact List.mem_cons_self
      | i + 1, h =>
        have := ih (k + 1) i v (by simpa using h)
        rw [show k + (i + 1) = k + 1 + i by omega]
        exact List.mem_cons_of_mem _ this
theorem entO_sl (ad : Nat → Nat) : ∀ (av : List Value), (lg_sl (av.map (tr ad))).length = (entO av).length := by
  intro av
  induction av with
  | nil => rfl
  | cons u r ih =>
    rw [lg_sl] at ih ⊢
    rw [List.map_cons, List.flatMap_cons, List.length_append, ih, tr_cat, entO]
    by_cases hu : u.category = 2
    · simp [hu]; omega
    · simp [hu]; omega
theorem Con.ofV {D : MD} {d mc ms : Nat} {av : List Value} {M : MM} {Out : Option Value → MM → Prop} (L0 : List (Option Value)) (hy : plainName D.1.cls = true) (hn : (entO av).length ≤ D.2.2.1) (hL : entL D.2.2.1 av = L0) (h : V D (d, mc, ms, 0, 0) 0 L0 [] M Out) : Con D d mc ms av M Out := by
  intro l G ad sz
  refine Met.ofW (cc := D.2.1) (maxL := D.2.2.1) (ret := D.2.2.2) hy rfl ?_
  intro p e s m args below meth c s₁ B hml hv
  obtain ⟨rfl, hsz, hH, hSx⟩ := hv
  have hts := atoms_spec (ws := wsD D) B.pre
  have hlen := entO_sl ad av
  have hl := lv_entry (av.map (tr ad)) (n := D.2.2.1) (by omega)
  rw [lg_entry_eq]
  refine h p l e s m _ below meth c s.heap [] G ad M.length ad (Ar ad M.length sz) _ ⟨⟨B.exec, B.bytes, hml, B.returns, findClass_of_methodNamed B.named, fun w hw => hts w (List.mem_cons_of_mem _ hw), B.notSynchronized, (name_of_methodNamed B.named B.method).1⟩, hH, hSx, va_S.rf, fun q hq => Or.inr (by omega), Ext.rf, Nat.le_refl _, hl.1, ?_, hl.2.1, fun i v hi => ?_⟩
  · rw [← hL, entL, List.length_append, List.length_replicate]; omega
  · rw [← hL, entL] at hi
    refine hl.2.2 (i, tr ad v) ?_
    by_cases hlt : i < (entO av).length
    · rw [List.getElem?_append_left hlt] at hi
      have := entO_args ad av 0 i v hi
      rwa [Nat.zero_add] at this
    · rw [List.getElem?_append_right (by omega), List.getElem?_replicate] at hi
      split at hi <;> simp at hi
/-- a contract of a method that makes nothing -/
def ConN (D : MD) (d : Nat) (av : List Value) (M : MM) (P : Option Value → MM → Prop) : Prop := Con D d 0 0 av M (fun v M' => P v M' ∧ M'.length = M.length)
abbrev ConP (D : MD) (d : Nat) (av : List Value) (M : MM) (r : Option Value) : Prop := ConN D d av M (fun v M' => v = r ∧ M' = M)
abbrev B0 (d : Nat) : BB := (d, 0, 0, 0, 0)
theorem ConN.ofV {D : MD} {d : Nat} {av : List Value} {M : MM} {P : Option Value → MM → Prop} (L0 : List (Option Value)) (hy : plainName D.1.cls = true) (hn : (entO av).length ≤ D.2.2.1) (hL : entL D.2.2.1 av = L0) (h : V D (B0 d) 0 L0 [] M (fun v M' => P v M' ∧ M'.length = M.length)) : ConN D d av M P := Con.ofV L0 hy hn hL h
theorem Met.imp {l : Launch} {y : MethodName} {ws : List Cond} {rm : Room} {Pc : Array Value → State → Prop} {Qc Qc' : Array Value → State → Outcome → State → Prop} {mc ms : Nat} {free : Addr → Prop} (h : Met l y ws rm Pc Qc mc ms free) (hq : ∀ a s o t, Qc a s o t → Qc' a s o t) : Met l y ws rm Pc Qc' mc ms free := by
  intro p e ha hc hk s m args below hf happ hP hT
  obtain ⟨t, o, h1, h2, h3, h4, h5⟩ := h p e ha hc hk s m args below hf happ hP hT
  exact ⟨t, o, h1, h2, h3, hq _ _ _ _ h4, h5⟩
theorem Con.imp {D : MD} {d mc ms : Nat} {av : List Value} {M : MM} {P Q : Option Value → MM → Prop} (h : Con D d mc ms av M P) (hq : ∀ v M', P v M' → Q v M') : Con D d mc ms av M Q := fun l G ad sz =>
  (h l G ad sz).imp fun _ _ _ _ ⟨⟨v, M', ad', h1, h2, h3⟩, h4⟩ => ⟨⟨v, M', ad', h1, hq v M' h2, h3⟩, h4⟩
theorem ConN.imp {D : MD} {d : Nat} {av : List Value} {M : MM} {P Q : Option Value → MM → Prop} (h : ConN D d av M P) (hq : ∀ v M', M'.length = M.length → P v M' → Q v M') : ConN D d av M Q := Con.imp h fun v M' g => ⟨hq v M' g.2 g.1, g.2⟩
section VC
variable {D : MD} {b : BB} {pc : Nat} {L : List (Option Value)} {st : List Value} {M : MM} {Out : Option Value → MM → Prop}
variable {p : Program} {l : Launch} {e : Env} {s : State} {m : MethodId} {args : Array Value} {below : List Frame} {meth : Method} {c : Code} {H : Heap} {locs : List Loc} {G : va_G} {ad0 : Nat → Nat} {n0 : Nat} {ad : Nat → Nat} {A : Nat → Prop} {ls : Array Slot}
def okO (n : Nat) (o : Option Value) : Bool := match o with
  | some v => okV n v
  | none => true
/-- the callee's start, out of the caller's state -/
theorem Vx.pre {av : List Value} (hX : Vx D L M p s m args meth c H locs G ad0 n0 ad A ls) (U : State) (hU : U.heap = H) (hW : s.WarmedH U.vm) : va_Pc (av.map (tr ad)) (fun U => U.heap.size = H.size ∧ Hl G ad M (Ar ad M.length H.size) U U.heap ∧ Sx ad (Ar ad M.length H.size) U U.heap) (av.map (tr ad)).toArray U := by
  have hA1 := hX.2.1.Ar hX.2.2.2.2.1 hX.2.2.2.1.1
  refine ⟨rfl, by rw [hU], ?_, ?_⟩
  · rw [hU]; exact (hX.2.1.self _).moved hW.alike
  · rw [hU]; exact ((hX.2.2.1.kept hX.2.2.2.1.2.1).narrow hA1).moved hW
theorem pc_blind {ad : Nat → Nat} {A : Nat → Prop} {G : va_G} {M : MM} {sz : Nat} {av : List Value} : FrameBlind (va_Pc av (fun U => U.heap.size = sz ∧ Hl G ad M A U U.heap ∧ Sx ad A U U.heap)) := by
  rintro a U g mk ⟨e, h1, h2, h3⟩
  exact ⟨e, h1, Hl.moved (u := U) (U := U.calling g mk a) (Vm.Alike.refl U.vm) h2, Sx.moved (u := U) (U := U.calling g mk a) (State.WarmedH.refl U) h3⟩
/-- what comes back -/
theorem Vx.call {P : Option Value → MM → Prop} {mc ms : Nat} {a : Array Value} {st0 rest : List Value} (hX : Vx D L M p s m args meth c H locs G ad0 n0 ad A ls)
    (hr : va_Run p l e (rmO b.1 b.2.1 b.2.2.1) s m args below meth c H locs b.2.2.2.1 b.2.2.2.2 mc ms (F0 m pc ls st0) (rest.map (tr ad)) (Qo G ad M.length (Ar ad M.length H.size) P a) (Ar ad M.length H.size))
    (hv : (∀ v M', P v M' → M'.length = M.length) ∨ (L.all (okO M.length) = true ∧ rest.all (okV M.length) = true))
    (kk : ∀ v M', P v M' → V D (b.1, b.2.1, b.2.2.1, b.2.2.2.1 + mc, b.2.2.2.2 + ms) (pc + 3) L (v.toList ++ rest) M' Out) :
    W p l e (rmO b.1 b.2.1 b.2.2.1) s m args below meth c H locs b.2.2.2.1 b.2.2.2.2 (MQ below (Qo G ad0 n0 A Out) args s b.2.1 b.2.2.1 A) (F0 m pc ls st0) := by
  have hA1 := hX.2.1.Ar hX.2.2.2.2.1 hX.2.2.2.1.1
  intro T hT X
  obtain ⟨v, st₀, t, T', Lc, h0, X', hL, e1, e2, ⟨⟨v', M', ad', hv', hp, hE, hn, hH⟩, hz, hk⟩, stp⟩ := hr T hT X
  have hvv : v = v'.map (tr ad') := by cases hv'; rfl
  rw [h0] at hz hk
  have hS := hX.2.2.2.1
  have hS' : va_S A s.heap T'.heap (locs ++ Lc) := ⟨Nat.le_trans hS.1 (by rw [e1]; exact hz), fun q h1 h2 => by
      rw [e1, hk q (Nat.lt_of_lt_of_le h1 hS.1) (fun z => h2 (hA1 q z))]; exact hS.2.1 q h1 h2, fun q hq => by
      rcases List.mem_append.mp hq with h | h
      · exact hS.2.2 q h
      · exact hA1 _ (hL q h)⟩
  have hLx : Lh ad' ls D.2.2.1 L ∧ rest.map (tr ad') = rest.map (tr ad) := by
    rcases hv with h | ⟨h1, h2⟩
    · rw [hE.2 (h v' M' hp)]; exact ⟨hX.2.2.2.2.2.2.2, rfl⟩
    · refine ⟨⟨hX.2.2.2.2.2.2.2.1, hX.2.2.2.2.2.2.2.2.1, hX.2.2.2.2.2.2.2.2.2.1, fun i u hi => ?_⟩, tr_map hE.1 h2⟩
      have := List.all_eq_true.mp h1 _ (List.mem_of_getElem? hi)
      rw [tr_ext hE.1 (this : okV M.length u = true)]
      exact hX.2.2.2.2.2.2.2.2.2.2 i u hi
  have hX' : Vx D L M' p s m args meth c T'.heap (locs ++ Lc) G ad0 n0 ad' A ls := by
    refine ⟨hX.1, ?_, hX.2.2.1.ad (fun k hk => hE.1 k (Or.inr hk)), hS', hX.2.2.2.2.1, hX.2.2.2.2.2.1.trans hE hX.2.2.2.2.2.2.1 hn, Nat.le_trans hX.2.2.2.2.2.2.1 hn, hLx.1⟩
    have h1 : t.vm.Alike s.vm := by rw [← e2]; exact X'.warmed.alike.symm
    have h2 := (hH.A hA1).moved h1
    rw [← e1] at h2
    exact h2
  obtain ⟨t2, a1, b1⟩ := kk v' M' hp p l e s m args below meth c T'.heap (locs ++ Lc) G ad0 n0 ad' A ls hX' T' rfl X'
  refine ⟨t2, stp t2 ?_, b1⟩
  have e3 : (v'.toList ++ rest).map (tr ad') = v.toList ++ rest.map (tr ad) := by
    rw [List.map_append, hLx.2, hvv]
    cases v' <;> rfl
  rw [← e3]
  exact a1
def LkB (D' : MD) (n : Nat) : Prop := Cond.initialized D'.1.cls ∈ TT ∧ Cond.code D'.1 D'.2.1 D'.2.2.1 D'.2.2.2 ∈ TT ∧ (D'.1.cls ≠ "java/lang/invoke/MethodHandle" ∧ D'.1.cls ≠ "java/lang/invoke/VarHandle" ∧ (parseMethodDescriptor D'.1.desc).map (fun d => d.parameters.length) = some n) ∧ D'.2.2.1 ≤ 21
/-- links of calls: static, static of a nest mate, virtual, special, special of a nest mate -/
def LkS (own : String) (idx : Nat) (D' : MD) (n : Nat) : Prop := Cond.methodLink own idx D'.1 ∈ TT ∧ Cond.static D'.1 ∈ TT ∧ LkB D' n
def LkT (own : String) (idx : Nat) (D' : MD) (n : Nat) : Prop := Cond.methodLinkNest own idx D'.1 "WhoseThread" ∈ NWs ∧ Cond.static D'.1 ∈ TT ∧ LkB D' n
def LkV (own : String) (idx : Nat) (D' : MD) (n : Nat) : Prop := Cond.methodLink own idx D'.1 ∈ TT ∧ (Cond.instanceMethod D'.1 ∈ TT ∧ Cond.selects D'.1.cls D'.1 D'.1 ∈ TT) ∧ LkB D' n
def LkI (own : String) (idx : Nat) (D' : MD) (n : Nat) : Prop := Cond.methodLink own idx D'.1 ∈ TT ∧ (D'.1.name = "<init>" ∧ Cond.instanceMethod D'.1 ∈ TT ∧ D'.2.2.2 = none) ∧ LkB D' n
def LkJ (own : String) (idx : Nat) (D' : MD) (n : Nat) : Prop := Cond.methodLinkNest own idx D'.1 "WhoseThread" ∈ NWs ∧ (D'.1.name = "<init>" ∧ Cond.instanceMethod D'.1 ∈ TT ∧ D'.2.2.2 = none) ∧ LkB D' n
theorem cat_map (ad : Nat → Nat) (st : List Value) : ((st.map (tr ad)).map fun v => v.category) = st.map fun v => v.category := by
  rw [List.map_map]; exact List.map_congr_left fun v _ => tr_cat ad v
theorem V_callS_ {D' : MD} {idx n d' mc ms : Nat} {av rest : List Value} {P : Option Value → MM → Prop} (hl : LkS D.1.cls idx D' n) (hC : Con D' d' mc ms av M P) (hn : av.length = n) (hd' : d' + 1 ≤ b.1) (hc : b.2.2.2.1 + mc ≤ b.2.1 ∧ b.2.2.2.2 + ms ≤ b.2.2.1) (hW : (rest.map fun v => v.category).sum ≤ 8) (hd : decode D.2.1 pc = .ok (.invokestatic idx, 3)) (hst : st = av.reverse ++ rest)
    (hv : (∀ v M', P v M' → M'.length = M.length) ∨ (L.all (okO M.length) = true ∧ rest.all (okV M.length) = true))
    (kk : ∀ v M', P v M' → V D (b.1, b.2.1, b.2.2.1, b.2.2.2.1 + mc, b.2.2.2.2 + ms) (pc + 3) L (v.toList ++ rest) M' Out) : V D b pc L st M Out := by
  intro p l e s m args below meth c H locs G ad0 n0 ad A ls hX
  obtain ⟨h1, h2, h3, h4, h5, h6⟩ := hl
  have hts := hX.1.2.2.2.2.2.1
  subst hst
  refine hX.call (a := (av.map (tr ad)).toArray) (mc := mc) (ms := ms) (va_runS (Ts := TT) (As := av.map (tr ad)) (n := n) ⟨hX.1.1, hX.1.2.1, hX.1.2.2.1, hX.1.2.2.2.2.1, hts⟩ (hC l G ad H.size) ⟨callB_of n hts (wsD_good h4) rfl rfl rfl (hts _ h3) (hts _ h1) h5 ⟨?_, ?_⟩, hts _ h2⟩ ⟨pc_blind, hX.pre⟩ rfl (by simpa using hn) hX.2.2.2.2.2.2.2.1 ?_ ?_ hd hc) hv kk
  · show d' + 1 ≤ b.1; exact hd'
  · show 8 + (D'.2.2.1 + 11) + 40 * d' ≤ 40 * b.1; omega
  · show (av.reverse ++ rest).map (tr ad) = _; rw [List.map_append, List.map_reverse]
  · rw [cat_map]; exact Nat.le_trans (by simp [JFrame.monitorRoom]) hW
theorem V_callT_ {D' : MD} {idx n d' mc ms : Nat} {av rest : List Value} {P : Option Value → MM → Prop} (hl : LkT D.1.cls idx D' n) (hC : Con D' d' mc ms av M P) (hn : av.length = n) (hd' : d' + 1 ≤ b.1) (hc : b.2.2.2.1 + mc ≤ b.2.1 ∧ b.2.2.2.2 + ms ≤ b.2.2.1) (hW : (rest.map fun v => v.category).sum ≤ 8) (hd : decode D.2.1 pc = .ok (.invokestatic idx, 3)) (hst : st = av.reverse ++ rest)
    (hv : (∀ v M', P v M' → M'.length = M.length) ∨ (L.all (okO M.length) = true ∧ rest.all (okV M.length) = true))
    (kk : ∀ v M', P v M' → V D (b.1, b.2.1, b.2.2.1, b.2.2.2.1 + mc, b.2.2.2.2 + ms) (pc + 3) L (v.toList ++ rest) M' Out) : V D b pc L st M Out := by
  intro p l e s m args below meth c H locs G ad0 n0 ad A ls hX
  obtain ⟨h1, h2, h3, h4, h5, h6⟩ := hl
  have hts := hX.1.2.2.2.2.2.1
  subst hst
  refine hX.call (a := (av.map (tr ad)).toArray) (mc := mc) (ms := ms) (va_runSN (Ts := TT) (As := av.map (tr ad)) (n := n) ⟨hX.1.1, hX.1.2.1, hX.1.2.2.1, hX.1.2.2.2.2.1, hts⟩ (hC l G ad H.size) ⟨va_cnB n hts (wsD_good h4) rfl rfl rfl (hX.2.2.1.1 _ h1) (hts _ h3) h5 ⟨?_, ?_⟩, hts _ h2, trivial⟩ ⟨pc_blind, hX.pre⟩ rfl (by simpa using hn) hX.2.2.2.2.2.2.2.1 ?_ ?_ hd hc) hv kk
  · show d' + 1 ≤ b.1; exact hd'
  · show 8 + (D'.2.2.1 + 11) + 40 * d' ≤ 40 * b.1; omega
  · show (av.reverse ++ rest).map (tr ad) = _; rw [List.map_append, List.map_reverse]
  · rw [cat_map]; exact Nat.le_trans (by simp [JFrame.monitorRoom]) hW
theorem Hl.recv {ci a : Nat} {fs : List Value} {C : String} {T : u_T} {N : Nat} (h : Hl G ad M A s H) (hM : M[a]? = some (cO ci fs)) (hc : vwCl[ci]? = some (C, T, N)) : ∃ cellB : Cell, H[ad a]? = some cellB ∧ cellB.vm.isStatics = false ∧ s.vm.findClass C = some cellB.cls := by
  obtain ⟨ca, hP, -, hK, -⟩ := h
  obtain ⟨r, g1, cell, q1, q2, q3, q4⟩ := hP a _ (Hl.at (G := G) hM)
  have hKn := hK.1 ci _ hc
  exact ⟨cell, q1, by rw [q3]; rfl, by rw [q2]; exact hKn.2.1⟩
theorem V_callV_ {D' : MD} {idx n d' mc ms ci a : Nat} {fs : List Value} {T : u_T} {N : Nat} {av rest : List Value} {P : Option Value → MM → Prop} (hl : LkV D.1.cls idx D' n) (hci : vwCl[ci]? = some (D'.1.cls, T, N)) (hM : M[a]? = some (cO ci fs)) (hC : Con D' d' mc ms (.ref a :: av) M P) (hn : av.length = n) (hd' : d' + 1 ≤ b.1) (hc : b.2.2.2.1 + mc ≤ b.2.1 ∧ b.2.2.2.2 + ms ≤ b.2.2.1) (hW : (rest.map fun v => v.category).sum ≤ 8) (hd : decode D.2.1 pc = .ok (.invokevirtual idx, 3)) (hst : st = av.reverse ++ .ref a :: rest)
    (hv : (∀ v M', P v M' → M'.length = M.length) ∨ (L.all (okO M.length) = true ∧ rest.all (okV M.length) = true))
    (kk : ∀ v M', P v M' → V D (b.1, b.2.1, b.2.2.1, b.2.2.2.1 + mc, b.2.2.2.2 + ms) (pc + 3) L (v.toList ++ rest) M' Out) : V D b pc L st M Out := by
  intro p l e s m args below meth c H locs G ad0 n0 ad A ls hX
  obtain ⟨h1, ⟨h2, h2'⟩, h3, h4, h5, h6⟩ := hl
  have hts := hX.1.2.2.2.2.2.1
  subst hst
  refine hX.call (a := ((Value.ref a :: av).map (tr ad)).toArray) (mc := mc) (ms := ms) (va_runV (Ts := TT) (b := ad a) (C := D'.1.cls) (As := av.map (tr ad)) (n := n) ⟨hX.1.1, hX.1.2.1, hX.1.2.2.1, hX.1.2.2.2.2.1, hts⟩ (hC l G ad H.size) ⟨callB_of n hts (wsD_good h4) rfl rfl rfl (hts _ h3) (hts _ h1) h5 ⟨?_, ?_⟩, hts _ h2, hts _ h2'⟩ ⟨pc_blind, hX.2.1.recv hM hci, hX.pre⟩ rfl (by simpa using hn) hX.2.2.2.2.2.2.2.1 ?_ ?_ hd hc) hv kk
  · show d' + 1 ≤ b.1; exact hd'
  · show 8 + (D'.2.2.1 + 11) + 40 * d' ≤ 40 * b.1; omega
  · show (av.reverse ++ .ref a :: rest).map (tr ad) = _; rw [List.map_append, List.map_reverse]; rfl
  · rw [cat_map]; exact Nat.le_trans (by simp [JFrame.monitorRoom]) hW
theorem V_callVS_ {D' : MD} {idx n d' i : Nat} {av rest : List Value} {P : Option Value → MM → Prop} (hl : LkV D.1.cls idx D' n) (hcl : D'.1.cls = "java/lang/String") (hi : i < 10) (hC : Con D' d' 0 0 (.ref (1000 + i) :: av) M P) (hn : av.length = n) (hd' : d' + 1 ≤ b.1) (hc : b.2.2.2.1 + 0 ≤ b.2.1 ∧ b.2.2.2.2 + 0 ≤ b.2.2.1) (hW : (rest.map fun v => v.category).sum ≤ 8) (hd : decode D.2.1 pc = .ok (.invokevirtual idx, 3)) (hst : st = av.reverse ++ .ref (1000 + i) :: rest)
    (hv : (∀ v M', P v M' → M'.length = M.length) ∨ (L.all (okO M.length) = true ∧ rest.all (okV M.length) = true))
    (kk : ∀ v M', P v M' → V D (b.1, b.2.1, b.2.2.1, b.2.2.2.1 + 0, b.2.2.2.2 + 0) (pc + 3) L (v.toList ++ rest) M' Out) : V D b pc L st M Out := by
  intro p l e s m args below meth c H locs G ad0 n0 ad A ls hX
  obtain ⟨h1, ⟨h2, h2'⟩, h3, h4, h5, h6⟩ := hl
  have hts := hX.1.2.2.2.2.2.1
  subst hst
  have hrv := vk_recv hX.2.2.1.2.1 hi hX.2.2.2.1
  rw [← hcl] at hrv
  refine hX.call (a := ((Value.ref (1000 + i) :: av).map (tr ad)).toArray) (mc := 0) (ms := 0) (va_runV (Ts := TT) (b := ad (1000 + i)) (C := D'.1.cls) (As := av.map (tr ad)) (n := n) ⟨hX.1.1, hX.1.2.1, hX.1.2.2.1, hX.1.2.2.2.2.1, hts⟩ (hC l G ad H.size) ⟨callB_of n hts (wsD_good h4) rfl rfl rfl (hts _ h3) (hts _ h1) h5 ⟨?_, ?_⟩, hts _ h2, hts _ h2'⟩ ⟨pc_blind, hrv, hX.pre⟩ rfl (by simpa using hn) hX.2.2.2.2.2.2.2.1 ?_ ?_ hd hc) hv kk
  · show d' + 1 ≤ b.1; exact hd'
  · show 8 + (D'.2.2.1 + 11) + 40 * d' ≤ 40 * b.1; omega
  · show (av.reverse ++ .ref (1000 + i) :: rest).map (tr ad) = _; rw [List.map_append, List.map_reverse]; rfl
  · rw [cat_map]; exact Nat.le_trans (by simp [JFrame.monitorRoom]) hW
theorem V_callI {D' : MD} {idx n d' mc ms a : Nat} {av rest : List Value} {P : Option Value → MM → Prop} (hl : LkI D.1.cls idx D' n) (hC : Con D' d' mc ms (.ref a :: av) M P) (hn : av.length = n) (hd' : d' + 1 ≤ b.1) (hc : b.2.2.2.1 + mc ≤ b.2.1 ∧ b.2.2.2.2 + ms ≤ b.2.2.1) (hW : (rest.map fun v => v.category).sum ≤ 8) (hd : decode D.2.1 pc = .ok (.invokespecial idx, 3)) (hst : st = av.reverse ++ .ref a :: rest)
    (hv : (∀ v M', P v M' → M'.length = M.length) ∨ (L.all (okO M.length) = true ∧ rest.all (okV M.length) = true))
    (kk : ∀ v M', P v M' → V D (b.1, b.2.1, b.2.2.1, b.2.2.2.1 + mc, b.2.2.2.2 + ms) (pc + 3) L (v.toList ++ rest) M' Out) : V D b pc L st M Out := by
  intro p l e s m args below meth c H locs G ad0 n0 ad A ls hX
  obtain ⟨h1, ⟨h2, h2', h2''⟩, h3, h4, h5, h6⟩ := hl
  have hts := hX.1.2.2.2.2.2.1
  subst hst
  have hC := hC l G ad H.size
  have hw : wsD D' = Cond.code D'.1 D'.2.1 D'.2.2.1 none :: TT := by rw [wsD, h2'']
  refine hX.call (a := ((Value.ref a :: av).map (tr ad)).toArray) (mc := mc) (ms := ms) (va_runI (Ts := TT) (b := ad a) (As := av.map (tr ad)) (n := n) (bytes := D'.2.1) (maxL := D'.2.2.1) ⟨hX.1.1, hX.1.2.1, hX.1.2.2.1, hX.1.2.2.2.2.1, hts⟩ hC ⟨callB_of n hts (wsD_good h4) hw rfl rfl (hts _ h3) (hts _ h1) h5 ⟨?_, ?_⟩, h2, hts _ h2'⟩ ⟨pc_blind, hX.pre⟩ rfl (by simpa using hn) hX.2.2.2.2.2.2.2.1 ?_ ?_ hd hc) hv kk
  · show d' + 1 ≤ b.1; exact hd'
  · show 8 + (D'.2.2.1 + 11) + 40 * d' ≤ 40 * b.1; omega
  · show (av.reverse ++ .ref a :: rest).map (tr ad) = _; rw [List.map_append, List.map_reverse]; rfl
  · rw [cat_map]; exact Nat.le_trans (by simp [JFrame.monitorRoom]) hW
theorem V_callJ {D' : MD} {idx n d' mc ms a : Nat} {av rest : List Value} {P : Option Value → MM → Prop} (hl : LkJ D.1.cls idx D' n) (hC : Con D' d' mc ms (.ref a :: av) M P) (hn : av.length = n) (hd' : d' + 1 ≤ b.1) (hc : b.2.2.2.1 + mc ≤ b.2.1 ∧ b.2.2.2.2 + ms ≤ b.2.2.1) (hW : (rest.map fun v => v.category).sum ≤ 8) (hd : decode D.2.1 pc = .ok (.invokespecial idx, 3)) (hst : st = av.reverse ++ .ref a :: rest)
    (hv : (∀ v M', P v M' → M'.length = M.length) ∨ (L.all (okO M.length) = true ∧ rest.all (okV M.length) = true))
    (kk : ∀ v M', P v M' → V D (b.1, b.2.1, b.2.2.1, b.2.2.2.1 + mc, b.2.2.2.2 + ms) (pc + 3) L (v.toList ++ rest) M' Out) : V D b pc L st M Out := by
  intro p l e s m args below meth c H locs G ad0 n0 ad A ls hX
  obtain ⟨h1, ⟨h2, h2', h2''⟩, h3, h4, h5, h6⟩ := hl
  have hts := hX.1.2.2.2.2.2.1
  subst hst
  have hC := hC l G ad H.size
  have hw : wsD D' = Cond.code D'.1 D'.2.1 D'.2.2.1 none :: TT := by rw [wsD, h2'']
  refine hX.call (a := ((Value.ref a :: av).map (tr ad)).toArray) (mc := mc) (ms := ms) (va_runIN (Ts := TT) (b := ad a) (As := av.map (tr ad)) (n := n) (bytes := D'.2.1) (maxL := D'.2.2.1) ⟨hX.1.1, hX.1.2.1, hX.1.2.2.1, hX.1.2.2.2.2.1, hts⟩ hC ⟨va_cnB n hts (wsD_good h4) hw rfl rfl (hX.2.2.1.1 _ h1) (hts _ h3) h5 ⟨?_, ?_⟩, h2, hts _ h2'⟩ ⟨pc_blind, hX.pre⟩ rfl (by simpa using hn) hX.2.2.2.2.2.2.2.1 ?_ ?_ hd hc) hv kk
  · show d' + 1 ≤ b.1; exact hd'
  · show 8 + (D'.2.2.1 + 11) + 40 * d' ≤ 40 * b.1; omega
  · show (av.reverse ++ .ref a :: rest).map (tr ad) = _; rw [List.map_append, List.map_reverse]; rfl
  · rw [cat_map]; exact Nat.le_trans (by simp [JFrame.monitorRoom]) hW
end VC
