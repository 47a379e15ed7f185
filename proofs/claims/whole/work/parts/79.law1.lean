def R_law : String := "WhoseThreadLaw"
def lw_P (b : Addr) (xs : List Int32) (args : Array Value) (s : State) : Prop := args = #[.ref b] ∧ s.IntsAt b xs ∧ xs.length ≤ 256 ∧ (Jvm.Cond.and given_1 narrow_1).before args s = true
def lw_Q (_ : Array Value) (s : State) (o : Outcome) (t : State) : Prop := o = .returned (some (.int 1)) ∧ Framed s o t [] 600000 7302250
def lw_Z (below : List Frame) (a : Array Value) (s : State) : State → Prop := fun t => ∃ o, t.status = .running ∧ Ended t below o ∧ lw_Q a s o t
/-- the law's own end, with 1 on the stack, nothing written that was there before, its room as the claim has it -/
theorem lw_ret {p : Program} {l : Launch} {e : Env} {s : State} {m : MethodId} {below : List Frame} {meth : Method} {c : Code} {b : Nat} (hx : p.tables.exec = Jvm.exec) (hb : c.code = code) (hr : meth.sig.returnType = ret) (hlocks : meth.locks = false) {pc : Nat} {H : Heap} {ls : Array Slot} (hdg : decode code pc = .ok (.ireturn, 1)) : W p l e room_1 s m #[Value.ref b] below meth c H [] 600000 7302250 (lw_Z below #[Value.ref b] s) (F0 m pc ls [.int 1]) := by
  intro T hT X
  obtain ⟨fs, hret, hrun, hended, hW, hframe⟩ := X.leave (v := some (.int 1)) (hlocks := hlocks) (fun h => by rw [hr] at h; cases h)
  have hmeth' : T.vm.method? m = some meth := X.method'
  refine ⟨T.setFrames fs, ?_, .returned (some (.int 1)), hrun, hended, rfl, ⟨_, rfl⟩, hW, hframe⟩
  jvm_step X.here [X.here.top, hx, hb, hdg, hmeth', hr, ret, narrow_b1]
  (try refine ⟨rfl, ?_⟩); (try refine ⟨rfl, ?_⟩)
  first | (intro acts; rw [hret _ acts rfl rfl rfl]) | rw [hret _ _ rfl rfl rfl]
  exact Steps.refl _
/-- what holds at the law's entry: the machine, the code, the tables' words (any of lw_tbl by 'hts w (by decide +kernel)'), the script of L ints xs at the cell b, what the Statement gives of the start (any of its parts by flat_of_before) -/
def lw_At (p : Program) (s : State) (m : MethodId) (meth : Method) (c : Code) (b L : Nat) (xs : Nat → Int32) : Prop :=
  p.tables.exec = Jvm.exec ∧ c.code = code ∧ meth.sig.returnType = ret ∧ c.maxLocals = 4 ∧ s.vm.findClass R_law = some m.cls ∧ (∀ w ∈ lw_tbl, w.before #[Value.ref b] s = true) ∧ va_X b L xs s s.heap ∧ b < s.heap.size ∧ meth.locks = false ∧ (Jvm.Cond.and given_1 narrow_1).before #[Value.ref b] s = true
abbrev DL (nm : String) : MD := (⟨"WhoseThreadLaw", nm, "([I)Z"⟩, cL_law, 4, ret)
/-- the script beside the memory: its place is 1300 -/
def Lw (N : Nat) (xs : Nat → Int32) (ad : Nat → Nat) (A : Nat → Prop) (s : State) (args : Array Value) : Prop := va_X (ad 1300) N xs s s.heap ∧ ad 1300 < s.heap.size ∧ A = (fun q => s.heap.size ≤ q) ∧ args = #[Value.ref (ad 1300)]
def VL (nm : String) (N : Nat) (xs : Nat → Int32) (cs ss : Nat) (pc : Nat) (L : List (Option Value)) (st : List Value) (M : MM) : Prop :=
  ∀ (p : Program) (l : Launch) (e : Env) (s : State) (m : MethodId) (args : Array Value) (below : List Frame) (meth : Method) (c : Code) (H : Heap) (locs : List Loc) (G : va_G) (ad0 : Nat → Nat) (n0 : Nat) (ad : Nat → Nat) (A : Nat → Prop) (ls : Array Slot),
    Vx (DL nm) L M p s m args meth c H locs G ad0 n0 ad A ls → Lw N xs ad A s args →
    W p l e room_1 s m args below meth c H locs cs ss (lw_Z below args s) (F0 m pc ls (st.map (tr ad)))
section VLR
variable {nm : String} {N : Nat} {xs : Nat → Int32} {cs ss : Nat} {pc : Nat} {L : List (Option Value)} {st : List Value} {M : MM}
theorem VL_iconst {n : Int} {v : Int32} (hd : decode cL_law pc = .ok (.iconst n, 1)) (hv : Int32.ofInt n = v) (k : VL nm N xs cs ss (pc + 1) L (.int v :: st) M) : VL nm N xs cs ss pc L (st) M := by
  intro p l e s m args below meth c H locs G ad0 n0 ad A ls hX hw
  exact lv_iconst hX.1.1 hX.1.2.1 hd hv (k p l e s m args below meth c H locs G ad0 n0 ad A ls hX hw)
theorem VL_bipush {n : Int} {v : Int32} (hd : decode cL_law pc = .ok (.bipush n, 2)) (hv : (Int8.ofInt n).toInt32 = v) (k : VL nm N xs cs ss (pc + 2) L (.int v :: st) M) : VL nm N xs cs ss pc L (st) M := by
  intro p l e s m args below meth c H locs G ad0 n0 ad A ls hX hw
  exact lv_bipush hX.1.1 hX.1.2.1 hd hv (k p l e s m args below meth c H locs G ad0 n0 ad A ls hX hw)
theorem VL_iload_n {j : Fin 4} {x : Int32} (hd : decode cL_law pc = .ok (.iload_n j, 1)) (hl : L[(j : Nat)]? = some (some (.int x))) (k : VL nm N xs cs ss (pc + 1) L (.int x :: st) M) : VL nm N xs cs ss pc L (st) M := by
  intro p l e s m args below meth c H locs G ad0 n0 ad A ls hX hw
  exact lv_iload_n hX.1.1 hX.1.2.1 hd rfl (hX.2.2.2.2.2.2.2.2.2.2 (j : Nat) _ hl) (k p l e s m args below meth c H locs G ad0 n0 ad A ls hX hw)
theorem VL_aload_n {j : Fin 4} {x : Nat} (hd : decode cL_law pc = .ok (.aload_n j, 1)) (hl : L[(j : Nat)]? = some (some (.ref x))) (k : VL nm N xs cs ss (pc + 1) L (.ref x :: st) M) : VL nm N xs cs ss pc L (st) M := by
  intro p l e s m args below meth c H locs G ad0 n0 ad A ls hX hw
  exact lv_aload_n hX.1.1 hX.1.2.1 hd rfl (hX.2.2.2.2.2.2.2.2.2.2 (j : Nat) _ hl) (k p l e s m args below meth c H locs G ad0 n0 ad A ls hX hw)
theorem VL_istore_n {j : Fin 4} {x : Int32} (hd : decode cL_law pc = .ok (.istore_n j, 1)) (hi : (j : Nat) < L.length) (hc : c1 L (j : Nat) = true) (k : VL nm N xs cs ss (pc + 1) (L.set (j : Nat) (some (.int x))) st M) : VL nm N xs cs ss pc L (.int x :: st) M := by
  intro p l e s m args below meth c H locs G ad0 n0 ad A ls hX hw
  exact lv_istore_n hX.1.1 hX.1.2.1 hd rfl (hX.2.2.2.2.2.2.2).has (Nat.lt_of_lt_of_le hi hX.2.2.2.2.2.2.2.2.1) rfl (fun ls' hl => k p l e s m args below meth c H locs G ad0 n0 ad A ls' ⟨hX.1, hX.2.1, hX.2.2.1, hX.2.2.2.1, hX.2.2.2.2.1, hX.2.2.2.2.2.1, hX.2.2.2.2.2.2.1, Lh.set1 (v := .int x) rfl hX.2.2.2.2.2.2.2.2.1 hc hl⟩ hw)
theorem VL_astore_n {j : Fin 4} {x : Nat} (hd : decode cL_law pc = .ok (.astore_n j, 1)) (hi : (j : Nat) < L.length) (hc : c1 L (j : Nat) = true) (k : VL nm N xs cs ss (pc + 1) (L.set (j : Nat) (some (.ref x))) st M) : VL nm N xs cs ss pc L (.ref x :: st) M := by
  intro p l e s m args below meth c H locs G ad0 n0 ad A ls hX hw
  exact lv_astore_n hX.1.1 hX.1.2.1 hd rfl (hX.2.2.2.2.2.2.2).has (Nat.lt_of_lt_of_le hi hX.2.2.2.2.2.2.2.2.1) rfl (fun ls' hl => k p l e s m args below meth c H locs G ad0 n0 ad A ls' ⟨hX.1, hX.2.1, hX.2.2.1, hX.2.2.2.1, hX.2.2.2.2.1, hX.2.2.2.2.2.1, hX.2.2.2.2.2.2.1, Lh.set1 (v := .ref x) rfl hX.2.2.2.2.2.2.2.2.1 hc hl⟩ hw)
theorem VL_iinc {i : Nat} {n : Int} {x v : Int32} (hd : decode cL_law pc = .ok (.iinc i n, 3)) (hl : L[i]? = some (some (.int x))) (hv : x + Int32.ofInt n = v) (hc : c1 L i = true) (k : VL nm N xs cs ss (pc + 3) (L.set i (some (.int v))) st M) : VL nm N xs cs ss pc L st M := by
  intro p l e s m args below meth c H locs G ad0 n0 ad A ls hX hw
  obtain ⟨k0, hk0⟩ := List.getElem?_of_mem (lpr_mem.mpr ⟨_, hl, rfl⟩ : (i, tr ad (.int x)) ∈ lpr ad L)
  exact lv_iinc hX.1.1 hX.1.2.1 hd (hX.2.2.2.2.2.2.2).has hk0 hv (Nat.lt_of_lt_of_le (List.getElem?_eq_some_iff.mp hl).1 hX.2.2.2.2.2.2.2.2.1) rfl (fun ls' hl => k p l e s m args below meth c H locs G ad0 n0 ad A ls' ⟨hX.1, hX.2.1, hX.2.2.1, hX.2.2.2.1, hX.2.2.2.2.1, hX.2.2.2.2.2.1, hX.2.2.2.2.2.2.1, Lh.set1 (v := .int v) rfl hX.2.2.2.2.2.2.2.2.1 hc hl⟩ hw)
theorem VL_iadd {x y : Int32} (hd : decode cL_law pc = .ok (.iadd, 1)) (k : VL nm N xs cs ss (pc + 1) L (.int (x + y) :: st) M) : VL nm N xs cs ss pc L (.int y :: .int x :: st) M := by
  intro p l e s m args below meth c H locs G ad0 n0 ad A ls hX hw
  exact lv_iadd hX.1.1 hX.1.2.1 hd (k p l e s m args below meth c H locs G ad0 n0 ad A ls hX hw)
theorem VL_isub {x y : Int32} (hd : decode cL_law pc = .ok (.isub, 1)) (k : VL nm N xs cs ss (pc + 1) L (.int (x - y) :: st) M) : VL nm N xs cs ss pc L (.int y :: .int x :: st) M := by
  intro p l e s m args below meth c H locs G ad0 n0 ad A ls hX hw
  exact lv_isub hX.1.1 hX.1.2.1 hd (k p l e s m args below meth c H locs G ad0 n0 ad A ls hX hw)
theorem VL_iand {x y : Int32} (hd : decode cL_law pc = .ok (.iand, 1)) (k : VL nm N xs cs ss (pc + 1) L (.int (x &&& y) :: st) M) : VL nm N xs cs ss pc L (.int y :: .int x :: st) M := by
  intro p l e s m args below meth c H locs G ad0 n0 ad A ls hX hw
  exact lv_iand hX.1.1 hX.1.2.1 hd (k p l e s m args below meth c H locs G ad0 n0 ad A ls hX hw)
theorem VL_dup {va : Value} (hd : decode cL_law pc = .ok (.dup, 1)) (hva : va.category = 1) (k : VL nm N xs cs ss (pc + 1) L (va :: va :: st) M) : VL nm N xs cs ss pc L (va :: st) M := by
  intro p l e s m args below meth c H locs G ad0 n0 ad A ls hX hw
  exact lv_dup hX.1.1 hX.1.2.1 hd ((tr_cat ad va).trans hva) (k p l e s m args below meth c H locs G ad0 n0 ad A ls hX hw)
theorem VL_icmp_eq {x y : Int32} {off : Int} (tgt : Nat) (hd : decode cL_law pc = .ok (.if_icmp .eq off, 3)) (ht : (pc : Int) + off = (tgt : Int)) (kt : x = y → VL nm N xs cs ss tgt L st M) (kf : ¬ x = y → VL nm N xs cs ss (pc + 3) L st M) : VL nm N xs cs ss pc L (.int y :: .int x :: st) M := by
  intro p l e s m args below meth c H locs G ad0 n0 ad A ls hX hw
  exact lv_icmp_eq (tgt := tgt) hX.1.1 hX.1.2.1 hd ht (fun h => kt h p l e s m args below meth c H locs G ad0 n0 ad A ls hX hw) (fun h => kf h p l e s m args below meth c H locs G ad0 n0 ad A ls hX hw)
theorem VL_icmp_gt {x y : Int32} {off : Int} (tgt : Nat) (hd : decode cL_law pc = .ok (.if_icmp .gt off, 3)) (ht : (pc : Int) + off = (tgt : Int)) (kt : y < x → VL nm N xs cs ss tgt L st M) (kf : ¬ y < x → VL nm N xs cs ss (pc + 3) L st M) : VL nm N xs cs ss pc L (.int y :: .int x :: st) M := by
  intro p l e s m args below meth c H locs G ad0 n0 ad A ls hX hw
  exact lv_icmp_gt (tgt := tgt) hX.1.1 hX.1.2.1 hd ht (fun h => kt h p l e s m args below meth c H locs G ad0 n0 ad A ls hX hw) (fun h => kf h p l e s m args below meth c H locs G ad0 n0 ad A ls hX hw)
theorem VL_goto {off : Int} (tgt : Nat) (hd : decode cL_law pc = .ok (.goto off, 3)) (ht : (pc : Int) + off = (tgt : Int)) (k : VL nm N xs cs ss tgt L st M) : VL nm N xs cs ss pc L st M := by
  intro p l e s m args below meth c H locs G ad0 n0 ad A ls hX hw
  exact lv_goto (tgt := tgt) hX.1.1 hX.1.2.1 hd ht (k p l e s m args below meth c H locs G ad0 n0 ad A ls hX hw)
theorem VL_tableIn {dflt lo hi : Int} {offs : Array Int} {len : Nat} {x : Int32} {off : Int} (tgt : Nat) (hd : decode cL_law pc = .ok (.tableswitch dflt lo hi offs, len)) (h1 : ¬ x.toInt < lo) (h2 : ¬ hi < x.toInt) (ho : offs[(x.toInt - lo).toNat]? = some off) (ht : (pc : Int) + off = (tgt : Int)) (k : VL nm N xs cs ss tgt L st M) : VL nm N xs cs ss pc L (.int x :: st) M := by
  intro p l e s m args below meth c H locs G ad0 n0 ad A ls hX hw
  exact lv_tableIn (tgt := tgt) hX.1.1 hX.1.2.1 hd h1 h2 ho ht (k p l e s m args below meth c H locs G ad0 n0 ad A ls hX hw)
theorem VL_tableOut {dflt lo hi : Int} {offs : Array Int} {len : Nat} {x : Int32} (tgt : Nat) (hd : decode cL_law pc = .ok (.tableswitch dflt lo hi offs, len)) (h : x.toInt < lo ∨ hi < x.toInt) (ht : (pc : Int) + dflt = (tgt : Int)) (k : VL nm N xs cs ss tgt L st M) : VL nm N xs cs ss pc L (.int x :: st) M := by
  intro p l e s m args below meth c H locs G ad0 n0 ad A ls hX hw
  exact lv_tableOut (tgt := tgt) hX.1.1 hX.1.2.1 hd h ht (k p l e s m args below meth c H locs G ad0 n0 ad A ls hX hw)
theorem VL_sld {i : Nat} (hi : i < N) (hN : N ≤ 256) (hd : decode cL_law pc = .ok (.iaload, 1)) (k : VL nm N xs cs ss (pc + 1) L (.int (xs i) :: st) M) : VL nm N xs cs ss pc L (.int (nI i) :: .ref 1300 :: st) M := by
  intro p l e s m args below meth c H locs G ad0 n0 ad A ls hX hw
  have hk := k p l e s m args below meth c H locs G ad0 n0 ad A ls hX hw
  have e1 : xs (nI i).toNatClampNeg = xs i := by rw [nI_clamp (by omega)]
  refine va_sld (b := ad 1300) (L := N) (xs := xs) (A := A) hX.1.1 hX.1.2.1 hw.1 hw.2.1 (by rw [hw.2.2.1]; exact Nat.not_le.mpr hw.2.1) hX.2.2.2.1 (vp_in_nI hi (by omega)) hd ?_
  rw [e1]
  exact hk
theorem VL_slen (hd : decode cL_law pc = .ok (.arraylength, 1)) (k : VL nm N xs cs ss (pc + 1) L (.int (nI N) :: st) M) : VL nm N xs cs ss pc L (.ref 1300 :: st) M := by
  intro p l e s m args below meth c H locs G ad0 n0 ad A ls hX hw
  exact va_slen (b := ad 1300) (L := N) (xs := xs) (A := A) hX.1.1 hX.1.2.1 hw.1 hw.2.1 (by rw [hw.2.2.1]; exact Nat.not_le.mpr hw.2.1) hX.2.2.2.1 hd (k p l e s m args below meth c H locs G ad0 n0 ad A ls hX hw)
theorem VL_end (hc : cs ≤ 600000) (hs : ss ≤ 7302250) (hd : decode cL_law pc = .ok (.ireturn, 1)) : VL nm N xs cs ss pc L [.int 1] M := by
  intro p l e s m args below meth c H locs G ad0 n0 ad A ls hX hw
  refine W.widen (k := 600000) (n := 7302250) hc hs ?_
  refine va_forget (fun q hq => ?_) ?_
  · have := hX.2.2.2.1.2.2 q hq
    rw [hw.2.2.1] at this
    exact this
  · rw [hw.2.2.2]
    exact lw_ret hX.1.1 hX.1.2.1 hX.1.2.2.2.1 hX.1.2.2.2.2.2.2.1 hd
theorem VL_new {idx ci : Nat} {fs : List Value} (c1 s1 : Nat) (hf : FN "WhoseThreadLaw" idx ci fs) (hL : L.all (okO M.length) = true) (hst : st.all (okV M.length) = true) (hlt : M.length < 999) (e1 : cs + 1 = c1) (e2 : ss + fs.length = s1) (hc : c1 ≤ 600000) (hs : s1 ≤ 7302250) (hd : decode cL_law pc = .ok (.new idx, 3))
    (k : VL nm N xs c1 s1 (pc + 3) L (.ref M.length :: st) (M ++ [cO ci fs])) : VL nm N xs cs ss pc L st M := by
  intro p l e s m args below meth c H locs G ad0 n0 ad A ls hX hw
  obtain ⟨ca, hP, hD, hK, hT, ho, -⟩ := id hX.2.1
  obtain ⟨C, T, N', ty, h1, h2, h3, h4, h5, h6, h7, h8, h9⟩ := hf
  subst h8; subst e1; subst e2
  refine va_new (fs := fs) hX.1.1 hX.1.2.1 hX.1.2.2.2.2.2.1 h2 ty h3 hX.1.2.2.2.2.1 (hX.1.2.2.2.2.2.1 _ h4) (hX.1.2.2.2.2.2.1 _ h5) (hX.1.2.2.2.2.2.1 _ h6) hK hP hD hX.2.2.2.1 hX.2.2.2.2.1 h1 h7 hc hs hd (fun q H1 g1 g2 g3 => ?_)
  have hm : ∀ ad : Nat → Nat, fs.map (tr ad) = fs := fun ad => by
    conv => rhs; rw [← List.map_id fs]
    exact List.map_congr_left fun v hv => by rcases h9 v hv with rfl | rfl <;> rfl
  have e1 : ∀ ad : Nat → Nat, (.inr (ci, fs) : va_E) = toE ad 0 (cO ci fs) := fun ad => by
    show _ = Sum.inr (ci, fs.map (tr ad)); rw [hm]
  rw [e1 (fun k => k)] at g1 g2
  have hw2 : Lw N xs (fun k => if k = M.length then q else ad k) A s args := by
    have e3 : (fun k => if k = M.length then q else ad k) 1300 = ad 1300 := if_neg (by omega)
    unfold Lw
    rw [e3]; exact hw
  have := k p l e s m args below meth c H1 locs G ad0 n0 _ A ls (hX.made (cA := 0) hL hlt (fun ad => (e1 ad).symm.trans (e1 _)) (List.all_eq_true.mpr fun v hv => by rcases h9 v hv with rfl | rfl <;> rfl) g1 g2 hK hT (fun ty hty => by cases hty) g3) hw2
  rw [tr_made hlt hst] at this
  exact this
theorem Vx.callL {p : Program} {l : Launch} {e : Env} {s : State} {m : MethodId} {args : Array Value} {below : List Frame} {meth : Method} {c : Code} {H : Heap} {locs : List Loc} {G : va_G} {ad0 : Nat → Nat} {n0 : Nat} {ad : Nat → Nat} {A : Nat → Prop} {ls : Array Slot} {P : Option Value → MM → Prop} {mc ms : Nat} {a : Array Value} {st0 rest : List Value} (hX : Vx (DL nm) L M p s m args meth c H locs G ad0 n0 ad A ls) (hw : Lw N xs ad A s args)
    (hr : va_Run p l e room_1 s m args below meth c H locs cs ss mc ms (F0 m pc ls st0) (rest.map (tr ad)) (Qo G ad M.length (Ar ad M.length H.size) P a) (Ar ad M.length H.size))
    (hL : L.all (okO M.length) = true) (hR : rest.all (okV M.length) = true)
    (kk : ∀ v M', P v M' → VL nm N xs (cs + mc) (ss + ms) (pc + 3) L (v.toList ++ rest) M') :
    W p l e room_1 s m args below meth c H locs cs ss (lw_Z below args s) (F0 m pc ls st0) := by
  have hA1 := hX.2.1.Ar hX.2.2.2.2.1 hX.2.2.2.1.1
  intro T hT X
  obtain ⟨v, st₀, t, T', Lc, h0, X', hLc, e1, e2, ⟨⟨v', M', ad', hv', hp, hE, hn, hH⟩, hz, hk⟩, stp⟩ := hr T hT X
  have hvv : v = v'.map (tr ad') := by cases hv'; rfl
  rw [h0] at hz hk
  have hS := hX.2.2.2.1
  have hS' : va_S A s.heap T'.heap (locs ++ Lc) := ⟨Nat.le_trans hS.1 (by rw [e1]; exact hz), fun q h1 h2 => by
      rw [e1, hk q (Nat.lt_of_lt_of_le h1 hS.1) (fun z => h2 (hA1 q z))]; exact hS.2.1 q h1 h2, fun q hq => by
      rcases List.mem_append.mp hq with h | h
      · exact hS.2.2 q h
      · exact hA1 _ (hLc q h)⟩
  have hLx : Lh ad' ls 4 L ∧ rest.map (tr ad') = rest.map (tr ad) := by
    refine ⟨⟨hX.2.2.2.2.2.2.2.1, hX.2.2.2.2.2.2.2.2.1, hX.2.2.2.2.2.2.2.2.2.1, fun i u hi => ?_⟩, tr_map hE.1 hR⟩
    have := List.all_eq_true.mp hL _ (List.mem_of_getElem? hi)
    rw [tr_ext hE.1 (this : okV M.length u = true)]
    exact hX.2.2.2.2.2.2.2.2.2.2 i u hi
  have hX' : Vx (DL nm) L M' p s m args meth c T'.heap (locs ++ Lc) G ad0 n0 ad' A ls := by
    refine ⟨hX.1, ?_, hX.2.2.1.ad (fun k hk => hE.1 k (Or.inr hk)), hS', hX.2.2.2.2.1, hX.2.2.2.2.2.1.trans hE hX.2.2.2.2.2.2.1 hn, Nat.le_trans hX.2.2.2.2.2.2.1 hn, hLx.1⟩
    have h1 : t.vm.Alike s.vm := by rw [← e2]; exact X'.warmed.alike.symm
    have h2 := (hH.A hA1).moved h1
    rw [← e1] at h2
    exact h2
  have hw' : Lw N xs ad' A s args := by
    unfold Lw
    rw [hE.1 1300 (Or.inr (by omega))]; exact hw
  obtain ⟨t2, a1, b1⟩ := kk v' M' hp p l e s m args below meth c T'.heap (locs ++ Lc) G ad0 n0 ad' A ls hX' hw' T' rfl X'
  refine ⟨t2, stp t2 ?_, b1⟩
  have e3 : (v'.toList ++ rest).map (tr ad') = v.toList ++ rest.map (tr ad) := by
    rw [List.map_append, hLx.2, hvv]
    cases v' <;> rfl
  rw [← e3]
  exact a1
theorem VL_callI {D' : MD} {idx n d' mc ms a : Nat} {av rest : List Value} {M1 : MM} (c1 s1 : Nat) (hl : LkI "WhoseThreadLaw" idx D' n) (hC : Con D' d' mc ms (.ref a :: av) M (fun v M' => v = none ∧ M' = M1)) (hn : av.length = n) (hd' : d' ≤ 1000) (e1 : cs + mc = c1) (e2 : ss + ms = s1) (hc : c1 ≤ 600000 ∧ s1 ≤ 7302250) (hW : (rest.map fun v => v.category).sum ≤ 8) (hd : decode cL_law pc = .ok (.invokespecial idx, 3)) (hst : st = av.reverse ++ .ref a :: rest)
    (hL : L.all (okO M.length) = true) (hR : rest.all (okV M.length) = true)
    (kk : VL nm N xs c1 s1 (pc + 3) L rest M1) : VL nm N xs cs ss pc L st M := by
  intro p l e s m args below meth c H locs G ad0 n0 ad A ls hX hw
  obtain ⟨h1, ⟨h2, h2', h2''⟩, h3, h4, h5, h6⟩ := hl
  have hts := hX.1.2.2.2.2.2.1
  subst hst; subst e1; subst e2
  have hC := hC l G ad H.size
  have hww : wsD D' = Cond.code D'.1 D'.2.1 D'.2.2.1 none :: TT := by rw [wsD, h2'']
  refine hX.callL hw (a := ((Value.ref a :: av).map (tr ad)).toArray) (mc := mc) (ms := ms) (va_runI (Ts := TT) (b := ad a) (As := av.map (tr ad)) (n := n) (bytes := D'.2.1) (maxL := D'.2.2.1) ⟨hX.1.1, hX.1.2.1, hX.1.2.2.1, hX.1.2.2.2.2.1, hts⟩ hC ⟨callB_of n hts (wsD_good h4) hww rfl rfl (hts _ h3) (hts _ h1) h5 ⟨?_, ?_⟩, h2, hts _ h2'⟩ ⟨pc_blind, hX.pre⟩ rfl (by simpa using hn) hX.2.2.2.2.2.2.2.1 ?_ ?_ hd hc) hL hR (fun v M' h => by obtain ⟨rfl, rfl⟩ := h; exact kk)
  · show d' + 1 ≤ 2048; omega
  · show 8 + (D'.2.2.1 + 11) + 40 * d' ≤ 84000; omega
  · show (av.reverse ++ .ref a :: rest).map (tr ad) = _; rw [List.map_append, List.map_reverse]; rfl
  · rw [cat_map]; exact Nat.le_trans (by simp [JFrame.monitorRoom]) hW
theorem VL_callV {D' : MD} {idx n d' ci a : Nat} {fs : List Value} {T : u_T} {NN : Nat} {av rest : List Value} {P : Option Value → MM → Prop} (hl : LkV "WhoseThreadLaw" idx D' n) (hci : vwCl[ci]? = some (D'.1.cls, T, NN)) (hM : M[a]? = some (cO ci fs)) (hC : Con D' d' 0 0 (.ref a :: av) M P) (hn : av.length = n) (hd' : d' ≤ 1000) (hc : cs ≤ 600000 ∧ ss ≤ 7302250) (hW : (rest.map fun v => v.category).sum ≤ 8) (hd : decode cL_law pc = .ok (.invokevirtual idx, 3)) (hst : st = av.reverse ++ .ref a :: rest)
    (hL : L.all (okO M.length) = true) (hR : rest.all (okV M.length) = true)
    (kk : ∀ v M', P v M' → VL nm N xs cs ss (pc + 3) L (v.toList ++ rest) M') : VL nm N xs cs ss pc L st M := by
  intro p l e s m args below meth c H locs G ad0 n0 ad A ls hX hw
  obtain ⟨h1, ⟨h2, h2'⟩, h3, h4, h5, h6⟩ := hl
  have hts := hX.1.2.2.2.2.2.1
  subst hst
  refine hX.callL hw (a := ((Value.ref a :: av).map (tr ad)).toArray) (mc := 0) (ms := 0) (va_runV (Ts := TT) (b := ad a) (C := D'.1.cls) (As := av.map (tr ad)) (n := n) ⟨hX.1.1, hX.1.2.1, hX.1.2.2.1, hX.1.2.2.2.2.1, hts⟩ (hC l G ad H.size) ⟨callB_of n hts (wsD_good h4) rfl rfl rfl (hts _ h3) (hts _ h1) h5 ⟨?_, ?_⟩, hts _ h2, hts _ h2'⟩ ⟨pc_blind, hX.2.1.recv hM hci, hX.pre⟩ rfl (by simpa using hn) hX.2.2.2.2.2.2.2.1 ?_ ?_ hd hc) hL hR kk
  · show d' + 1 ≤ 2048; omega
  · show 8 + (D'.2.2.1 + 11) + 40 * d' ≤ 84000; omega
  · show (av.reverse ++ .ref a :: rest).map (tr ad) = _; rw [List.map_append, List.map_reverse]; rfl
  · rw [cat_map]; exact Nat.le_trans (by simp [JFrame.monitorRoom]) hW
end VLR
