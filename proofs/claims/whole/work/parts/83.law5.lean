def tmS (i : Nat) : Term := .string "WhoseThread$Text" (txL.getD i (0, "")).1
theorem nw_in : ∀ w ∈ NWs, w ∈ lw_tbl := by decide +kernel
theorem nw_on : ∀ w ∈ NWs, w.onTables = true := by decide +kernel
set_option maxRecDepth 100000 in
theorem start_S {s : State} {b : Nat} (hgv : (Jvm.Cond.and given_1 narrow_1).before #[Value.ref b] s = true) : ∃ adK adV : Nat → Nat, vk_S 10 txN txB adK adV (fun q => s.heap.size ≤ q) s s.heap ∧ ∀ i : Nat, i < 10 → (tmS i).eval #[Value.ref b] s none [] s = some (.ref (adK i)) := by
  have hs := flat_of_before _ hgv
  refine vk_Sof (tm := tmS) (by decide) (fun i hi => hs _ ?_) (fun i hi => hs _ ?_) (fun i hi => hs _ ?_) (fun i hi => hs _ ?_) (fun i hi j hj => hs _ ?_) (fun i j hi hj hij => ?_) (fun a ha => Nat.not_le.mpr ha)
  · revert i; decide +kernel
  · revert i; decide +kernel
  · revert i; decide +kernel
  · revert i; decide +kernel
  · revert j; revert i; decide +kernel
  · rcases Nat.lt_or_gt_of_ne hij with h | h
    · refine Or.inl (hs _ ?_)
      revert h; clear hij; revert i; revert j; decide +kernel
    · refine Or.inr (hs _ ?_)
      revert h; clear hij; revert j; revert i; decide +kernel
set_option maxRecDepth 100000 in
theorem start_Sx {s : State} {b : Nat} (hts : ∀ w ∈ lw_tbl, w.before #[Value.ref b] s = true) (hgv : (Jvm.Cond.and given_1 narrow_1).before #[Value.ref b] s = true) : ∃ ad : Nat → Nat, ad 1300 = b ∧ Sx ad (fun q => s.heap.size ≤ q) s s.heap := by
  have hs := flat_of_before _ hgv
  obtain ⟨adK, adV, hS, hev⟩ := start_S hgv
  have hA : ∀ a : Nat, a < s.heap.size → ¬ (fun q : Nat => s.heap.size ≤ q) a := fun a ha => Nat.not_le.mpr ha
  have hZ := va_Zof (A := fun q => s.heap.size ≤ q) (hts (.laysStatic "java/lang/String" "COMPACT_STRINGS" "Z") (by decide +kernel)) (hts (.initialized "java/lang/String") (by decide +kernel)) (va_eqt (hs (.eq (.static "java/lang/String" "COMPACT_STRINGS" "Z") (.int 1)) (by decide +kernel))) hA
  have hQ := va_Zqof (A := fun q => s.heap.size ≤ q) (hts (.laysStatic "jdk/internal/util/Preconditions" "SIOOBE_FORMATTER" "Ljava/util/function/BiFunction;") (by decide +kernel)) (hts (.initialized "jdk/internal/util/Preconditions") (by decide +kernel)) (hs (.isRef (.static "jdk/internal/util/Preconditions" "SIOOBE_FORMATTER" "Ljava/util/function/BiFunction;")) (by decide +kernel)) hA
  obtain ⟨t, hQ⟩ : ∃ t : Nat, va_Z "jdk/internal/util/Preconditions" "SIOOBE_FORMATTER" "Ljava/util/function/BiFunction;" .null (fun q => s.heap.size ≤ q) s s.heap ∨ va_Z "jdk/internal/util/Preconditions" "SIOOBE_FORMATTER" "Ljava/util/function/BiFunction;" (.ref t) (fun q => s.heap.size ≤ q) s s.heap := by
    rcases hQ with h | ⟨t, h⟩
    · exact ⟨0, Or.inl h⟩
    · exact ⟨t, Or.inr h⟩
  obtain ⟨ad, h13, h12, hV, hK⟩ : ∃ ad : Nat → Nat, ad 1300 = b ∧ ad 1200 = t ∧ (∀ i, i < 10 → ad (1100 + i) = adV i) ∧ ∀ i, i < 10 → ad (1000 + i) = adK i := by
    refine ⟨fun k => if k = 1300 then b else if k = 1200 then t else if 1100 ≤ k then adV (k - 1100) else adK (k - 1000), rfl, rfl, fun i hi => ?_, fun i hi => ?_⟩
    · show (if 1100 + i = 1300 then b else if 1100 + i = 1200 then t else if 1100 ≤ 1100 + i then adV (1100 + i - 1100) else adK (1100 + i - 1000)) = adV i
      rw [if_neg (by omega), if_neg (by omega), if_pos (by omega), Nat.add_sub_cancel_left]
    · show (if 1000 + i = 1300 then b else if 1000 + i = 1200 then t else if 1100 ≤ 1000 + i then adV (1000 + i - 1100) else adK (1000 + i - 1000)) = adK i
      rw [if_neg (by omega), if_neg (by omega), if_neg (by omega), Nat.add_sub_cancel_left]
  refine ⟨ad, h13, fun w hw => va_Nw.of (nw_on w hw) (hts w (nw_in w hw)), ⟨fun i hi => ?_, fun i j hi hj e => ?_⟩, fun i q hq => ?_, hZ, va_AO.of (hts (.arrayOver (.object "WhoseThread$Loom")) (by decide +kernel)), by rw [h12]; exact hQ⟩
  · have := hS.1 i hi
    simp only [hV i hi, hK i hi]
    exact this
  · simp only [hK i hi, hK j hj] at e
    exact hS.2 i j hi hj e
  · match i, hq with
    | 0, hq => cases hq; exact vk_R.of (hts (.stringRef "WhoseThread$Text" 99 "plain") (by decide +kernel)) (by rw [hK 0 (by decide)]; exact hev 0 (by decide))
    | 1, hq => cases hq; exact vk_R.of (hts (.stringRef "WhoseThread$Text" 105 "brave") (by decide +kernel)) (by rw [hK 1 (by decide)]; exact hev 1 (by decide))
    | 2, hq => cases hq; exact vk_R.of (hts (.stringRef "WhoseThread$Text" 107 "silk") (by decide +kernel)) (by rw [hK 2 (by decide)]; exact hev 2 (by decide))
    | 3, hq => cases hq; exact vk_R.of (hts (.stringRef "WhoseThread$Text" 109 "endless") (by decide +kernel)) (by rw [hK 3 (by decide)]; exact hev 3 (by decide))
    | 4, hq => cases hq; exact vk_R.of (hts (.stringRef "WhoseThread$Text" 111 "over") (by decide +kernel)) (by rw [hK 4 (by decide)]; exact hev 4 (by decide))
    | 5, hq => cases hq; exact vk_R.of (hts (.stringRef "WhoseThread$Text" 112 "knot") (by decide +kernel)) (by rw [hK 5 (by decide)]; exact hev 5 (by decide))
    | 6, hq => cases hq; exact vk_R.of (hts (.stringRef "WhoseThread$Text" 114 "cut") (by decide +kernel)) (by rw [hK 6 (by decide)]; exact hev 6 (by decide))
    | 7, hq => cases hq; exact vk_R.of (hts (.stringRef "WhoseThread$Text" 116 "loom") (by decide +kernel)) (by rw [hK 7 (by decide)]; exact hev 7 (by decide))
    | 8, hq => cases hq; exact vk_R.of (hts (.stringRef "WhoseThread$Text" 118 "calm") (by decide +kernel)) (by rw [hK 8 (by decide)]; exact hev 8 (by decide))
    | 9, hq => cases hq; exact vk_R.of (hts (.stringRef "WhoseThread$Text" 120 "free") (by decide +kernel)) (by rw [hK 9 (by decide)]; exact hev 9 (by decide))
    | i + 10, hq => exact absurd hq (by simp [txL])
theorem start_K {s : State} {args : Array Value} (hts : ∀ w ∈ TT, w.before args s = true) (hin : ∀ w ∈ lw_tbl, w.before args s = true) : ∃ G : va_G, va_K G vwCl [] s := by
  have h : ∀ k : Nat, ∃ z : ClassId × (Nat → Nat), ∀ q : vw_C, vwCl[k]? = some q → u_Kn s q.1 q.2.1 q.2.2 z.1 z.2 := by
    intro k
    match k with
    | 0 =>
      obtain ⟨c0, i0, h0⟩ := u_known (C := RX0) (T := TX0) (N := 7) (n := 7) hts iTX0 (hin (.instantiable RX0 7) (by decide +kernel))
      exact ⟨(c0, i0), fun q hq => by cases hq; exact h0⟩
    | 1 =>
      obtain ⟨c0, i0, h0⟩ := u_known (C := RX1) (T := TX1) (N := 9) (n := 9) hts iTX1 (hin (.instantiable RX1 9) (by decide +kernel))
      exact ⟨(c0, i0), fun q hq => by cases hq; exact h0⟩
    | 2 =>
      obtain ⟨c0, i0, h0⟩ := u_known (C := RX2) (T := TX2) (N := 3) (n := 3) hts iTX2 (hin (.instantiable RX2 3) (by decide +kernel))
      exact ⟨(c0, i0), fun q hq => by cases hq; exact h0⟩
    | 3 =>
      obtain ⟨c0, i0, h0⟩ := u_known (C := RX3) (T := TX3) (N := 5) (n := 5) hts iTX3 (hin (.instantiable RX3 5) (by decide +kernel))
      exact ⟨(c0, i0), fun q hq => by cases hq; exact h0⟩
    | 4 =>
      obtain ⟨c0, i0, h0⟩ := u_known (C := RX4) (T := TX4) (N := 9) (n := 9) hts iTX4 (hin (.instantiable RX4 9) (by decide +kernel))
      exact ⟨(c0, i0), fun q hq => by cases hq; exact h0⟩
    | 5 =>
      obtain ⟨c0, i0, h0⟩ := u_known (C := RX5) (T := TX5) (N := 5) (n := 5) hts iTX5 (hin (.instantiable RX5 5) (by decide +kernel))
      exact ⟨(c0, i0), fun q hq => by cases hq; exact h0⟩
    | 6 =>
      obtain ⟨c0, i0, h0⟩ := u_known (C := RX6) (T := TX6) (N := 10) (n := 10) hts iTX6 (hin (.instantiable RX6 10) (by decide +kernel))
      exact ⟨(c0, i0), fun q hq => by cases hq; exact h0⟩
    | 7 =>
      obtain ⟨c0, i0, h0⟩ := u_known (C := RX7) (T := TX7) (N := 33) (n := 33) hts iTX7 (hin (.instantiable RX7 33) (by decide +kernel))
      exact ⟨(c0, i0), fun q hq => by cases hq; exact h0⟩
    | k + 8 => exact ⟨(0, fun _ => 0), fun q hq => absurd hq (by simp [vwCl])⟩
  obtain ⟨z, hz⟩ := Classical.axiomOfChoice h
  exact ⟨(fun k => (z k).1, fun k => (z k).2), fun k q hq => hz k q hq, fun k q hq => by simp at hq⟩
/-- THE LAW, from its entry -/
theorem whole_start {p : Program} {e : Env} {s : State} {m : MethodId} {below : List Frame} {meth : Method} {c : Code} (l : Launch) {b L : Nat} {xs : Nat → Int32} (hL : L ≤ 256) (C0 : lw_At p s m meth c b L xs) : W p l e room_1 s m #[Value.ref b] below meth c s.heap [] 0 0 (lw_Z below #[Value.ref b] s) (entryFrame m ([Value.ref b] : List Value).toArray 4) := by
  obtain ⟨hx, hb, hr, hml, hown, hts, hX, hbl, hlocks, hgv⟩ := id C0
  have hTT : ∀ w ∈ TT, w.before #[Value.ref b] s = true := fun w hw => hts w (TT_lw hw)
  obtain ⟨ad, hab, hSx⟩ := start_Sx hts hgv
  obtain ⟨G, hK⟩ := start_K hTT hts
  have hl := lv_entry ([.ref b]) (n := 4) (Nat.le_of_ble_eq_true rfl)
  rw [lg_entry_eq]
  generalize (lg_sl ([.ref b]) ++ List.replicate (4 - (lg_sl ([.ref b])).length) Slot.unset).toArray = ls at hl ⊢
  have hl : lv_has ls 4 [(0, .ref b)] := hl
  refine law_all (nm := meth.name) (N := L) (xs := xs) hL p l e s m #[Value.ref b] below meth c s.heap [] G ad 0 ad (fun q => s.heap.size ≤ q) ls ⟨⟨hx, hb, hml, hr, hown, hTT, hlocks, rfl⟩, ⟨fun _ => 0, fun k q h => by simp [wsF] at h, ⟨fun i j p q h => by simp [wsF] at h, fun k q h => by simp [wsF] at h⟩, hK, fun i x ty h => by simp at h, (fun x hx => by cases hx), by decide⟩, hSx, va_S.rf, fun _ h => h, Ext.rf, Nat.le_refl _, hl.1, Nat.le_of_ble_eq_true rfl, hl.2.1, fun i v hi => ?_⟩ ⟨by rw [hab]; exact hX, by rw [hab]; exact hbl, rfl, by rw [hab]⟩
  match i, hi with
  | 0, hi => cases hi; exact (hl.2.2 (0, .ref b) List.mem_cons_self).trans (by show _ = some (Slot.val (Value.ref (ad 1300))); rw [hab])
  | 1, hi => cases hi
  | 2, hi => cases hi
  | 3, hi => cases hi
  | i + 4, hi => exact absurd hi (by simp)
set_option maxHeartbeats 4000000 in
theorem lw_walk (l : Launch) (b : Addr) (xs : List Int32) : MetFree l x (headSpec (Jvm.Cond.code x code maxLocals ret :: tables_1) room_1) (lw_P b xs) (fun _ _ _ _ _ => True) lw_Q := by
  refine MetFree.of_bodyS (code := code) (maxLocals := maxLocals) (ret := ret) (by decide) ?_ ?_
  · intro args s m h hn
    obtain ⟨meth, c, h1, h2, h3, h4, h5, h6, -, -⟩ := Cond.code_spec hn (atoms_spec (ws := Jvm.Cond.code x code maxLocals ret :: tables_1) h _ List.mem_cons_self)
    exact ⟨meth, c, h1, h2, h3, h4, h5, h6⟩
  · intro p e s m args below meth c s₁ B hml0 hP _
    obtain ⟨rfl, hx, hbd, hgv⟩ := hP
    obtain ⟨scr, harrAt, hlist, hof, hsmall⟩ := hx
    obtain ⟨hcb, hkn, -, -⟩ := State.arrayAt?_spec harrAt
    have hown : s.vm.findClass R_law = some m.cls := findClass_of_methodNamed B.named
    have hts0 : ∀ c ∈ (Jvm.Cond.code x code maxLocals ret :: tables_1), c.before #[Value.ref b] s = true := atoms_spec (ws := Jvm.Cond.code x code maxLocals ret :: tables_1) B.pre
    have hts : ∀ w ∈ lw_tbl, w.before #[Value.ref b] s = true := k2_hts_sels lw_privs (fun w hw => hts0 w (List.mem_cons_of_mem _ hw)) lw_privs_ok
    have hml : c.maxLocals = 4 := B.maxLocals_eq (hts0 _ List.mem_cons_self)
    have X₀ : Stand p l e room_1 s m #[Value.ref b] below meth c s₁ [] 0 0 := Stand.of_body B
    have hh0 : s₁.heap = s.heap := by rw [B.state]; rfl
    have hsz : scr.slots.size = xs.length := by rw [← Array.length_toList, hlist, List.length_map]
    have hval : ∀ j : Nat, j < xs.length → scr.slots[j]? = some (.int (xs.getD j 0)) := fun j hj => by
      rw [← Array.getElem?_toList, hlist]
      simp [hj]
    have hbl : b < s.heap.size := (Array.getElem?_eq_some_iff.mp hcb).1
    have hX : va_X b xs.length (fun j => xs.getD j 0) s s.heap := ⟨scr, hcb, hof, hkn, hsz, hval⟩
    have K : W p l e room_1 s m #[Value.ref b] below meth c s₁.heap [] 0 0 (lw_Z below #[Value.ref b] s) (entryFrame m ([Value.ref b] : List Value).toArray 4) := by
      rw [hh0]
      exact whole_start l hbd ⟨B.exec, B.bytes, B.returns, hml, hown, hts, hX, hbl, B.notSynchronized, hgv⟩
    obtain ⟨t, a1, o, b1, b2, b3⟩ := K s₁ rfl X₀
    exact ⟨t, o, a1, b1, b2, b3⟩
theorem lw_pre_spec {args : Array Value} {s : State} (h : (Jvm.Cond.and given_1 narrow_1).before args s = true) (hr : rest_1_c.before args s = true) : ∃ (b : Addr) (xs : List Int32), lw_P b xs args s := by
  have hs := flat_of_before _ h
  have hq := flat_of_before _ hr
  have hc : (Cond.count 1).before args s = true := hs _ (by decide +kernel)
  have harr : (Cond.arrayOf (.arg 0) .int).before args s = true := hs _ (by decide +kernel)
  have hle : (Cond.le (.length (.arg 0)) (.int 256)).before args s = true := hs _ (by decide +kernel)
  have hlen : (Cond.isInt (.length (.arg 0))).before args s = true := hq _ (by decide +kernel)
  have hall : (Cond.all (.arg 0) (.isInt (.elem (.arg 0) (.index 0)))).before args s = true := hq _ (by decide +kernel)
  obtain ⟨b, xs, hb, hx⟩ := State.ints_of_pre rfl harr hlen hall
  have hsm : xs.length < 2 ^ 31 := hx.choose_spec.2.2.2
  have hev : (Term.length (.arg 0)).eval args s none [] s = some (.int xs.length.toInt32) := hx.length_eval hb
  have hv := Cond.le_ints hev (show (Term.int 256).eval args s none [] s = some (.int 256) from rfl)
  have hd : xs.length.toInt32 ≤ 256 := by
    simpa [Cond.before, Cond.holds, hv] using hle
  have hN : xs.length ≤ 256 := (Int32.ofNat_le_ofNat hsm (by decide)).mp (show Int32.ofNat xs.length ≤ Int32.ofNat 256 from hd)
  exact ⟨b, xs, Cond.one_arg hc (show args[0]? = some (.ref b) from hb), hx, hN, h⟩
theorem lw_comes (l : Launch) : Comes l x (Jvm.Cond.code x code maxLocals ret :: tables_1) room_1 (fun tb e args s => Calls_1 tb e args s ∧ rest_1 tb e args s ∧ Pre_1 tb e args s)
    (fun _ _ args s o t => lw_Q args s o t) := by
  intro p e ha hc hk s m args below hf hfit hheap happ hpre
  obtain ⟨b, xs, hP⟩ := lw_pre_spec hpre.2.2 hpre.2.1
  obtain ⟨k, o, h1, h2, h3, hQ⟩ := lw_walk l b xs p e ha hc hk s m args below hf ((Spec.applies_iff_loose hf).mp happ).1 hP trivial
  exact ⟨k, o, h1, h2, h3, hQ⟩
theorem lw_frame {s t : State} {o : Outcome} {args : Array Value} (h : Framed s o t [] 600000 7302250) :
    Framed s o t (fieldLocs frame_1_writes args s ++ arrayLocs frame_1_arrays args s ++ staticLocs frame_1_statics s) 600000 7302250 := h
theorem lw_limb (L : Cond) (hL : ∀ (args : Array Value) (s t : State), L.after args s (.returned (some (.int 1))) t = true) :
    ArmFor flags0 classFile x code maxLocals ret World_1 tables_1 room_1 Calls_1 rest_1 Pre_1
      (fun tb e a s o t => postC L tb e a s o t ∧ Framed s o t (fieldLocs frame_1_writes a s ++ arrayLocs frame_1_arrays a s ++ staticLocs frame_1_statics s) 600000 7302250) := by
  intro l _ _ _ p e ha hc hk s m args below hf hfit hheap happ hpre
  obtain ⟨k, o, h1, h2, h3, rfl, hF⟩ := lw_comes l p e ha hc hk s m args below hf hfit hheap happ hpre
  exact ⟨k, _, h1, h2, h3, hL args s _, lw_frame hF⟩
theorem i_vc : Claimed_1_1 ∧ Claimed_1_2 := ⟨lw_limb limb_1_1 (fun args s t => by simp [limb_1_1, Cond.after, Cond.holds, Cond.value]), lw_limb limb_1_2 (fun args s t => Cond.after_iff.mpr (by
  first | (rw [show limb_1_2 = Cond.eq .result (.int 1) from rfl, Cond.eq_ints (x := 1) (y := 1) rfl rfl]; simp; done) | (simp [limb_1_2, Cond.value, Term.eval]; done)))⟩
