/-! PURE: the invariant is kept by each call -/
theorem inv_write {a : AS} (h : InvA a) (x : Int32) : InvA (s_write a x).2 := by
  obtain ⟨h1, ⟨h2, h3⟩, hr⟩ := id h
  rw [s_write]
  split
  · exact h
  · split
    · rename_i q
      refine ⟨h1, ⟨?_, q⟩, hr⟩
      show ((aTx a).set (aLen a) x).length = 160
      rw [List.length_set]; exact h2
    · exact h
theorem inv_erase {a : AS} (h : InvA a) : InvA (s_erase a).2 := by
  obtain ⟨h1, ⟨h2, h3⟩, hr⟩ := id h
  exact ⟨h1, ⟨h2, by show 0 ≤ 160; omega⟩, hr⟩
theorem inv_loom {a : AS} (h : InvA a) : InvA (s_loom a).2 := by
  have hT : TeI (ffA a).2.2 := TeI.ff _ _ _ _ h.1
  obtain ⟨h1, ⟨h2, h3⟩, hr⟩ := id h
  rw [s_loom]
  split
  · exact ⟨hT, ⟨h2, by show 0 ≤ 160; omega⟩, LoI.beg hT, by show 0 ≤ 8; omega, (fun x hx => by cases hx), (fun x hx => by cases hx), (fun x hx => by cases hx)⟩
  · exact h
theorem inv_cut {a : AS} (h : InvA a) (t : Int32) : InvA (s_cut a t).2 := by
  have hn : aN a ≤ 8 := h.1.1.1
  rw [s_cut]
  split
  · rename_i h1
    split
    · obtain ⟨j, hj, rfl⟩ := knB_ok hn h1
      rw [sv_nI (by omega)]
      exact h.doo (h.2.2.1.cut hn hj)
    · exact h
  · exact h
theorem LoI.wOv {n : Nat} {kd ln : List Int32} {x : LoS} (h : LoI n kd ln x) {l : List Int32} (hl : l.length = 8) (ho : okS l) (ha : Acy l) (hz : ∀ q, n ≤ q → q < 8 → l.getD q 0 = 0) : LoI n kd ln (wOv x l) := by
  obtain ⟨⟨l1, l2, l3, l4⟩, ⟨h1, h2, h3, h4⟩, h5, hr⟩ := h
  exact ⟨⟨l1, l2, hl, l4⟩, ⟨ho, h2, ha, h4⟩, fun q q1 q2 => ⟨hz q q1 q2, (h5 q q1 q2).2⟩, hr⟩
theorem LoI.wKn {n : Nat} {kd ln : List Int32} {x : LoS} (h : LoI n kd ln x) {l : List Int32} (hl : l.length = 8) (ho : okS l) (hs : Sym8 l) (hz : ∀ q, n ≤ q → q < 8 → l.getD q 0 = 0) : LoI n kd ln (wKn x l) := by
  obtain ⟨⟨l1, l2, l3, l4⟩, ⟨h1, h2, h3, h4⟩, h5, hr⟩ := h
  exact ⟨⟨l1, l2, l3, hl⟩, ⟨h1, ho, h3, hs⟩, fun q q1 q2 => ⟨(h5 q q1 q2).1, hz q q1 q2⟩, hr⟩
theorem LoI.wCol {n : Nat} {kd ln : List Int32} {x : LoS} (h : LoI n kd ln x) {l : List Int32} (hl : l.length = 8) : LoI n kd ln (wCol x l) := by
  obtain ⟨⟨l1, l2, l3, l4⟩, hr⟩ := h
  exact ⟨⟨hl, l2, l3, l4⟩, hr⟩
theorem inv_put {a : AS} (h : InvA a) (x y : Int32) : InvA (s_put a x y).2 := by
  have hn : aN a ≤ 8 := h.1.1.1
  obtain ⟨⟨l1, l2, l3, l4⟩, ⟨ho, hk, ha, hs⟩, hz, -⟩ := id h.2.2.1
  rw [s_put]
  split
  · rename_i h1
    split
    · split
      · exact h
      · rename_i h3
        obtain ⟨i, j, hi, hj, hij, rfl, rfl⟩ := prB_ok hn h1
        have hr : ringB (lOv (aNow a)) (nI i) (nI j) = false := by
          cases hq : ringB (lOv (aNow a)) (nI i) (nI j) with
          | false => rfl
          | true => exact absurd (Or.inr hq) h3
        rw [sv_nI (by omega)]
        refine h.doo (h.2.2.1.wOv (by rw [List.length_set]; exact l3) (okS_or ho j (by omega)) (Acy_add l3 ho ha (by omega) (by omega) hr) (fun q q1 q2 => ?_))
        rw [getD_set_ne (by omega)]
        exact (hz q q1 q2).1
    · exact h
  · exact h
theorem off_at {l : List Int32} (hl : l.length = 8) (t : Int32) (k : Nat) : (iter (offS t) 8 0 l).getD k 0 = l.getD k 0 &&& (bitI t ^^^ (-1)) := by
  rcases Nat.lt_or_ge k 8 with q | q
  · exact offS_in t 8 0 l k (by omega) (by omega) (by omega)
  · rw [offS_out t 8 0 l k (by omega), List.getD_eq_getElem?_getD, List.getElem?_eq_none (by omega)]
    exact (zero_and _).symm
theorem inv_lift {a : AS} (h : InvA a) (t : Int32) : InvA (s_lift a t).2 := by
  obtain ⟨⟨l1, l2, l3, l4⟩, ⟨ho, hk, ha, hs⟩, hz, -⟩ := id h.2.2.1
  rw [s_lift]
  split
  · split
    · have hok : okS (iter (offS t) 8 0 (lOv (aNow a))) := fun k => by rw [off_at l3]; exact S8_and (ho k) _
      refine h.doo (h.2.2.1.wOv (by rw [offS_len]; exact l3) hok (Acy_mono ho hok (fun k => ?_) ha) (fun q q1 q2 => ?_))
      · rw [cN_m1 hok, off_at l3]
        have := cN_le ho (bitI t ^^^ (-1)) k
        rw [cN] at this
        exact this
      · rw [off_at l3, (hz q q1 q2).1, zero_and]
    · exact h
  · exact h
theorem inv_knot {a : AS} (h : InvA a) (x y w : Int32) : InvA (s_knot a x y w).2 := by
  have hn : aN a ≤ 8 := h.1.1.1
  obtain ⟨⟨l1, l2, l3, l4⟩, ⟨ho, hk, ha, hs⟩, hz, -⟩ := id h.2.2.1
  rw [s_knot]
  split
  · rename_i h1
    split
    · exact h
    · split
      · obtain ⟨i, j, hi, hj, hij, rfl, rfl⟩ := prB_ok hn h1
        rw [sv_nI (by omega), sv_nI (by omega)]
        refine h.doo ?_
        split
        · exact h.2.2.1
        · have hi8 : i < 8 := by omega
          have hj8 : j < 8 := by omega
          have e : knSet (lKn (aNow a)) i j = ((lKn (aNow a)).set i ((lKn (aNow a)).getD i 0 ^^^ bitI (nI j))).set j ((lKn (aNow a)).getD j 0 ^^^ bitI (nI i)) := by rw [knSet, getD_set_ne hij]
          rw [e]
          refine h.2.2.1.wKn (by rw [List.length_set, List.length_set]; exact l4) (okS_two l4 hk hi8 hj8 hij (has_xor (hk i) hj8 hi8).2 (has_xor (hk j) hi8 hj8).2) (Sym8_two (f := fun b => !b) l4 hs hi8 hj8 hij (fun q hq => ?_) (fun q hq => ?_)) (fun q q1 q2 => ?_)
          · rw [(has_xor (hk i) hj8 hq).1]
            by_cases e : q = j
            · subst e; rw [if_pos rfl, decide_eq_true rfl, Bool.xor_true]
            · rw [if_neg e, decide_eq_false (fun z => e z.symm), Bool.xor_false]
          · rw [(has_xor (hk j) hi8 hq).1]
            by_cases e : q = i
            · subst e; rw [if_pos rfl, decide_eq_true rfl, Bool.xor_true]
            · rw [if_neg e, decide_eq_false (fun z => e z.symm), Bool.xor_false]
          · rw [getD_set_ne (by omega), getD_set_ne (by omega)]
            exact (hz q q1 q2).2
      · exact h
  · exact h
theorem inv_dye {a : AS} (h : InvA a) (t c : Int32) : InvA (s_dye a t c).2 := by
  rw [s_dye]
  split
  · split
    · exact h
    · split
      · exact h.doo (h.2.2.1.wCol (by rw [List.length_set]; exact h.2.2.1.1.1))
      · exact h
  · exact h
theorem LoI.days {n m : Nat} {kd ln ot od : List Int32} {x : LoS} (hn : n ≤ 8) (hl : ∀ i, i < n → ∃ l, ln.getD i 0 = nI l ∧ 1 ≤ l ∧ l ≤ 60) (h : LoI n kd ln x) (ho : ∀ o, o < m → ∃ j, ot.getD o 0 = nI j ∧ j < n) (k : Nat) (hk : sv (lDay x) + k ≤ 999) : LoI n kd ln (daysS n m kd ln ot od k x) ∧ sv (lDay (daysS n m kd ln ot od k x)) = sv (lDay x) + k :=
  iter_inv (fun _ => dayS n m kd ln ot od) k (fun j y => LoI n kd ln y ∧ sv (lDay y) = sv (lDay x) + j) (fun j y hj hy => by
    obtain ⟨h3, h4⟩ := hy.1.day (ot := ot) (od := od) hn hl ho (by omega)
    exact ⟨h3, by rw [h4, sv_nI (by omega)]; omega⟩) k 0 x (by omega) ⟨h, rfl⟩
theorem inv_go {a : AS} (h : InvA a) (z : Int32) : InvA (s_go a z).2 := by
  have hn : aN a ≤ 8 := h.1.1.1
  obtain ⟨hd1, hd9⟩ := sv_day h.2.2.1
  rw [s_go]
  split
  · exact h
  · rename_i h1
    split
    · exact h
    · rename_i h2
      obtain ⟨q, hq, rfl⟩ := nI_of (x := z) (fun w => h1 (Or.inl (Int32.lt_trans w (by decide))))
      have hq2 : q ≤ 99 := (nI_leI hq (by decide)).mp (Int32.not_lt.mp (fun w => h1 (Or.inr w)))
      rw [hd1, nI_add] at h2
      have h3 := (nI_leI (by omega) (by decide)).mp (Int32.not_lt.mp h2)
      rw [sv_nI hq]
      exact h.doo (h.2.2.1.days hn h.1.2.2.2.2.1 h.ots q h3).1
theorem inv_undo {a : AS} (h : InvA a) : InvA (s_undo a).2 := by
  obtain ⟨h1, h2, h3, h4, h5, h6⟩ := id h
  cases hp : aPast a with
  | nil => rw [s_undo, hp]; exact h
  | cons x r =>
    rw [s_undo, hp]
    rw [hp] at h4 h5
    exact ⟨h1, h2, h5 x List.mem_cons_self, Nat.le_of_succ_le h4, fun y hy => h5 y (List.mem_cons_of_mem _ hy), h6⟩
theorem inv_keep {a : AS} (h : InvA a) (k : Int32) : InvA (s_keep a k).2 := by
  obtain ⟨h1, h2, h3, h4, h5, h6, h7⟩ := id h
  rw [s_keep]
  split
  · exact h
  · refine ⟨h1, h2, h3, h4, h5, fun x hx => ?_, fun x hx => ?_⟩
    · have hx : (putK (aKept a) (sv k) (aNow a)).1 = some x := hx
      unfold putK at hx
      split at hx
      · cases hx; exact h3
      · exact h6 x hx
    · have hx : (putK (aKept a) (sv k) (aNow a)).2 = some x := hx
      unfold putK at hx
      split at hx
      · exact h7 x hx
      · cases hx; exact h3
theorem inv_back {a : AS} (h : InvA a) (k : Int32) : InvA (s_back a k).2 := by
  obtain ⟨h1, h2, h3, h4, h5, h6, h7⟩ := id h
  rw [s_back]
  split
  · exact h
  · split
    · rename_i x hx
      refine ⟨h1, h2, ?_, by show 0 ≤ 8; omega, (fun x hx => by cases hx), h6, h7⟩
      unfold keptAt at hx
      split at hx
      · exact h6 x hx
      · exact h7 x hx
    · exact h
