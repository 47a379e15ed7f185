def dayU (n m : Nat) (kd ln ot od : List Int32) (p : Int32 × LoS) : Int32 × LoS := (p.1 ||| (iter (ordU n kd ln ot od) m 0 (nI 0, p.2)).1, dayS n m kd ln ot od p.2)
theorem dayU_2 (n m : Nat) (kd ln ot od : List Int32) : ∀ k r p, (iter (fun _ => dayU n m kd ln ot od) k r p).2 = iter (fun _ => dayS n m kd ln ot od) k r p.2 := by
  intro k
  induction k with
  | zero => intro r p; rfl
  | succ k ih => intro r p; rw [iter, iter, ih]; rfl
theorem m_doomBy (d : Nat) (hd : 7 ≤ d) (F : FT) (G : GT) (n m : Nat) (hn : n ≤ 8) (hm : m ≤ 6) (kd ln ot od : List Int32) (x : LoS) (hM : McR n kd ln x F G) (hL : LoI n kd ln x) (hln : ∀ i, i < n → ∃ l, ln.getD i 0 = nI l ∧ 1 ≤ l ∧ l ≤ 60) (h5 : F 89 5 = nI m) (h92 : G 92 = ot) (h104 : G 104 = od) (hO : ∀ o, o < m → ∃ j, ot.getD o 0 = nI j ∧ j < n) : Kc DX7_doomBy d [.ref 89] F G (fun v F' G' => v = some (.int (lLost (iter (fun _ => dayU n m kd ln ot od) (100 - sv (lDay x)) 0 (nI 0, x)).2 - lLost x)) ∧ F' = u2 F 89 29 (iter (fun _ => dayU n m kd ln ot od) (100 - sv (lDay x)) 0 (nI 0, x)).1 ∧ ∀ c, c ≠ 107 → G' c = G c) := by
  refine Kc.len (fun hlen => ?_)
  obtain ⟨h1, h2, h3, h4, l1, l2, l3, l4⟩ := id hM
  refine Kc.ofT [some (.ref 89), none, none] pn_X7 (Nat.le_of_ble_eq_true rfl) rfl ?_
  refine T_iconst (v := nI 0) dX7_doomBy_0 rfl ?_
  refine T_is1 dX7_doomBy_1 rfl ?_
  refine T_G (u1_id G 107).symm ?_
  refine for_up (updR 0 (fun k => (G 95).getD k 0)) 42 (fun k l => T DX7_doomBy d 2 [some (.ref 89), some (.int (nI k)), none] [] F (u1 G 107 l) _) ?_ 42 0 (G 107) rfl ?_
  · intro k l hk h
    rw [updR, Nat.zero_add] at h
    refine T_il1 dX7_doomBy_2 ?_
    refine T_bipush (v := nI 42) dX7_doomBy_3 (by decide +kernel) ?_
    refine T_nge_f 26 dX7_doomBy_5 (by decide) (by omega) (by omega) (by omega) ?_
    refine T_al0 dX7_doomBy_8 ?_
    refine T_g7 gX7_62 (cell_89 _ _) rfl dX7_doomBy_9 ?_
    refine T_il1 dX7_doomBy_12 ?_
    refine T_al0 dX7_doomBy_13 ?_
    refine T_g7 gX7_25 (cell_89 _ _) rfl dX7_doomBy_14 ?_
    refine T_il1 dX7_doomBy_17 ?_
    refine T_aldN rfl (show _ < 42 by omega) dX7_doomBy_18 ?_
    rw [u1_n G _ (show (95 : Nat) ≠ 107 by decide)]
    refine T_astN (a := 107) rfl (show k < 42 by omega) dX7_doomBy_19 ?_
    rw [u1_s, u1_u1]
    refine T_ii1 dX7_doomBy_20 (by first | exact nI_inc _ | exact nI_dec _ | rfl) rfl ?_
    refine T_goto 2 dX7_doomBy_23 (by decide) ?_
    exact h
  have eE : iter (updR 0 (fun k => (G 95).getD k 0)) 42 0 (G 107) = enc n x := updR_all rfl (hlen 107) hL.elen (fun k hk => by show (G 95).getD k 0 = _; rw [h4])
  rw [eE]
  refine T_il1 dX7_doomBy_2 ?_
  refine T_bipush (v := nI 42) dX7_doomBy_3 (by decide +kernel) ?_
  refine T_nge_t 26 dX7_doomBy_5 (by decide) (by omega) (by omega) (by omega) ?_
  refine T_al0 dX7_doomBy_26 ?_
  refine T_iconst (v := nI 0) dX7_doomBy_27 rfl ?_
  refine T_put7_29 pX7_217 dX7_doomBy_28 ?_
  refine T_G (u1_id _ 95).symm ?_
  rw [u1_n G _ (show (95 : Nat) ≠ 107 by decide), h4]
  suffices hloop : ∀ (k : Nat) (p : Int32 × LoS), LoI n kd ln p.2 → 100 - sv (lDay p.2) = k → T DX7_doomBy d 31 [some (.ref 89), some (.int (nI 42)), none] [] (u2 F 89 29 p.1) (u1 (u1 G 107 (enc n x)) 95 (enc n p.2)) (fun v F' G' => v = some (.int (lLost (iter (fun _ => dayU n m kd ln ot od) k 0 p).2 - lLost x)) ∧ F' = u2 F 89 29 (iter (fun _ => dayU n m kd ln ot od) k 0 p).1 ∧ ∀ c, c ≠ 107 → G' c = G c) from hloop _ (nI 0, x) hL rfl
  intro k
  induction k with
  | zero =>
    intro p hp hk
    obtain ⟨k1, k2, k3, k4⟩ := hp.1
    obtain ⟨hd1, hd9⟩ := sv_day hp
    refine T_al0 dX7_doomBy_31 ?_
    refine T_g7 gX7_25 (cell_89 _ _) rfl dX7_doomBy_32 ?_
    refine T_bipush (v := nI 40) dX7_doomBy_35 (by decide +kernel) ?_
    refine T_aldN rfl (show _ < 42 by omega) dX7_doomBy_37 ?_
    rw [u1_s, (enc_day k1 k2 k3 k4).1, hd1]
    refine T_bipush (v := nI 99) dX7_doomBy_38 (by decide +kernel) ?_
    refine T_ngt_t 59 dX7_doomBy_40 (by decide) (by omega) (by omega) (by omega) ?_
    refine T_al0 dX7_doomBy_59 ?_
    refine T_g7 gX7_25 (cell_89 _ _) rfl dX7_doomBy_60 ?_
    refine T_bipush (v := nI 41) dX7_doomBy_63 (by decide +kernel) ?_
    refine T_aldN rfl (show _ < 42 by omega) dX7_doomBy_65 ?_
    refine T_al0 dX7_doomBy_66 ?_
    refine T_g7 gX7_62 (cell_89 _ _) rfl dX7_doomBy_67 ?_
    refine T_bipush (v := nI 41) dX7_doomBy_70 (by decide +kernel) ?_
    refine T_aldN rfl (show _ < 42 by omega) dX7_doomBy_72 ?_
    rw [u1_s, (enc_day k1 k2 k3 k4).2, u1_n _ _ (show (107 : Nat) ≠ 95 by decide), u1_s, (enc_day l1 l2 l3 l4).2]
    refine T_isub dX7_doomBy_73 ?_
    refine T_is1 dX7_doomBy_74 rfl ?_
    refine T_iconst (v := nI 0) dX7_doomBy_75 rfl ?_
    refine T_is2 dX7_doomBy_76 rfl ?_
    refine for_up (updR 0 (fun k => (enc n x).getD k 0)) 42 (fun k l => T DX7_doomBy d 77 [some (.ref 89), some (.int (lLost p.2 - lLost x)), some (.int (nI k))] [] (u2 F 89 29 p.1) (u1 (u1 G 107 (enc n x)) 95 l) _) ?_ 42 0 (enc n p.2) rfl ?_
    · intro k l hk h
      rw [updR, Nat.zero_add] at h
      refine T_il2 dX7_doomBy_77 ?_
      refine T_bipush (v := nI 42) dX7_doomBy_78 (by decide +kernel) ?_
      refine T_nge_f 101 dX7_doomBy_80 (by decide) (by omega) (by omega) (by omega) ?_
      refine T_al0 dX7_doomBy_83 ?_
      refine T_g7 gX7_25 (cell_89 _ _) rfl dX7_doomBy_84 ?_
      refine T_il2 dX7_doomBy_87 ?_
      refine T_al0 dX7_doomBy_88 ?_
      refine T_g7 gX7_62 (cell_89 _ _) rfl dX7_doomBy_89 ?_
      refine T_il2 dX7_doomBy_92 ?_
      refine T_aldN rfl (show _ < 42 by omega) dX7_doomBy_93 ?_
      rw [u1_n _ _ (show (107 : Nat) ≠ 95 by decide), u1_s]
      refine T_astN (a := 95) rfl (show k < 42 by omega) dX7_doomBy_94 ?_
      rw [u1_s, u1_u1]
      refine T_ii2 dX7_doomBy_95 (by first | exact nI_inc _ | exact nI_dec _ | rfl) rfl ?_
      refine T_goto 77 dX7_doomBy_98 (by decide) ?_
      exact h
    · refine T_il2 dX7_doomBy_77 ?_
      refine T_bipush (v := nI 42) dX7_doomBy_78 (by decide +kernel) ?_
      refine T_nge_t 101 dX7_doomBy_80 (by decide) (by omega) (by omega) (by omega) ?_
      refine T_il1 dX7_doomBy_101 ?_
      refine T_iret rfl dX7_doomBy_102 ?_
      refine ⟨rfl, rfl, fun c hc => ?_⟩
      have eE2 : iter (updR 0 (fun k => (enc n x).getD k 0)) 42 0 (enc n p.2) = enc n x := updR_all rfl hp.elen hL.elen (fun k hk => rfl)
      rw [eE2]
      by_cases h95 : c = 95
      · subst h95; rw [u1_s, h4]
      · rw [u1_n _ _ h95, u1_n _ _ hc]
  | succ k ih =>
    intro p hp hk
    obtain ⟨k1, k2, k3, k4⟩ := hp.1
    obtain ⟨hd1, hd9⟩ := sv_day hp
    have hMp : McR n kd ln p.2 (u2 F 89 29 p.1) (u1 (u1 G 107 (enc n x)) 95 (enc n p.2)) := ⟨h1, h2, h3, u1_s _ _ _, k1, k2, k3, k4⟩
    refine T_al0 dX7_doomBy_31 ?_
    refine T_g7 gX7_25 (cell_89 _ _) rfl dX7_doomBy_32 ?_
    refine T_bipush (v := nI 40) dX7_doomBy_35 (by decide +kernel) ?_
    refine T_aldN rfl (show _ < 42 by omega) dX7_doomBy_37 ?_
    rw [u1_s, (enc_day k1 k2 k3 k4).1, hd1]
    refine T_bipush (v := nI 99) dX7_doomBy_38 (by decide +kernel) ?_
    refine T_ngt_f 59 dX7_doomBy_40 (by decide) (by omega) (by omega) (by omega) ?_
    refine T_al0 dX7_doomBy_43 ?_
    refine T_dup dX7_doomBy_44 rfl ?_
    refine T_g7 gX7_217 (cell_89 _ _) rfl dX7_doomBy_45 ?_
    rw [u2_s]
    refine T_al0 dX7_doomBy_48 ?_
    refine T_cV0 lX7_214 rfl (by decide) (cell_89 _ _) (m_oneDay _ (by omega) _ _ n m hn hm kd ln ot od p.2 hMp hp h5 h92 h104 hO) (by omega) (Nat.le_of_ble_eq_true rfl) dX7_doomBy_49 (fun v F' G' hP => ?_)
    obtain ⟨rfl, rfl, rfl⟩ := hP
    rw [u1_u1]
    refine T_ior dX7_doomBy_52 ?_
    refine T_put7_29 pX7_217 dX7_doomBy_53 ?_
    rw [u2_u2]
    refine T_goto 31 dX7_doomBy_56 (by decide) ?_
    obtain ⟨h6, h7⟩ := hp.day (ot := ot) (od := od) hn hln hO (by omega)
    rw [iter, iter_c _ k (0 + 1) 0]
    exact ih (dayU n m kd ln ot od p) h6 (by
      show 100 - sv (lDay (dayS n m kd ln ot od p.2)) = k
      rw [h7, sv_nI (by omega)]
      omega)
/-! PURE: who is doomed -/
def DmR (c0 : Nat) (p : Int32 × LoS) : Prop := ∃ s, p.1 = nI s ∧ s < 256 ∧ lCut p.2 = nI (c0 ||| s) ∧ ∀ i, s.testBit i = true → c0.testBit i = false
theorem DmR.ord {n : Nat} {kd ln ot od : List Int32} (hn : n ≤ 8) {c0 : Nat} (hc0 : c0 < 256) {p : Int32 × LoS} (hp : LoI n kd ln p.2) (h : DmR c0 p) {o : Nat} (ho : ∃ j, ot.getD o 0 = nI j ∧ j < n) : DmR c0 (ordU n kd ln ot od o p) := by
  obtain ⟨j, ej, hj⟩ := ho
  obtain ⟨s, h1, h2, h3, h4⟩ := h
  obtain ⟨-, ⟨hov, hk, -, -⟩, -, w, c, dd, hw, hw2, hc, hc2, -, -, hdis, -⟩ := hp
  obtain ⟨f, f1, f2, f3⟩ := fall_sub (kd := kd) hov hk (pow_256 hn hw2) (i := j) (by omega)
  have hcc : c = c0 ||| s := nI_inj8 (pow_256 hn hc2) (Nat.or_lt_two_pow (n := 8) hc0 h2) (hc.symm.trans h3)
  rw [ordU]
  split
  · rw [ej, sv_nI (by omega)]
    refine ⟨s ||| f, ?_, Nat.or_lt_two_pow (n := 8) h2 f1, ?_, fun i hi => ?_⟩
    · show p.1 ||| fallI kd (lOv p.2) (lKn p.2) (lWhole p.2) j = _
      rw [hw, f2, h1, nI_or]
    · show lCut p.2 ||| fallI kd (lOv p.2) (lKn p.2) (lWhole p.2) j = _
      rw [hw, f2, h3, nI_or, Nat.or_assoc]
    · rw [Nat.testBit_or, Bool.or_eq_true] at hi
      rcases hi with hi | hi
      · exact h4 i hi
      · have := hdis i (f3 i hi)
        rw [hcc, Nat.testBit_or, Bool.or_eq_false_iff] at this
        exact this.1
  · exact ⟨s, h1, h2, h3, h4⟩
theorem DmR.ords {n m : Nat} {kd ln ot od : List Int32} (hn : n ≤ 8) {x : LoS} (hp : LoI n kd ln x) {c0 : Nat} (hc0 : c0 < 256) (hc : lCut x = nI c0) (ho : ∀ o, o < m → ∃ j, ot.getD o 0 = nI j ∧ j < n) : DmR c0 (iter (ordU n kd ln ot od) m 0 (nI 0, x)) :=
  (iter_inv (ordU n kd ln ot od) m (fun _ p => LoI n kd ln p.2 ∧ DmR c0 p) (fun k p hk hq => ⟨by
    obtain ⟨j, ej, hj⟩ := ho k hk
    rw [ordU]
    split
    · rw [ej, sv_nI (by omega)]; exact hq.1.cut hn hj
    · exact hq.1, hq.2.ord hn hc0 hq.1 (ho k hk)⟩) m 0 (nI 0, x) (by omega) ⟨hp, 0, rfl, by decide, by rw [Nat.or_zero]; exact hc, fun i hi => by rw [Nat.zero_testBit] at hi; cases hi⟩).2
theorem DmR.day {n m : Nat} {kd ln ot od : List Int32} (hn : n ≤ 8) {c0 : Nat} (hc0 : c0 < 256) {p : Int32 × LoS} (hp : LoI n kd ln p.2) (h : DmR c0 p) (ho : ∀ o, o < m → ∃ j, ot.getD o 0 = nI j ∧ j < n) : DmR c0 (dayU n m kd ln ot od p) := by
  obtain ⟨s, h1, h2, h3, h4⟩ := h
  have hcs := Nat.or_lt_two_pow (n := 8) hc0 h2
  obtain ⟨s', q1, q2, q3, q4⟩ := DmR.ords (ot := ot) (od := od) hn hp hcs h3 ho
  refine ⟨s ||| s', ?_, Nat.or_lt_two_pow (n := 8) h2 q2, ?_, fun i hi => ?_⟩
  · show p.1 ||| (iter (ordU n kd ln ot od) m 0 (nI 0, p.2)).1 = _
    rw [h1, q1, nI_or]
  · show lCut (iter (ordS n kd ln ot od) m 0 p.2) = _
    rw [← ordU_2 n kd ln ot od m 0 (nI 0, p.2), q3, Nat.or_assoc]
  · rw [Nat.testBit_or, Bool.or_eq_true] at hi
    rcases hi with hi | hi
    · exact h4 i hi
    · have := q4 i hi
      rw [Nat.testBit_or, Bool.or_eq_false_iff] at this
      exact this.1
theorem doom_set {n m : Nat} {kd ln ot od : List Int32} (hn : n ≤ 8) (hln : ∀ i, i < n → ∃ l, ln.getD i 0 = nI l ∧ 1 ≤ l ∧ l ≤ 60) {x : LoS} (hp : LoI n kd ln x) (ho : ∀ o, o < m → ∃ j, ot.getD o 0 = nI j ∧ j < n) : (iter (fun _ => dayU n m kd ln ot od) (100 - sv (lDay x)) 0 (nI 0, x)).1 = lCut (daysS n m kd ln ot od (100 - sv (lDay x)) x) &&& (lCut x ^^^ (-1)) := by
  obtain ⟨-, -, -, w, c, dd, hw, hw2, hc, hc2, hday, hd9, hdis, -⟩ := id hp
  have hc0 := pow_256 hn hc2
  have hs : sv (lDay x) = dd := by rw [hday, sv_nI (by omega)]
  have key := iter_inv (fun _ => dayU n m kd ln ot od) (100 - sv (lDay x)) (fun k p => (LoI n kd ln p.2 ∧ (sv (lDay p.2) = sv (lDay x) + k)) ∧ DmR c p) (fun k p hk hq => by
    obtain ⟨h6, h7⟩ := hq.1.1.day (ot := ot) (od := od) hn hln ho (by omega)
    exact ⟨⟨h6, by show sv (lDay (dayS n m kd ln ot od p.2)) = _; rw [h7, sv_nI (by omega)]; omega⟩, hq.2.day hn hc0 hq.1.1 ho⟩) (100 - sv (lDay x)) 0 (nI 0, x) (by omega) ⟨⟨hp, rfl⟩, 0, rfl, by decide, by rw [Nat.or_zero]; exact hc, fun i hi => by rw [Nat.zero_testBit] at hi; cases hi⟩
  obtain ⟨-, s, h1, h2, h3, h4⟩ := key
  rw [dayU_2] at h3
  rw [h1, daysS, h3, hc, nI_dif]
  congr 1
  apply Nat.eq_of_testBit_eq
  intro i
  rcases Nat.lt_or_ge i 8 with q | q
  · rw [dif_tb _ _ q, Nat.testBit_or]
    cases hq : s.testBit i with
    | true => rw [h4 i hq]; rfl
    | false => cases c.testBit i <;> rfl
  · have hp : (256 : Nat) ≤ 2 ^ i := show 2 ^ 8 ≤ 2 ^ i from Nat.pow_le_pow_right (by decide) q
    rw [Nat.testBit_lt_two_pow (Nat.lt_of_lt_of_le h2 hp), Nat.testBit_and, Nat.testBit_lt_two_pow (Nat.lt_of_lt_of_le (Nat.or_lt_two_pow (n := 8) hc0 h2) hp)]
    rfl
theorem InvA.ots {a : AS} (hI : InvA a) : ∀ o, o < aM a → ∃ j, (aOt a).getD o 0 = nI j ∧ j < aN a := fun o ho => by
  obtain ⟨j, y, h1, h2, -⟩ := hI.1.2.2.2.2.2 o ho
  exact ⟨j, h1, h2⟩
theorem m_doom (d : Nat) (hd : 20 ≤ d) (F : FT) (G : GT) (a : AS) (hM : MR a F G) (hI : InvA a) (w : Int32) : Kc DX7_doom d [.ref 89, .int w] F G (MP (s_doom a w, a) F G) := by
  obtain ⟨⟨e2, e5, e9, e23⟩, ⟨g90, g91, g92, g93, g94⟩, ⟨g95, g96⟩, hP, hK⟩ := id hM
  have hn : aN a ≤ 8 := hI.1.1.1
  have hm : aM a ≤ 6 := hI.1.1.2
  refine Kc.ofT [some (.ref 89), some (.int w), none] pn_X7 (Nat.le_of_ble_eq_true rfl) rfl ?_
  refine T_il1 dX7_doom_0 ?_
  refine T_i2l dX7_doom_1 ?_
  refine T_lconst (v := 0) dX7_doom_2 (by decide +kernel) ?_
  refine T_lconst (v := 1) dX7_doom_3 (by decide +kernel) ?_
  refine T_pS3 lX7_78 (m_in _ _ _ _ _ _) (by omega) (Nat.le_of_ble_eq_true rfl) dX7_doom_4 ?_
  rw [in_c (lo := 0) (hi := nI 1) (by decide +kernel) (by decide +kernel)]
  refine T_bne 13 dX7_doom_7 (by decide) (fun h1 => ?_) (fun h1 => ?_)
  · have h1 := nt_t h1
    refine T_al0 dX7_doom_13 ?_
    refine T_cV0 lX7_211 rfl (by decide) (cell_89 _ _) (m_asTold _ F G) (by omega) (Nat.le_of_ble_eq_true rfl) dX7_doom_14 (fun v F' G' hP => ?_)
    obtain ⟨rfl, rfl, rfl⟩ := hP
    rw [g93]
    have hMc : McR (aN a) (aKd a) (aLn a) (aNow a) F' (u1 G 104 (aOd a)) := hM.mc hI
    refine T_al0 dX7_doom_17 ?_
    refine T_cV0 lX7_220 rfl (by decide) (cell_89 _ _) (m_doomBy _ (by omega) F' _ (aN a) (aM a) hn hm (aKd a) (aLn a) (aOt a) (aOd a) (aNow a) hMc hI.2.2.1 hI.1.2.2.2.2.1 e5 g92 rfl hI.ots) (by omega) (Nat.le_of_ble_eq_true rfl) dX7_doom_18 (fun v F' G' hP => ?_)
    obtain ⟨rfl, rfl, hG⟩ := hP
    have hM2 : ∀ v : Int32, MR a (u2 F' 89 29 v) G' := fun v => ⟨⟨e2, e5, e9, e23⟩, ⟨by rw [hG 90 (by decide)]; exact g90, by rw [hG 91 (by decide)]; exact g91, by rw [hG 92 (by decide)]; exact g92, by rw [hG 93 (by decide)]; exact g93, by rw [hG 94 (by decide)]; exact g94⟩, ⟨by rw [hG 95 (by decide)]; exact g95, by rw [hG 96 (by decide)]; exact g96⟩, by rw [hG 102 (by decide)]; assumption, by rw [hG 105 (by decide), hG 106 (by decide)]; exact hK⟩
    have hX2 : ∀ v : Int32, FrX F' G (u2 F' 89 29 v) G' := fun v => ⟨(FrX.rf (G := G)).u2.1, fun c hc => by rw [hG c (by omega)]; exact u1_n _ _ (by omega)⟩
    refine T_is2 dX7_doom_21 rfl ?_
    refine T_il1 dX7_doom_22 ?_
    refine T_if_ne 30 dX7_doom_23 (by decide) (fun h2 => ?_) (fun h2 => ?_)
    · refine T_al0 dX7_doom_30 ?_
      refine T_g7 gX7_217 (cell_89 _ _) rfl dX7_doom_31 ?_
      refine T_iret rfl dX7_doom_34 ?_
      rw [u2_s, doom_set hn hI.1.2.2.2.2.1 hI.2.2.1 hI.ots, s_doom, if_neg h1, if_neg h2]
      exact ⟨rfl, hM2 _, hX2 _⟩
    · refine T_il2 dX7_doom_26 ?_
      refine T_goto 34 dX7_doom_27 (by decide) ?_
      refine T_iret rfl dX7_doom_34 ?_
      rw [dayU_2, s_doom, if_neg h1, if_pos h2]
      exact ⟨rfl, hM2 _, hX2 _⟩
  · have h1 := nt_f h1
    refine T_bipush (v := -3) dX7_doom_10 (by decide +kernel) ?_
    refine T_iret rfl dX7_doom_12 ?_
    rw [s_doom, if_pos h1]
    exact MP.rf hM
