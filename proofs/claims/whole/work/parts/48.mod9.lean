theorem Kc.len {D : MD} {d : Nat} {av : List Value} {F : FT} {G : GT} {P : Option Value → FT → GT → Prop} (h : (∀ c, (G c).length = gLen c) → Kc D d av F G P) : Kc D d av F G P := fun M hM => h hM.2.2 M hM
def updR (o : Nat) (v : Nat → Int32) : Nat → List Int32 → List Int32 := fun k l => l.set (o + k) (v k)
theorem updR_len (o : Nat) (v : Nat → Int32) : ∀ n k l, (iter (updR o v) n k l).length = l.length := by
  intro n
  induction n with
  | zero => intro k l; rfl
  | succ n ih => intro k l; rw [iter, ih, updR, List.length_set]
theorem updR_out (o : Nat) (v : Nat → Int32) : ∀ n k l j, (j < o + k ∨ o + k + n ≤ j) → (iter (updR o v) n k l).getD j 0 = l.getD j 0 := by
  intro n
  induction n with
  | zero => intro k l j _; rfl
  | succ n ih => intro k l j h; rw [iter, ih (k + 1) _ j (by omega), updR, getD_set_ne (by omega)]
theorem updR_in (o : Nat) (v : Nat → Int32) : ∀ n k l i, k ≤ i → i < k + n → o + i < l.length → (iter (updR o v) n k l).getD (o + i) 0 = v i := by
  intro n
  induction n with
  | zero => intro k l i h1 h2 _; omega
  | succ n ih =>
    intro k l i h1 h2 h3
    rw [iter]
    rcases Nat.eq_or_lt_of_le h1 with e | e
    · subst e
      rw [updR_out o v n (k + 1) _ _ (by omega), updR, getD_set_eq h3]
    · exact ih (k + 1) _ i e (by omega) (by rw [updR, List.length_set]; exact h3)
theorem cpS_upd (j : Nat) (st : List Int32) : cpS j st = updR j (fun k => st.getD k 0) := rfl
theorem cpR_upd (o : Nat) (src : List Int32) : cpR o src = updR 0 (fun k => src.getD (o + k) 0) := by
  funext k l
  rw [cpR, updR, Nat.zero_add]
theorem updR_all {o n : Nat} {v : Nat → Int32} {l m : List Int32} (ho : o = 0) (hl : l.length = n) (hm : m.length = n) (h : ∀ i, i < n → v i = m.getD i 0) : iter (updR o v) n 0 l = m := by
  subst ho
  refine getD_ext (by rw [updR_len, hl, hm]) (fun j hj => ?_)
  rw [updR_len, hl] at hj
  have := updR_in 0 v n 0 l j (by omega) (by omega) (by omega)
  rw [Nat.zero_add] at this
  rw [this, h j hj]
theorem shS_len : ∀ n k l, (iter shS n k l).length = l.length := by
  intro n
  induction n with
  | zero => intro k l; rfl
  | succ n ih => intro k l; rw [iter, ih, shS, List.length_set]
theorem shS_out : ∀ n k l j, (j < k ∨ k + n ≤ j) → (iter shS n k l).getD j 0 = l.getD j 0 := by
  intro n
  induction n with
  | zero => intro k l j _; rfl
  | succ n ih => intro k l j h; rw [iter, ih (k + 1) _ j (by omega), shS, getD_set_ne (by omega)]
theorem shS_in : ∀ n k l j, k ≤ j → j < k + n → j < l.length → (iter shS n k l).getD j 0 = l.getD (j + 42) 0 := by
  intro n
  induction n with
  | zero => intro k l j h1 h2 _; omega
  | succ n ih =>
    intro k l j h1 h2 h3
    rw [iter]
    rcases Nat.eq_or_lt_of_le h1 with e | e
    · subst e
      rw [shS_out n (k + 1) _ _ (by omega), shS, getD_set_eq h3]
    · rw [ih (k + 1) _ j e (by omega) (by rw [shS, List.length_set]; exact h3), shS, getD_set_ne (by omega)]
theorem note_past {n : Nat} {x : LoS} {p : List LoS} {l : List Int32} (hl : l.length = 336) (hp : PastM n l p) : PastM n (noteL p.length (enc n x) l) ((x :: p).take 8) := by
  obtain ⟨h8, hs⟩ := hp
  refine ⟨List.length_take_le 8 _, fun j y hj i hi => ?_⟩
  have hj8 : j < 8 := Nat.lt_of_lt_of_le (List.getElem?_eq_some_iff.mp hj).1 (List.length_take_le 8 _)
  rw [List.getElem?_take_of_lt hj8] at hj
  by_cases hu : p.length = 8
  · have ht : ((x :: p).take 8).length = 8 := by rw [List.length_take, List.length_cons, hu]; rfl
    rw [ht, noteL, if_pos hu, cpS_upd]
    match j, hj with
    | 0, hj =>
      have hj : x = y := by simpa using hj
      subst hj
      exact updR_in _ _ 42 0 _ i (by omega) (by omega) (by rw [shS_len, hl]; omega)
    | j + 1, hj =>
      have hj : p[j]? = some y := by simpa using hj
      rw [updR_out _ _ _ _ _ _ (by omega), shS_in 294 0 l _ (by omega) (by omega) (by omega)]
      have := hs j y hj i hi
      rw [hu] at this
      rw [← this]
      congr 1
      omega
  · have ht : ((x :: p).take 8).length = p.length + 1 := by rw [List.length_take, List.length_cons]; omega
    rw [ht, noteL, if_neg hu, cpS_upd]
    match j, hj with
    | 0, hj =>
      have hj : x = y := by simpa using hj
      subst hj
      exact updR_in _ _ 42 0 _ i (by omega) (by omega) (by rw [hl]; omega)
    | j + 1, hj =>
      have hj : p[j]? = some y := by simpa using hj
      have hjl := (List.getElem?_eq_some_iff.mp hj).1
      rw [updR_out _ _ _ _ _ _ (by omega)]
      have := hs j y hj i hi
      rw [← this]
      congr 1
      omega
theorem InvA.doo {a : AS} (h : InvA a) {x : LoS} (hx : LoA a x) : InvA (wDo a x) := by
  obtain ⟨h1, h2, h3, h4, h5, h6⟩ := h
  refine ⟨h1, h2, hx, List.length_take_le 8 _, fun y hy => ?_, h6⟩
  have hy := List.mem_of_mem_take hy
  rcases List.mem_cons.mp hy with e | e
  · rw [e]; exact h3
  · exact h5 y e
theorem m_noteA (d : Nat) (F : FT) (G : GT) (a : AS) (hM : MR a F G) (hI : InvA a) : Kc DX7_note d [.ref 89] F G (fun v F' G' => v = none ∧ MR (wDo a (aNow a)) F' G' ∧ FrX F G F' G') := by
  refine Kc.len (fun hlen => ?_)
  obtain ⟨⟨e2, e5, e9, e23⟩, hg, ⟨g95, g96⟩, hP, hK⟩ := id hM
  refine (m_note d F G (aPast a).length e23 hI.2.2.2.1).imp ?_
  rintro v F' G' ⟨rfl, rfl, rfl⟩
  refine ⟨rfl, ⟨⟨?_, ?_, ?_, ?_⟩, hg, ⟨g95, g96⟩, ?_, hK⟩, FrX.rf.u2.u1 (by decide)⟩
  · rw [u2_f _ _ (by decide)]; exact e2
  · rw [u2_f _ _ (by decide)]; exact e5
  · rw [u2_f _ _ (by decide)]; exact e9
  · rw [u2_s]
    congr 1
    have := hI.2.2.2.1
    show _ = ((aNow a :: aPast a).take 8).length
    rw [List.length_take, List.length_cons]
    split <;> omega
  · rw [u1_s, g95]
    exact note_past (hlen 102) hP
theorem MR.now {a : AS} {F : FT} {G : GT} (h : MR a F G) (x : LoS) : MR (wNow a x) F (u1 G 95 (enc (aN a) x)) := by
  obtain ⟨he, hg, ⟨g95, g96⟩, hP, hK⟩ := h
  exact ⟨he, hg, ⟨u1_s _ _ _, g96⟩, hP, hK⟩
theorem m_cutX (d : Nat) (hd : 4 ≤ d) (F : FT) (G : GT) (n : Nat) (hn : n ≤ 8) (kd ln : List Int32) (x : LoS) (hM : McR n kd ln x F G) (hL : LoI n kd ln x) (t : Nat) (ht : t < n) : Kc DX7_cutNow d [.ref 89, .int (nI t)] F G (fun v F' G' => v = some (.int (fallI kd (lOv x) (lKn x) (lWhole x) t)) ∧ F' = F ∧ G' = u1 G 95 (enc n (cutS n kd ln t x))) := by
  have h := m_cutNow d hd F G n kd ln x hM (hL.lk hn) t ht (by rw [hL.fall hn ht]; exact hL.sub hn ht _)
  obtain ⟨⟨l1, l2, l3, l4⟩, ⟨ho, hk, -, -⟩, -, w, c, dd, hw, hw2, hc, hc2, -⟩ := id hL
  rw [hL.fall hn ht, enc_cut hn l1 l2 l3 l4 ho hk hw hw2 hc (pow_256 hn hc2) ht] at h
  exact h
theorem m_cut (d : Nat) (hd : 20 ≤ d) (F : FT) (G : GT) (a : AS) (hM : MR a F G) (hI : InvA a) (t : Int32) : Kc DX7_cut d [.ref 89, .int t] F G (MP (s_cut a t) F G) := by
  obtain ⟨⟨e2, e5, e9, e23⟩, hg, ⟨g95, g96⟩, hP, hK⟩ := id hM
  have hn : aN a ≤ 8 := hI.1.1.1
  refine Kc.ofT [some (.ref 89), some (.int t)] pn_X7 (Nat.le_of_ble_eq_true rfl) rfl ?_
  refine T_al0 dX7_cut_0 ?_
  refine T_il1 dX7_cut_1 ?_
  refine T_pV1 lX7_172 rfl (by decide) (cell_89 _ _) (m_isThread _ (by omega) _ _ _ (by assumption) (by assumption) _) (by omega) (Nat.le_of_ble_eq_true rfl) dX7_cut_2 ?_
  refine T_bne 11 dX7_cut_5 (by decide) (fun h1 => ?_) (fun h1 => ?_)
  · obtain ⟨j, hk, rfl⟩ := knB_ok hn h1
    have hs : sv (nI j) = j := sv_nI (by omega)
    refine T_al0 dX7_cut_11 ?_
    refine T_il1 dX7_cut_12 ?_
    refine T_pV1 lX7_169 rfl (by decide) (cell_89 _ _) (m_isWholeA _ F G a hM hI j hk) (by omega) (Nat.le_of_ble_eq_true rfl) dX7_cut_13 ?_
    refine T_bne 22 dX7_cut_16 (by decide) (fun h2 => ?_) (fun h2 => ?_)
    · refine T_al0 dX7_cut_22 ?_
      refine T_cV0 lX7_192 rfl (by decide) (cell_89 _ _) (m_noteA _ F G a hM hI) (by omega) (Nat.le_of_ble_eq_true rfl) dX7_cut_23 (fun v F' G' hP => ?_)
      obtain ⟨rfl, hM1, hF1⟩ := hP
      have hI1 : InvA (wDo a (aNow a)) := hI.doo hI.2.2.1
      refine T_al0 dX7_cut_26 ?_
      refine T_il1 dX7_cut_27 ?_
      refine T_cV1 lX7_195 rfl (by decide) (cell_89 _ _) (m_cutX _ (by omega) F' G' (aN a) hn (aKd a) (aLn a) (aNow a) (hM1.mc hI1) hI.2.2.1 j hk) (by omega) (Nat.le_of_ble_eq_true rfl) dX7_cut_28 (fun v F' G' hP => ?_)
      obtain ⟨rfl, rfl, rfl⟩ := hP
      obtain ⟨m, hm, em⟩ := fall_S8 (kd := aKd a) hI.2.2.1.2.1.1 hI.2.2.1.2.1.2.1 (lWhole (aNow a)) (show j < 8 by omega)
      rw [em]
      refine T_pS1 lX7_198 (m_ones _ _ _ _ (by assumption)) (by omega) (Nat.le_of_ble_eq_true rfl) dX7_cut_31 ?_
      refine T_iret rfl dX7_cut_34 ?_
      rw [s_cut, if_pos h1, if_pos h2, hs, fallA, em, sv_nI (by omega)]
      exact ⟨rfl, hM1.now _, hF1.u1 (by decide)⟩
    · refine T_bipush (v := -4) dX7_cut_19 (by decide +kernel) ?_
      refine T_iret rfl dX7_cut_21 ?_
      rw [s_cut, if_pos h1, if_neg (by rw [h2]; decide)]
      exact MP.rf hM
  · refine T_bipush (v := -2) dX7_cut_8 (by decide +kernel) ?_
    refine T_iret rfl dX7_cut_10 ?_
    rw [s_cut, if_neg (by rw [h1]; decide)]
    exact MP.rf hM
