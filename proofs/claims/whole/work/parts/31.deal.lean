/-! Dealing: row, first, least; days, slots -/
abbrev DlS : Type := List Int32 × List Int32 × Int32
def dF (F : FT) (v : Int32) : FT := u2 F 82 6 v
def dG (G : GT) (r f : List Int32) : GT := u1 (u1 G 84 r) 85 f
theorem dF_m (F : FT) (v : Int32) : dF F v 82 6 = v := u2_s _ _ _ _
theorem dF_s (F : FT) (v : Int32) : dF F v 82 4 = F 82 4 := u2_f _ _ (by decide)
theorem dF_o (F : FT) (v : Int32) {c : Nat} (i : Nat) (h : c ≠ 82) : dF F v c i = F c i := u2_c _ _ h
theorem dF_u (F : FT) (v w : Int32) : u2 (dF F v) 82 6 w = dF F w := u2_u2 _ _ _ _ _
theorem dG_r (G : GT) (r f : List Int32) : dG G r f 84 = r := by simp [dG, u1_at]
theorem dG_f (G : GT) (r f : List Int32) : dG G r f 85 = f := by simp [dG, u1_at]
theorem dG_o (G : GT) (r f : List Int32) {c : Nat} (h : c < 84 ∨ 85 < c) : dG G r f c = G c := by simp only [dG, u1_at]; rw [if_neg (by omega), if_neg (by omega)]
theorem dG_ur (G : GT) (r f l : List Int32) : u1 (dG G r f) 84 l = dG G l f := by
  funext c; simp only [dG, u1_at]; by_cases h : c = 84 <;> simp [h]
theorem dG_uf (G : GT) (r f l : List Int32) : u1 (dG G r f) 85 l = dG G r l := by
  funext c; simp only [dG, u1_at]; by_cases h : c = 85 <;> simp [h]
def ahB (r f : List Int32) : Nat → Nat → Bool
  | 0, _ => false
  | k + 1, i => if r.getD i 0 = f.getD i 0 then ahB r f k (i + 1) else decide (r.getD i 0 < f.getD i 0)
def takeD (m : Nat) (loss : Int32) (s : DlS) : DlS := if loss < s.2.2 ∨ ahB s.1 s.2.1 m 0 = true then (s.1, s.1, loss) else s
/-- threads, orders, kinds, lengths, over, knots, whom, the days dealt -/
abbrev DlE : Type := Nat × Nat × List Int32 × List Int32 × List Int32 × List Int32 × List Int32 × List Int32
abbrev qN (q : DlE) : Nat := q.1
abbrev qM (q : DlE) : Nat := q.2.1
abbrev qKd (q : DlE) : List Int32 := q.2.2.1
abbrev qLn (q : DlE) : List Int32 := q.2.2.2.1
abbrev qOv (q : DlE) : List Int32 := q.2.2.2.2.1
abbrev qKn (q : DlE) : List Int32 := q.2.2.2.2.2.1
abbrev qOt (q : DlE) : List Int32 := q.2.2.2.2.2.2.1
abbrev qDs (q : DlE) : List Int32 := q.2.2.2.2.2.2.2
def fallQ (q : DlE) (w : Int32) (i : Nat) : Int32 := fallI (qKd q) (qOv q) (qKn q) w (sv ((qOt q).getD i 0))
def stQ (q : DlE) (slot b : Nat) : Nat := if 0 < slot ∧ (qDs q).getD (slot - 1) 0 = (qDs q).getD slot 0 then b + 1 else 0
def dealQ (q : DlE) : Nat → Nat → Nat → Int32 → Int32 → Int32 → DlS → DlS
  | 0, _, _, _, _, loss, s => if s.2.2 < loss then s else takeD (qM q) loss s
  | k + 1, slot, b, com, w, loss, s => if s.2.2 < loss then s else iter (fun i s => if hasI com (nI i) = true then dealQ q k (slot + 1) i (com &&& (bitI (nI i) ^^^ (-1))) (lastI (qKd q) (qLn q) (qN q) w ((qDs q).getD slot 0) &&& (fallQ q (lastI (qKd q) (qLn q) (qN q) w ((qDs q).getD slot 0)) i ^^^ (-1))) (loss + lossI (qKd q) (qLn q) (qN q) (fallQ q (lastI (qKd q) (qLn q) (qN q) w ((qDs q).getD slot 0)) i) ((qDs q).getD slot 0)) (s.1.set i ((qDs q).getD slot 0), s.2) else s) (qM q - stQ q slot b) (stQ q slot b) s
def DlR (q : DlE) (sl : Nat) (F : FT) (G : GT) : Prop := F 3 0 = nI (qN q) ∧ F 3 1 = nI (qM q) ∧ G 4 = qKd q ∧ G 5 = qLn q ∧ G 21 = qOv q ∧ G 22 = qKn q ∧ G 9 = qOt q ∧ G 83 = qDs q ∧ F 82 4 = nI sl
theorem DlR.k {q : DlE} {sl : Nat} {F : FT} {G : GT} (h : DlR q sl F G) (s : DlS) : DlR q sl (dF F s.2.2) (dG G s.1 s.2.1) := by
  obtain ⟨h1, h2, h3, h4, h5, h6, h7, h8, h9⟩ := h
  exact ⟨by rw [dF_o _ _ _ (by decide)]; exact h1, by rw [dF_o _ _ _ (by decide)]; exact h2, by rw [dG_o _ _ _ (by decide)]; exact h3, by rw [dG_o _ _ _ (by decide)]; exact h4, by rw [dG_o _ _ _ (by decide)]; exact h5, by rw [dG_o _ _ _ (by decide)]; exact h6, by rw [dG_o _ _ _ (by decide)]; exact h7, by rw [dG_o _ _ _ (by decide)]; exact h8, by rw [dF_s]; exact h9⟩
def DlP (F : FT) (G : GT) (s : DlS) : Option Value → FT → GT → Prop := fun v F' G' => v = none ∧ F' = dF F s.2.2 ∧ G' = dG G s.1 s.2.1
theorem c_isAhead (d : Nat) (F : FT) (G : GT) (m : Nat) (hm : m ≤ 6) (hF : F 3 1 = nI m) : Kp DX0_isAhead d [.ref 82] F G (some (.int (bI (ahB (G 84) (G 85) m 0)))) := by
  refine Kc.ofT [some (.ref 82), none] pn_X0 (Nat.le_of_ble_eq_true rfl) rfl ?_
  refine T_iconst (v := nI 0) dX0_isAhead_0 rfl ?_
  refine T_is1 dX0_isAhead_1 rfl ?_
  suffices h : ∀ k i, i + k = m → T DX0_isAhead d 2 [some (.ref 82), some (.int (nI i))] [] F G (fun v F' G' => v = some (.int (bI (ahB (G 84) (G 85) k i))) ∧ F' = F ∧ G' = G) from h m 0 (by omega)
  intro k
  induction k with
  | zero =>
    intro i hi
    refine T_il1 dX0_isAhead_2 ?_
    refine T_al0 dX0_isAhead_3 ?_
    refine T_g0 gX0_21 (cell_82 _ _) rfl dX0_isAhead_4 ?_
    refine T_g4 gX0_33 (by first | assumption | decide) (cell_T _ _ (by first | assumption | decide)) rfl dX0_isAhead_7 ?_
    rw [hF]
    refine T_nge_t 55 dX0_isAhead_10 (by decide) (by omega) (by omega) (by omega) ?_
    refine T_iconst (v := nI 0) dX0_isAhead_55 rfl ?_
    refine T_bret0 rfl dX0_isAhead_56 ?_
    exact ⟨rfl, rfl, rfl⟩
  | succ k ih =>
    intro i hi
    rw [ahB]
    refine T_il1 dX0_isAhead_2 ?_
    refine T_al0 dX0_isAhead_3 ?_
    refine T_g0 gX0_21 (cell_82 _ _) rfl dX0_isAhead_4 ?_
    refine T_g4 gX0_33 (by first | assumption | decide) (cell_T _ _ (by first | assumption | decide)) rfl dX0_isAhead_7 ?_
    rw [hF]
    refine T_nge_f 55 dX0_isAhead_10 (by decide) (by omega) (by omega) (by omega) ?_
    refine T_al0 dX0_isAhead_13 ?_
    refine T_g0 gX0_15 (cell_82 _ _) rfl dX0_isAhead_14 ?_
    refine T_il1 dX0_isAhead_17 ?_
    refine T_aldN rfl (show _ < 6 by omega) dX0_isAhead_18 ?_
    refine T_al0 dX0_isAhead_19 ?_
    refine T_g0 gX0_18 (cell_82 _ _) rfl dX0_isAhead_20 ?_
    refine T_il1 dX0_isAhead_23 ?_
    refine T_aldN rfl (show _ < 6 by omega) dX0_isAhead_24 ?_
    refine T_icmp_eq 49 dX0_isAhead_25 (by decide) (fun h1 => ?_) (fun h1 => ?_)
    · rw [if_pos h1]
      refine T_ii1 dX0_isAhead_49 (by first | exact nI_inc _ | exact nI_dec _ | rfl) rfl ?_
      refine T_goto 2 dX0_isAhead_52 (by decide) ?_
      exact ih (i + 1) (by omega)
    · rw [if_neg h1]
      refine T_al0 dX0_isAhead_28 ?_
      refine T_g0 gX0_15 (cell_82 _ _) rfl dX0_isAhead_29 ?_
      refine T_il1 dX0_isAhead_32 ?_
      refine T_aldN rfl (show _ < 6 by omega) dX0_isAhead_33 ?_
      refine T_al0 dX0_isAhead_34 ?_
      refine T_g0 gX0_18 (cell_82 _ _) rfl dX0_isAhead_35 ?_
      refine T_il1 dX0_isAhead_38 ?_
      refine T_aldN rfl (show _ < 6 by omega) dX0_isAhead_39 ?_
      refine T_icmp_ge 47 dX0_isAhead_40 (by decide) (fun h2 => ?_) (fun h2 => ?_)
      · refine T_iconst (v := nI 0) dX0_isAhead_47 rfl ?_
        refine T_bret0 rfl dX0_isAhead_48 ?_
        exact ⟨by rw [decide_eq_false (Int32.not_lt.mpr h2)], rfl, rfl⟩
      · refine T_iconst (v := nI 1) dX0_isAhead_43 rfl ?_
        refine T_goto 48 dX0_isAhead_44 (by decide) ?_
        refine T_bret1 rfl dX0_isAhead_48 ?_
        exact ⟨by rw [decide_eq_true (Int32.not_le.mp h2)], rfl, rfl⟩
theorem c_dtake (d : Nat) (hd : 1 ≤ d) (F : FT) (G : GT) (m : Nat) (hm : m ≤ 6) (hF : F 3 1 = nI m) (s : DlS) (loss : Int32) : Kc DX0_take d [.ref 82, .int loss] (dF F s.2.2) (dG G s.1 s.2.1) (DlP F G (takeD m loss s)) := by
  have yes : (loss < s.2.2 ∨ ahB s.1 s.2.1 m 0 = true) → T DX0_take d 15 [some (.ref 82), some (.int loss)] [] (dF F s.2.2) (dG G s.1 s.2.1) (DlP F G (takeD m loss s)) := by
    intro hc
    refine T_al0 dX0_take_15 ?_
    refine T_il1 dX0_take_16 ?_
    refine T_put0_6 pX0_54 dX0_take_17 ?_
    rw [dF_u]
    refine T_al0 dX0_take_20 ?_
    refine T_g0 gX0_15 (cell_82 _ _) rfl dX0_take_21 ?_
    refine T_iconst (v := nI 0) dX0_take_24 rfl ?_
    refine T_al0 dX0_take_25 ?_
    refine T_g0 gX0_18 (cell_82 _ _) rfl dX0_take_26 ?_
    refine T_iconst (v := nI 0) dX0_take_29 rfl ?_
    refine T_bipush (v := nI 6) dX0_take_30 (by decide +kernel) ?_
    refine T_acopy lX0_91 (a0 := 84) (a1 := 85) rfl rfl rfl rfl (by omega) dX0_take_32 ?_
    rw [dG_r, dG_uf]
    refine T_vret rfl dX0_take_35 ?_
    rw [takeD, if_pos hc]
    exact ⟨rfl, rfl, rfl⟩
  refine Kc.ofT [some (.ref 82), some (.int loss)] pn_X0 (Nat.le_of_ble_eq_true rfl) rfl ?_
  refine T_il1 dX0_take_0 ?_
  refine T_al0 dX0_take_1 ?_
  refine T_g0 gX0_54 (cell_82 _ _) rfl dX0_take_2 ?_
  rw [dF_m]
  refine T_icmp_lt 15 dX0_take_5 (by decide) (fun h1 => ?_) (fun h1 => ?_)
  · exact yes (Or.inl h1)
  · refine T_al0 dX0_take_8 ?_
    refine T_pV0 lX0_87 rfl (by decide) (cell_82 _ _) (c_isAhead _ _ _ m hm (by rw [dF_o _ _ _ (by decide)]; exact hF)) (by omega) (Nat.le_of_ble_eq_true rfl) dX0_take_9 ?_
    rw [dG_r, dG_f]
    refine T_beq 35 dX0_take_12 (by decide) (fun h2 => ?_) (fun h2 => ?_)
    · refine T_vret rfl dX0_take_35 ?_
      rw [takeD, if_neg (fun z => by rcases z with z | z; (exact h1 z); (rw [h2] at z; cases z))]
      exact ⟨rfl, rfl, rfl⟩
    · exact yes (Or.inr h2)
theorem c_dealFrom (F : FT) (G : GT) (q : DlE) (sl : Nat) (h : DlR q sl F G) (hsl : sl ≤ 6) (hn : qN q ≤ 8) (hm : qM q ≤ 6) (ho : okS (qOv q)) (hO : ∀ o, o < qM q → ∃ j, j < 8 ∧ (qOt q).getD o 0 = nI j) : ∀ (k slot b d : Nat) (bf : Int32) (s : DlS) (com w loss : Int32), slot + k = sl → 2 * k + 4 ≤ d → (slot = 0 ∨ (bf = nI b ∧ b < qM q)) → Kc DX0_dealFrom d [.ref 82, .int (nI slot), .int bf, .int com, .int w, .int loss] (dF F s.2.2) (dG G s.1 s.2.1) (DlP F G (dealQ q k slot b com w loss s)) := by
  intro k
  induction k with
  | zero =>
    intro slot b d bf s com w loss hk hd hbf
    obtain ⟨h1, h2, h3, h4, h5, h6, h7, h8, h9⟩ := h.k s
    refine Kc.ofT [some (.ref 82), some (.int (nI slot)), some (.int bf), some (.int com), some (.int w), some (.int loss), none, none, none, none] pn_X0 (Nat.le_of_ble_eq_true rfl) rfl ?_
    rw [dealQ]
    refine T_il5 dX0_dealFrom_0 ?_
    refine T_al0 dX0_dealFrom_2 ?_
    refine T_g0 gX0_54 (cell_82 _ _) rfl dX0_dealFrom_3 ?_
    rw [dF_m]
    refine T_icmp_le 10 dX0_dealFrom_6 (by decide) (fun b1 => ?_) (fun b1 => ?_)
    · rw [if_neg (Int32.not_lt.mpr b1)]
      refine T_il1 dX0_dealFrom_10 ?_
      refine T_al0 dX0_dealFrom_11 ?_
      refine T_g0 gX0_29 (cell_82 _ _) rfl dX0_dealFrom_12 ?_
      rw [h9]
      refine T_nlt_f 25 dX0_dealFrom_15 (by decide) (by omega) (by omega) (by omega) ?_
      refine T_al0 dX0_dealFrom_18 ?_
      refine T_il5 dX0_dealFrom_19 ?_
      refine T_cV1 lX0_64 rfl (by decide) (cell_82 _ _) (c_dtake _ (by omega) F G (qM q) hm h.2.1 s loss) (by omega) (Nat.le_of_ble_eq_true rfl) dX0_dealFrom_21 (fun v F' G' hP => ?_)
      obtain ⟨rfl, rfl, rfl⟩ := hP
      refine T_vret rfl dX0_dealFrom_24 ?_
      exact ⟨rfl, rfl, rfl⟩
    · rw [if_pos (Int32.not_le.mp b1)]
      refine T_vret rfl dX0_dealFrom_9 ?_
      exact ⟨rfl, rfl, rfl⟩
  | succ k ih =>
    intro slot b d bf s com w loss hk hd hbf
    obtain ⟨h1, h2, h3, h4, h5, h6, h7, h8, h9⟩ := h.k s
    refine Kc.ofT [some (.ref 82), some (.int (nI slot)), some (.int bf), some (.int com), some (.int w), some (.int loss), none, none, none, none] pn_X0 (Nat.le_of_ble_eq_true rfl) rfl ?_
    rw [dealQ]
    refine T_il5 dX0_dealFrom_0 ?_
    refine T_al0 dX0_dealFrom_2 ?_
    refine T_g0 gX0_54 (cell_82 _ _) rfl dX0_dealFrom_3 ?_
    rw [dF_m]
    refine T_icmp_le 10 dX0_dealFrom_6 (by decide) (fun b1 => ?_) (fun b1 => ?_)
    · rw [if_neg (Int32.not_lt.mpr b1)]
      refine T_il1 dX0_dealFrom_10 ?_
      refine T_al0 dX0_dealFrom_11 ?_
      refine T_g0 gX0_29 (cell_82 _ _) rfl dX0_dealFrom_12 ?_
      rw [h9]
      refine T_nlt_t 25 dX0_dealFrom_15 (by decide) (by omega) (by omega) (by omega) ?_
      refine T_al0 dX0_dealFrom_25 ?_
      refine T_g0 gX0_9 (cell_82 _ _) rfl dX0_dealFrom_26 ?_
      refine T_il1 dX0_dealFrom_29 ?_
      refine T_aldN rfl (show _ < 6 by omega) dX0_dealFrom_30 ?_
      rw [h8]
      generalize hday : (qDs q).getD slot 0 = day
      refine T_is6 dX0_dealFrom_31 rfl ?_
      refine T_al0 dX0_dealFrom_33 ?_
      refine T_g0 gX0_21 (cell_82 _ _) rfl dX0_dealFrom_34 ?_
      refine T_il4 dX0_dealFrom_37 ?_
      refine T_il6 dX0_dealFrom_39 ?_
      refine T_pV2 lX0_67 rfl (by omega) (cell_T _ _ (by first | assumption | decide)) (c_lasting _ _ _ 3 (by decide) (by omega) (qN q) h1 hn _ _) (by omega) (Nat.le_of_ble_eq_true rfl) dX0_dealFrom_41 ?_
      refine T_is7 dX0_dealFrom_44 rfl ?_
      rw [show dG G s.1 s.2.1 (3 + 1) = _ from h3, show dG G s.1 s.2.1 (3 + 2) = _ from h4]
      generalize hamo : lastI (qKd q) (qLn q) (qN q) w day = among
      have lp : ∀ (lk : Int32) (st : Nat), st ≤ qM q → T DX0_dealFrom d 84 [some (.ref 82), some (.int (nI slot)), some (.int bf), some (.int com), some (.int w), some (.int loss), some (.int day), some (.int among), some (.int lk), some (.int (nI st))] [] (dF F s.2.2) (dG G s.1 s.2.1) (DlP F G (iter (fun i s => if hasI com (nI i) = true then dealQ q k (slot + 1) i (com &&& (bitI (nI i) ^^^ (-1))) (among &&& (fallQ q among i ^^^ (-1))) (loss + lossI (qKd q) (qLn q) (qN q) (fallQ q among i) day) (s.1.set i day, s.2) else s) (qM q - st) st s)) := by
        intro lk st hst
        refine for_up (fun i s => if hasI com (nI i) = true then dealQ q k (slot + 1) i (com &&& (bitI (nI i) ^^^ (-1))) (among &&& (fallQ q among i ^^^ (-1))) (loss + lossI (qKd q) (qLn q) (qN q) (fallQ q among i) day) (s.1.set i day, s.2) else s) (qM q) (fun i y => T DX0_dealFrom d 84 [some (.ref 82), some (.int (nI slot)), some (.int bf), some (.int com), some (.int w), some (.int loss), some (.int day), some (.int among), some (.int lk), some (.int (nI i))] [] (dF F y.2.2) (dG G y.1 y.2.1) _) ?_ (qM q - st) st s (by omega) ?_
        · intro i y hi hh
          obtain ⟨y1, y2, y3, y4, y5, y6, y7, y8, y9⟩ := h.k y
          obtain ⟨j, hj, ej⟩ := hO i hi
          refine T_il9 dX0_dealFrom_84 ?_
          refine T_al0 dX0_dealFrom_86 ?_
          refine T_g0 gX0_21 (cell_82 _ _) rfl dX0_dealFrom_87 ?_
          refine T_g4 gX0_33 (by first | assumption | decide) (cell_T _ _ (by first | assumption | decide)) rfl dX0_dealFrom_90 ?_
          rw [y2]
          refine T_nge_f 123 dX0_dealFrom_93 (by decide) (by omega) (by omega) (by omega) ?_
          refine T_il3 dX0_dealFrom_96 ?_
          refine T_il9 dX0_dealFrom_97 ?_
          refine T_pT2 lX0_71 (c_has _ _ _ _ _) (by omega) (Nat.le_of_ble_eq_true rfl) dX0_dealFrom_99 ?_
          refine T_beq 117 dX0_dealFrom_102 (by decide) (fun b3 => ?_) (fun b3 => ?_)
          · rw [if_neg (fun z => by rw [z] at b3; cases b3)] at hh
            refine T_ii9 dX0_dealFrom_117 (by first | exact nI_inc _ | exact nI_dec _ | rfl) rfl ?_
            refine T_goto 84 dX0_dealFrom_120 (by decide) ?_
            exact hh
          · rw [if_pos b3] at hh
            have ho' : okS (dG G y.1 y.2.1 (19 + 2)) := by rw [show dG G y.1 y.2.1 (19 + 2) = _ from y5]; exact ho
            have cT : Kc DX0_dealTo (d - 1) [.ref 82, .int (nI i), .int (nI slot), .int com, .int among, .int loss] (dF F y.2.2) (dG G y.1 y.2.1) (DlP F G (dealQ q k (slot + 1) i (com &&& (bitI (nI i) ^^^ (-1))) (among &&& (fallQ q among i ^^^ (-1))) (loss + lossI (qKd q) (qLn q) (qN q) (fallQ q among i) day) (y.1.set i day, y.2))) := by
              refine Kc.ofT [some (.ref 82), some (.int (nI i)), some (.int (nI slot)), some (.int com), some (.int among), some (.int loss), none, none] pn_X0 (Nat.le_of_ble_eq_true rfl) rfl ?_
              refine T_al0 dX0_dealTo_0 ?_
              refine T_g0 gX0_9 (cell_82 _ _) rfl dX0_dealTo_1 ?_
              refine T_il2 dX0_dealTo_4 ?_
              refine T_aldN rfl (show _ < 6 by omega) dX0_dealTo_5 ?_
              rw [y8, hday]
              refine T_is6 dX0_dealTo_6 rfl ?_
              refine T_al0 dX0_dealTo_8 ?_
              refine T_g0 gX0_25 (cell_82 _ _) rfl dX0_dealTo_9 ?_
              refine T_al0 dX0_dealTo_12 ?_
              refine T_g0 gX0_21 (cell_82 _ _) rfl dX0_dealTo_13 ?_
              refine T_g4 gX0_78 (by first | assumption | decide) (cell_T _ _ (by first | assumption | decide)) rfl dX0_dealTo_16 ?_
              refine T_il1 dX0_dealTo_19 ?_
              refine T_aldN (isT_I (by first | assumption | decide)).2.2.2.2.2.1 (by rw [(gL_T (by first | assumption | decide)).2.2.2.2.2.1]; omega) dX0_dealTo_20 ?_
              rw [show dG G y.1 y.2.1 (3 + 6) = _ from y7, ej]
              refine T_il4 dX0_dealTo_21 ?_
              refine T_pV2 lX0_81 rfl (by first | decide | (have := isL_lt _ (by assumption); omega)) (cell_L _ _ (by first | assumption | decide)) (c_fallOf _ (by omega) _ _ 19 (by decide) ho' _ j hj) (by omega) (Nat.le_of_ble_eq_true rfl) dX0_dealTo_23 ?_
              rw [show fallI (dG G y.1 y.2.1 4) (dG G y.1 y.2.1 (19 + 2)) (dG G y.1 y.2.1 (19 + 3)) among j = fallQ q among i by rw [fallQ, ej, sv_nI (by omega), y3, show dG G y.1 y.2.1 (19 + 2) = _ from y5, show dG G y.1 y.2.1 (19 + 3) = _ from y6]]
              generalize hset : fallQ q among i = set
              refine T_is7 dX0_dealTo_26 rfl ?_
              refine T_al0 dX0_dealTo_28 ?_
              refine T_g0 gX0_15 (cell_82 _ _) rfl dX0_dealTo_29 ?_
              refine T_il1 dX0_dealTo_32 ?_
              refine T_il6 dX0_dealTo_33 ?_
              refine T_astN (a := 84) rfl (show i < 6 by omega) dX0_dealTo_35 ?_
              rw [dG_r, dG_ur]
              obtain ⟨u1', u2', u3', u4', -, -, -, -, -⟩ := h.k (y.1.set i day, y.2)
              refine T_al0 dX0_dealTo_36 ?_
              refine T_il2 dX0_dealTo_37 ?_
              refine T_iconst (v := nI 1) dX0_dealTo_38 rfl ?_
              first | refine T_iaddN dX0_dealTo_39 ?_ | refine T_iadd dX0_dealTo_39 ?_
              refine T_il1 dX0_dealTo_40 ?_
              refine T_il3 dX0_dealTo_41 ?_
              refine T_il1 dX0_dealTo_42 ?_
              refine T_pT1 lX0_50 (c_bit _ _ _ _) (by omega) (Nat.le_of_ble_eq_true rfl) dX0_dealTo_43 ?_
              refine T_iconst (v := -1) dX0_dealTo_46 rfl ?_
              refine T_ixor dX0_dealTo_47 ?_
              refine T_iand dX0_dealTo_48 ?_
              refine T_il4 dX0_dealTo_49 ?_
              refine T_il7 dX0_dealTo_51 ?_
              refine T_iconst (v := -1) dX0_dealTo_53 rfl ?_
              refine T_ixor dX0_dealTo_54 ?_
              refine T_iand dX0_dealTo_55 ?_
              refine T_il5 dX0_dealTo_56 ?_
              refine T_al0 dX0_dealTo_58 ?_
              refine T_g0 gX0_21 (cell_82 _ _) rfl dX0_dealTo_59 ?_
              refine T_il7 dX0_dealTo_62 ?_
              refine T_il6 dX0_dealTo_64 ?_
              refine T_pV2 lX0_84 rfl (by omega) (cell_T _ _ (by first | assumption | decide)) (c_lossOf _ _ _ 3 (by decide) (by omega) (qN q) u1' hn _ _) (by omega) (Nat.le_of_ble_eq_true rfl) dX0_dealTo_66 ?_
              rw [show dG G (y.1.set i day) y.2.1 (3 + 1) = _ from u3', show dG G (y.1.set i day) y.2.1 (3 + 2) = _ from u4']
              refine T_iadd dX0_dealTo_69 ?_
              refine T_cV5 lX0_60 rfl (by decide) (cell_82 _ _) (ih (slot + 1) i _ _ (y.1.set i day, y.2) _ _ _ (by omega) (by omega) (Or.inr ⟨rfl, hi⟩)) (by omega) (Nat.le_of_ble_eq_true rfl) dX0_dealTo_70 (fun v F' G' hP => ?_)
              obtain ⟨rfl, rfl, rfl⟩ := hP
              refine T_vret rfl dX0_dealTo_73 ?_
              exact ⟨rfl, rfl, rfl⟩
            refine T_al0 dX0_dealFrom_105 ?_
            refine T_il9 dX0_dealFrom_106 ?_
            refine T_il1 dX0_dealFrom_108 ?_
            refine T_il3 dX0_dealFrom_109 ?_
            refine T_il7 dX0_dealFrom_110 ?_
            refine T_il5 dX0_dealFrom_112 ?_
            refine T_cV5 lX0_75 rfl (by decide) (cell_82 _ _) cT (by omega) (Nat.le_of_ble_eq_true rfl) dX0_dealFrom_114 (fun v F' G' hP => ?_)
            obtain ⟨rfl, rfl, rfl⟩ := hP
            refine T_ii9 dX0_dealFrom_117 (by first | exact nI_inc _ | exact nI_dec _ | rfl) rfl ?_
            refine T_goto 84 dX0_dealFrom_120 (by decide) ?_
            exact hh
        · generalize iter (fun i s => if hasI com (nI i) = true then dealQ q k (slot + 1) i (com &&& (bitI (nI i) ^^^ (-1))) (among &&& (fallQ q among i ^^^ (-1))) (loss + lossI (qKd q) (qLn q) (qN q) (fallQ q among i) day) (s.1.set i day, s.2) else s) (qM q - st) st s = y
          obtain ⟨y1, y2, y3, y4, y5, y6, y7, y8, y9⟩ := h.k y
          refine T_il9 dX0_dealFrom_84 ?_
          refine T_al0 dX0_dealFrom_86 ?_
          refine T_g0 gX0_21 (cell_82 _ _) rfl dX0_dealFrom_87 ?_
          refine T_g4 gX0_33 (by first | assumption | decide) (cell_T _ _ (by first | assumption | decide)) rfl dX0_dealFrom_90 ?_
          rw [y2]
          refine T_nge_t 123 dX0_dealFrom_93 (by decide) (by omega) (by omega) (by omega) ?_
          refine T_vret rfl dX0_dealFrom_123 ?_
          exact ⟨rfl, rfl, rfl⟩
      have no : ¬ (0 < slot ∧ (qDs q).getD (slot - 1) 0 = (qDs q).getD slot 0) → T DX0_dealFrom d 67 [some (.ref 82), some (.int (nI slot)), some (.int bf), some (.int com), some (.int w), some (.int loss), some (.int day), some (.int among), none, none] [] (dF F s.2.2) (dG G s.1 s.2.1) (DlP F G (iter (fun i s => if hasI com (nI i) = true then dealQ q k (slot + 1) i (com &&& (bitI (nI i) ^^^ (-1))) (among &&& (fallQ q among i ^^^ (-1))) (loss + lossI (qKd q) (qLn q) (qN q) (fallQ q among i) day) (s.1.set i day, s.2) else s) (qM q - stQ q slot b) (stQ q slot b) s)) := by
        intro hc
        rw [stQ, if_neg hc]
        refine T_iconst (v := nI 0) dX0_dealFrom_67 rfl ?_
        refine T_is8 dX0_dealFrom_68 rfl ?_
        refine T_il8 dX0_dealFrom_70 ?_
        refine T_if_eq_t 81 dX0_dealFrom_72 (by decide) rfl ?_
        refine T_iconst (v := nI 0) dX0_dealFrom_81 rfl ?_
        refine T_is9 dX0_dealFrom_82 rfl ?_
        exact lp _ 0 (by omega)
      refine T_il1 dX0_dealFrom_46 ?_
      rcases Nat.eq_zero_or_pos slot with hs0 | hs0
      · subst hs0
        refine T_if_le_t 67 dX0_dealFrom_47 (by decide) (by decide) ?_
        exact no (fun z => absurd z.1 (by decide))
      · refine T_if_le_f 67 dX0_dealFrom_47 (by decide) (nI_nle hs0 (by omega)) ?_
        obtain ⟨rfl, hb⟩ := hbf.resolve_left (by omega)
        refine T_al0 dX0_dealFrom_50 ?_
        refine T_g0 gX0_9 (cell_82 _ _) rfl dX0_dealFrom_51 ?_
        refine T_il1 dX0_dealFrom_54 ?_
        refine T_iconst (v := nI 1) dX0_dealFrom_55 rfl ?_
        refine T_isubN dX0_dealFrom_56 (by omega) ?_
        refine T_aldN rfl (show _ < 6 by omega) dX0_dealFrom_57 ?_
        rw [h8]
        refine T_il6 dX0_dealFrom_58 ?_
        refine T_icmp_ne 67 dX0_dealFrom_60 (by decide) (fun b2 => ?_) (fun b2 => ?_)
        · exact no (fun z => b2 (z.2.trans hday))
        · have hc : 0 < slot ∧ (qDs q).getD (slot - 1) 0 = (qDs q).getD slot 0 := ⟨hs0, b2.trans hday.symm⟩
          rw [stQ, if_pos hc]
          refine T_iconst (v := nI 1) dX0_dealFrom_63 rfl ?_
          refine T_goto 68 dX0_dealFrom_64 (by decide) ?_
          refine T_is8 dX0_dealFrom_68 rfl ?_
          refine T_il8 dX0_dealFrom_70 ?_
          refine T_if_eq_f 81 dX0_dealFrom_72 (by decide) (by decide) ?_
          refine T_il2 dX0_dealFrom_75 ?_
          refine T_iconst (v := nI 1) dX0_dealFrom_76 rfl ?_
          first | refine T_iaddN dX0_dealFrom_77 ?_ | refine T_iadd dX0_dealFrom_77 ?_
          refine T_goto 82 dX0_dealFrom_78 (by decide) ?_
          refine T_is9 dX0_dealFrom_82 rfl ?_
          exact lp _ (b + 1) (by omega)
    · rw [if_pos (Int32.not_le.mp b1)]
      refine T_vret rfl dX0_dealFrom_9 ?_
      exact ⟨rfl, rfl, rfl⟩
