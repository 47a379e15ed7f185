/-! Tailing: row, first, most -/
abbrev TlS : Type := List Int32 × List Int32 × Int32
def kF (F : FT) (v : Int32) : FT := u2 F 86 4 v
def kG (G : GT) (r f : List Int32) : GT := u1 (u1 G 87 r) 88 f
theorem kF_m (F : FT) (v : Int32) : kF F v 86 4 = v := u2_s _ _ _ _
theorem kF_o (F : FT) (v : Int32) {c : Nat} (i : Nat) (h : c ≠ 86) : kF F v c i = F c i := u2_c _ _ h
theorem kF_u (F : FT) (v w : Int32) : u2 (kF F v) 86 4 w = kF F w := u2_u2 _ _ _ _ _
theorem kG_r (G : GT) (r f : List Int32) : kG G r f 87 = r := by simp [kG, u1_at]
theorem kG_f (G : GT) (r f : List Int32) : kG G r f 88 = f := by simp [kG, u1_at]
theorem kG_o (G : GT) (r f : List Int32) {c : Nat} (h : c < 87 ∨ 88 < c) : kG G r f c = G c := by simp only [kG, u1_at]; rw [if_neg (by omega), if_neg (by omega)]
theorem kG_ur (G : GT) (r f l : List Int32) : u1 (kG G r f) 87 l = kG G l f := by
  funext c; simp only [kG, u1_at]; by_cases h : c = 87 <;> simp [h]
theorem kG_uf (G : GT) (r f l : List Int32) : u1 (kG G r f) 88 l = kG G r l := by
  funext c; simp only [kG, u1_at]; by_cases h : c = 88 <;> simp [h]
/-- what tails are given out of: threads, kinds, lengths, cut, colours, cutDays -/
abbrev TlE : Type := Nat × List Int32 × List Int32 × Int32 × List Int32 × List Int32
def fitB (q : TlE) (t o : Nat) : Bool := !(endB q.2.1 o) && decide (q.2.2.2.2.1.getD o 0 = q.2.2.2.2.1.getD t 0)
def tailI (q : TlE) (t : Nat) : Int32 := q.2.2.1.getD t 0 - q.2.2.2.2.2.getD t 0
def takeT (days : Int32) (s : TlS) : TlS := if s.2.2 < days then (s.1, s.1, days) else s
def givF (q : TlE) : Nat → Nat → Int32 → Int32 → TlS → TlS
  | 0, _, _, days, s => takeT days s
  | k + 1, t, free, days, s => if hasI q.2.2.2.1 (nI t) = true ∧ endB q.2.1 t = false then iter (fun o s => if hasI free (nI o) = true ∧ fitB q t o = true then givF q k (t + 1) (free &&& (bitI (nI o) ^^^ (-1))) (days + tailI q t) (s.1.set t (nI o), s.2) else s) q.1 0 (givF q k (t + 1) free days (s.1.set t (-1), s.2)) else givF q k (t + 1) free days (s.1.set t (-1), s.2)
def TlR (q : TlE) (F : FT) (G : GT) : Prop := F 3 0 = nI q.1 ∧ G 4 = q.2.1 ∧ G 5 = q.2.2.1 ∧ F 19 4 = q.2.2.2.1 ∧ G 20 = q.2.2.2.2.1 ∧ G 23 = q.2.2.2.2.2
theorem TlR.k {q : TlE} {F : FT} {G : GT} (h : TlR q F G) (s : TlS) : TlR q (kF F s.2.2) (kG G s.1 s.2.1) := by
  obtain ⟨h1, h2, h3, h4, h5, h6⟩ := h
  exact ⟨by rw [kF_o _ _ _ (by decide)]; exact h1, by rw [kG_o _ _ _ (by decide)]; exact h2, by rw [kG_o _ _ _ (by decide)]; exact h3, by rw [kF_o _ _ _ (by decide)]; exact h4, by rw [kG_o _ _ _ (by decide)]; exact h5, by rw [kG_o _ _ _ (by decide)]; exact h6⟩
def TlP (F : FT) (G : GT) (s : TlS) : Option Value → FT → GT → Prop := fun v F' G' => v = none ∧ F' = kF F s.2.2 ∧ G' = kG G s.1 s.2.1
theorem c_fits (d : Nat) (hd : 1 ≤ d) (F : FT) (G : GT) (q : TlE) (h : TlR q F G) (t o : Nat) (ht : t < 8) (ho : o < 8) : Kp DX3_fits d [.ref 86, .int (nI t), .int (nI o)] F G (some (.int (bI (fitB q t o)))) := by
  obtain ⟨h1, h2, h3, h4, h5, h6⟩ := h
  refine Kc.ofT [some (.ref 86), some (.int (nI t)), some (.int (nI o))] pn_X3 (Nat.le_of_ble_eq_true rfl) rfl ?_
  refine T_al0 dX3_fits_0 ?_
  refine T_g3 gX3_18 (cell_86 _ _) rfl dX3_fits_1 ?_
  refine T_il2 dX3_fits_4 ?_
  refine T_pV1 lX3_55 rfl (by omega) (cell_T _ _ (by first | assumption | decide)) (c_isEndless _ _ _ _ (by first | assumption | decide) _ (by omega)) (by omega) (Nat.le_of_ble_eq_true rfl) dX3_fits_5 ?_
  rw [show G (3 + 1) = _ from h2]
  refine T_bne 36 dX3_fits_8 (by decide) (fun e1 => ?_) (fun e1 => ?_)
  · refine T_iconst (v := nI 0) dX3_fits_36 rfl ?_
    refine T_bret0 rfl dX3_fits_37 ?_
    exact ⟨by rw [fitB, e1]; rfl, rfl, rfl⟩
  · refine T_al0 dX3_fits_11 ?_
    refine T_g3 gX3_22 (cell_86 _ _) rfl dX3_fits_12 ?_
    refine T_g1 gX3_76 (by first | assumption | decide) (cell_L _ _ (by first | assumption | decide)) rfl dX3_fits_15 ?_
    refine T_il2 dX3_fits_18 ?_
    refine T_aldN (isL_I (by first | assumption | decide)).1 (by rw [(gL_L (by first | assumption | decide)).1]; omega) dX3_fits_19 ?_
    refine T_al0 dX3_fits_20 ?_
    refine T_g3 gX3_22 (cell_86 _ _) rfl dX3_fits_21 ?_
    refine T_g1 gX3_76 (by first | assumption | decide) (cell_L _ _ (by first | assumption | decide)) rfl dX3_fits_24 ?_
    refine T_il1 dX3_fits_27 ?_
    refine T_aldN (isL_I (by first | assumption | decide)).1 (by rw [(gL_L (by first | assumption | decide)).1]; omega) dX3_fits_28 ?_
    rw [show G (19 + 1) = _ from h5]
    refine T_icmp_ne 36 dX3_fits_29 (by decide) (fun e2 => ?_) (fun e2 => ?_)
    · refine T_iconst (v := nI 0) dX3_fits_36 rfl ?_
      refine T_bret0 rfl dX3_fits_37 ?_
      exact ⟨by rw [fitB, e1, decide_eq_false e2]; rfl, rfl, rfl⟩
    · refine T_iconst (v := nI 1) dX3_fits_32 rfl ?_
      refine T_goto 37 dX3_fits_33 (by decide) ?_
      refine T_bret1 rfl dX3_fits_37 ?_
      exact ⟨by rw [fitB, e1, decide_eq_true e2]; rfl, rfl, rfl⟩
theorem c_ttake (d : Nat) (hd : 1 ≤ d) (F : FT) (G : GT) (s : TlS) (days : Int32) : Kc DX3_take d [.ref 86, .int days] (kF F s.2.2) (kG G s.1 s.2.1) (TlP F G (takeT days s)) := by
  refine Kc.ofT [some (.ref 86), some (.int days)] pn_X3 (Nat.le_of_ble_eq_true rfl) rfl ?_
  refine T_il1 dX3_take_0 ?_
  refine T_al0 dX3_take_1 ?_
  refine T_g3 gX3_26 (cell_86 _ _) rfl dX3_take_2 ?_
  rw [kF_m]
  refine T_icmp_le 28 dX3_take_5 (by decide) (fun h1 => ?_) (fun h1 => ?_)
  · refine T_vret rfl dX3_take_28 ?_
    rw [takeT, if_neg (Int32.not_lt.mpr h1)]
    exact ⟨rfl, rfl, rfl⟩
  · refine T_al0 dX3_take_8 ?_
    refine T_il1 dX3_take_9 ?_
    refine T_put3_4 pX3_26 dX3_take_10 ?_
    rw [kF_u]
    refine T_al0 dX3_take_13 ?_
    refine T_g3 gX3_9 (cell_86 _ _) rfl dX3_take_14 ?_
    refine T_iconst (v := nI 0) dX3_take_17 rfl ?_
    refine T_al0 dX3_take_18 ?_
    refine T_g3 gX3_15 (cell_86 _ _) rfl dX3_take_19 ?_
    refine T_iconst (v := nI 0) dX3_take_22 rfl ?_
    refine T_bipush (v := nI 8) dX3_take_23 (by decide +kernel) ?_
    refine T_acopy lX3_79 (a0 := 87) (a1 := 88) rfl rfl rfl rfl (by omega) dX3_take_25 ?_
    rw [kG_r, kG_uf]
    refine T_vret rfl dX3_take_28 ?_
    rw [takeT, if_pos (Int32.not_le.mp h1)]
    exact ⟨rfl, rfl, rfl⟩
theorem c_giveFrom (F : FT) (G : GT) (q : TlE) (h : TlR q F G) (hn : q.1 ≤ 8) : ∀ (k t d : Nat) (s : TlS) (free days : Int32), t + k = q.1 → 2 * k + 2 ≤ d → Kc DX3_giveFrom d [.ref 86, .int (nI t), .int free, .int days] (kF F s.2.2) (kG G s.1 s.2.1) (TlP F G (givF q k t free days s)) := by
  intro k
  induction k with
  | zero =>
    intro t d s free days ht hd
    obtain ⟨h1, h2, h3, h4, h5, h6⟩ := h.k s
    refine Kc.ofT [some (.ref 86), some (.int (nI t)), some (.int free), some (.int days), none] pn_X3 (Nat.le_of_ble_eq_true rfl) rfl ?_
    refine T_il1 dX3_giveFrom_0 ?_
    refine T_al0 dX3_giveFrom_1 ?_
    refine T_g3 gX3_18 (cell_86 _ _) rfl dX3_giveFrom_2 ?_
    refine T_g4 gX3_39 (by first | assumption | decide) (cell_T _ _ (by first | assumption | decide)) rfl dX3_giveFrom_5 ?_
    rw [h1]
    refine T_nge_t 17 dX3_giveFrom_8 (by decide) (by omega) (by omega) (by omega) ?_
    refine T_al0 dX3_giveFrom_17 ?_
    refine T_il3 dX3_giveFrom_18 ?_
    refine T_cV1 lX3_44 rfl (by decide) (cell_86 _ _) (c_ttake _ (by omega) F G s days) (by omega) (Nat.le_of_ble_eq_true rfl) dX3_giveFrom_19 (fun v F' G' hP => ?_)
    obtain ⟨rfl, rfl, rfl⟩ := hP
    refine T_vret rfl dX3_giveFrom_22 ?_
    exact ⟨rfl, rfl, rfl⟩
  | succ k ih =>
    intro t d s free days ht hd
    obtain ⟨h1, h2, h3, h4, h5, h6⟩ := h.k s
    refine Kc.ofT [some (.ref 86), some (.int (nI t)), some (.int free), some (.int days), none] pn_X3 (Nat.le_of_ble_eq_true rfl) rfl ?_
    refine T_il1 dX3_giveFrom_0 ?_
    refine T_al0 dX3_giveFrom_1 ?_
    refine T_g3 gX3_18 (cell_86 _ _) rfl dX3_giveFrom_2 ?_
    refine T_g4 gX3_39 (by first | assumption | decide) (cell_T _ _ (by first | assumption | decide)) rfl dX3_giveFrom_5 ?_
    rw [h1]
    refine T_nge_f 17 dX3_giveFrom_8 (by decide) (by omega) (by omega) (by omega) ?_
    refine T_il1 dX3_giveFrom_11 ?_
    refine T_bipush (v := nI 8) dX3_giveFrom_12 (by decide +kernel) ?_
    refine T_nlt_t 23 dX3_giveFrom_14 (by decide) (by omega) (by omega) (by omega) ?_
    refine T_al0 dX3_giveFrom_23 ?_
    refine T_g3 gX3_9 (cell_86 _ _) rfl dX3_giveFrom_24 ?_
    refine T_il1 dX3_giveFrom_27 ?_
    refine T_iconst (v := -1) dX3_giveFrom_28 rfl ?_
    refine T_astN (a := 87) rfl (show t < 8 by omega) dX3_giveFrom_29 ?_
    rw [kG_r, kG_ur]
    refine T_al0 dX3_giveFrom_30 ?_
    refine T_il1 dX3_giveFrom_31 ?_
    refine T_iconst (v := nI 1) dX3_giveFrom_32 rfl ?_
    first | refine T_iaddN dX3_giveFrom_33 ?_ | refine T_iadd dX3_giveFrom_33 ?_
    refine T_il2 dX3_giveFrom_34 ?_
    refine T_il3 dX3_giveFrom_35 ?_
    refine T_cV3 lX3_35 rfl (by decide) (cell_86 _ _) (ih (t + 1) _ (s.1.set t (-1), s.2) free days (by omega) (by omega)) (by omega) (Nat.le_of_ble_eq_true rfl) dX3_giveFrom_36 (fun v F' G' hP => ?_)
    obtain ⟨rfl, rfl, rfl⟩ := hP
    rw [givF]
    generalize hz : givF q k (t + 1) free days (s.1.set t (-1), s.2) = z
    obtain ⟨z1, z2, z3, z4, z5, z6⟩ := h.k z
    refine T_al0 dX3_giveFrom_39 ?_
    refine T_g3 gX3_22 (cell_86 _ _) rfl dX3_giveFrom_40 ?_
    refine T_g1 gX3_48 (by first | assumption | decide) (cell_L _ _ (by first | assumption | decide)) rfl dX3_giveFrom_43 ?_
    rw [z4]
    refine T_il1 dX3_giveFrom_46 ?_
    refine T_pT2 lX3_51 (c_has _ _ _ _ _) (by omega) (Nat.le_of_ble_eq_true rfl) dX3_giveFrom_47 ?_
    refine T_beq 64 dX3_giveFrom_50 (by decide) (fun b1 => ?_) (fun b1 => ?_)
    · rw [if_neg (fun y => by rw [y.1] at b1; cases b1)]
      refine T_vret rfl dX3_giveFrom_64 ?_
      exact ⟨rfl, rfl, rfl⟩
    · refine T_al0 dX3_giveFrom_53 ?_
      refine T_g3 gX3_18 (cell_86 _ _) rfl dX3_giveFrom_54 ?_
      refine T_il1 dX3_giveFrom_57 ?_
      refine T_pV1 lX3_55 rfl (by omega) (cell_T _ _ (by first | assumption | decide)) (c_isEndless _ _ _ _ (by first | assumption | decide) _ (by omega)) (by omega) (Nat.le_of_ble_eq_true rfl) dX3_giveFrom_58 ?_
      rw [show kG G z.1 z.2.1 (3 + 1) = _ from z2]
      refine T_beq 65 dX3_giveFrom_61 (by decide) (fun b2 => ?_) (fun b2 => ?_)
      · rw [if_pos ⟨b1, b2⟩]
        refine T_iconst (v := nI 0) dX3_giveFrom_65 rfl ?_
        refine T_is4 dX3_giveFrom_66 rfl ?_
        refine for_up (fun o s => if hasI free (nI o) = true ∧ fitB q t o = true then givF q k (t + 1) (free &&& (bitI (nI o) ^^^ (-1))) (days + tailI q t) (s.1.set t (nI o), s.2) else s) q.1 (fun o y => T DX3_giveFrom d 68 [some (.ref 86), some (.int (nI t)), some (.int free), some (.int days), some (.int (nI o))] [] (kF F y.2.2) (kG G y.1 y.2.1) _) ?_ q.1 0 z (by omega) ?_
        · intro o y ho hh
          obtain ⟨y1, y2, y3, y4, y5, y6⟩ := h.k y
          refine T_il4 dX3_giveFrom_68 ?_
          refine T_al0 dX3_giveFrom_70 ?_
          refine T_g3 gX3_18 (cell_86 _ _) rfl dX3_giveFrom_71 ?_
          refine T_g4 gX3_39 (by first | assumption | decide) (cell_T _ _ (by first | assumption | decide)) rfl dX3_giveFrom_74 ?_
          rw [y1]
          refine T_nge_f 114 dX3_giveFrom_77 (by decide) (by omega) (by omega) (by omega) ?_
          refine T_il2 dX3_giveFrom_80 ?_
          refine T_il4 dX3_giveFrom_81 ?_
          refine T_pT2 lX3_51 (c_has _ _ _ _ _) (by omega) (Nat.le_of_ble_eq_true rfl) dX3_giveFrom_83 ?_
          refine T_beq 108 dX3_giveFrom_86 (by decide) (fun b3 => ?_) (fun b3 => ?_)
          · rw [if_neg (fun z => by rw [z.1] at b3; cases b3)] at hh
            refine T_ii4 dX3_giveFrom_108 (by first | exact nI_inc _ | exact nI_dec _ | rfl) rfl ?_
            refine T_goto 68 dX3_giveFrom_111 (by decide) ?_
            exact hh
          · refine T_al0 dX3_giveFrom_89 ?_
            refine T_il1 dX3_giveFrom_90 ?_
            refine T_il4 dX3_giveFrom_91 ?_
            refine T_pV2 lX3_59 rfl (by decide) (cell_86 _ _) (c_fits _ (by omega) _ _ q (h.k y) t o (by omega) (by omega)) (by omega) (Nat.le_of_ble_eq_true rfl) dX3_giveFrom_93 ?_
            refine T_beq 108 dX3_giveFrom_96 (by decide) (fun b4 => ?_) (fun b4 => ?_)
            · rw [if_neg (fun z => by rw [z.2] at b4; cases b4)] at hh
              refine T_ii4 dX3_giveFrom_108 (by first | exact nI_inc _ | exact nI_dec _ | rfl) rfl ?_
              refine T_goto 68 dX3_giveFrom_111 (by decide) ?_
              exact hh
            · rw [if_pos ⟨b3, b4⟩] at hh
              have cT : Kc DX3_giveTo (d - 1) [.ref 86, .int (nI o), .int (nI t), .int free, .int days] (kF F y.2.2) (kG G y.1 y.2.1) (TlP F G (givF q k (t + 1) (free &&& (bitI (nI o) ^^^ (-1))) (days + tailI q t) (y.1.set t (nI o), y.2))) := by
                refine Kc.ofT [some (.ref 86), some (.int (nI o)), some (.int (nI t)), some (.int free), some (.int days), none] pn_X3 (Nat.le_of_ble_eq_true rfl) rfl ?_
                refine T_al0 dX3_giveTo_0 ?_
                refine T_g3 gX3_18 (cell_86 _ _) rfl dX3_giveTo_1 ?_
                refine T_g4 gX3_66 (by first | assumption | decide) (cell_T _ _ (by first | assumption | decide)) rfl dX3_giveTo_4 ?_
                refine T_il2 dX3_giveTo_7 ?_
                refine T_aldN (isT_I (by first | assumption | decide)).2.1 (by rw [(gL_T (by first | assumption | decide)).2.1]; omega) dX3_giveTo_8 ?_
                refine T_al0 dX3_giveTo_9 ?_
                refine T_g3 gX3_22 (cell_86 _ _) rfl dX3_giveTo_10 ?_
                refine T_g1 gX3_69 (by first | assumption | decide) (cell_L _ _ (by first | assumption | decide)) rfl dX3_giveTo_13 ?_
                refine T_il2 dX3_giveTo_16 ?_
                refine T_aldN (isL_I (by first | assumption | decide)).2.2.2 (by rw [(gL_L (by first | assumption | decide)).2.2.2]; omega) dX3_giveTo_17 ?_
                rw [show kG G y.1 y.2.1 (3 + 2) = _ from y3, show kG G y.1 y.2.1 (19 + 4) = _ from y6]
                refine T_isub dX3_giveTo_18 ?_
                refine T_is5 dX3_giveTo_19 rfl ?_
                refine T_al0 dX3_giveTo_21 ?_
                refine T_g3 gX3_9 (cell_86 _ _) rfl dX3_giveTo_22 ?_
                refine T_il2 dX3_giveTo_25 ?_
                refine T_il1 dX3_giveTo_26 ?_
                refine T_astN (a := 87) rfl (show t < 8 by omega) dX3_giveTo_27 ?_
                rw [kG_r, kG_ur]
                refine T_al0 dX3_giveTo_28 ?_
                refine T_il2 dX3_giveTo_29 ?_
                refine T_iconst (v := nI 1) dX3_giveTo_30 rfl ?_
                first | refine T_iaddN dX3_giveTo_31 ?_ | refine T_iadd dX3_giveTo_31 ?_
                refine T_il3 dX3_giveTo_32 ?_
                refine T_il1 dX3_giveTo_33 ?_
                refine T_pT1 lX3_72 (c_bit _ _ _ _) (by omega) (Nat.le_of_ble_eq_true rfl) dX3_giveTo_34 ?_
                refine T_iconst (v := -1) dX3_giveTo_37 rfl ?_
                refine T_ixor dX3_giveTo_38 ?_
                refine T_iand dX3_giveTo_39 ?_
                refine T_il4 dX3_giveTo_40 ?_
                refine T_il5 dX3_giveTo_42 ?_
                refine T_iadd dX3_giveTo_44 ?_
                refine T_cV3 lX3_35 rfl (by decide) (cell_86 _ _) (ih (t + 1) _ (y.1.set t (nI o), y.2) _ _ (by omega) (by omega)) (by omega) (Nat.le_of_ble_eq_true rfl) dX3_giveTo_45 (fun v F' G' hP => ?_)
                obtain ⟨rfl, rfl, rfl⟩ := hP
                refine T_vret rfl dX3_giveTo_48 ?_
                exact ⟨rfl, rfl, rfl⟩
              refine T_al0 dX3_giveFrom_99 ?_
              refine T_il4 dX3_giveFrom_100 ?_
              refine T_il1 dX3_giveFrom_102 ?_
              refine T_il2 dX3_giveFrom_103 ?_
              refine T_il3 dX3_giveFrom_104 ?_
              refine T_cV4 lX3_62 rfl (by decide) (cell_86 _ _) cT (by omega) (Nat.le_of_ble_eq_true rfl) dX3_giveFrom_105 (fun v F' G' hP => ?_)
              obtain ⟨rfl, rfl, rfl⟩ := hP
              refine T_ii4 dX3_giveFrom_108 (by first | exact nI_inc _ | exact nI_dec _ | rfl) rfl ?_
              refine T_goto 68 dX3_giveFrom_111 (by decide) ?_
              exact hh
        · generalize iter (fun o s => if hasI free (nI o) = true ∧ fitB q t o = true then givF q k (t + 1) (free &&& (bitI (nI o) ^^^ (-1))) (days + tailI q t) (s.1.set t (nI o), s.2) else s) q.1 0 z = y
          obtain ⟨y1, y2, y3, y4, y5, y6⟩ := h.k y
          refine T_il4 dX3_giveFrom_68 ?_
          refine T_al0 dX3_giveFrom_70 ?_
          refine T_g3 gX3_18 (cell_86 _ _) rfl dX3_giveFrom_71 ?_
          refine T_g4 gX3_39 (by first | assumption | decide) (cell_T _ _ (by first | assumption | decide)) rfl dX3_giveFrom_74 ?_
          rw [y1]
          refine T_nge_t 114 dX3_giveFrom_77 (by decide) (by omega) (by omega) (by omega) ?_
          refine T_vret rfl dX3_giveFrom_114 ?_
          exact ⟨rfl, rfl, rfl⟩
      · rw [if_neg (fun y => by rw [y.2] at b2; cases b2)]
        refine T_vret rfl dX3_giveFrom_64 ?_
        exact ⟨rfl, rfl, rfl⟩
def tlE (a : AS) : TlE := (aN a, aKd a, aLn a, lCut (aNow a), lCol (aNow a), lCd (aNow a))
/-- all that is given, from the first thread on (row and first as they lay there) -/
def tlA (a : AS) (r f : List Int32) : TlS := givF (tlE a) (aN a) 0 (lWhole (aNow a)) (nI 0) (r, f, -1)
theorem XR.tail {a : AS} {F : FT} {G : GT} (h : XR a F G) (s : TlS) : XR a (kF F s.2.2) (kG G s.1 s.2.1) := by
  obtain ⟨hT, ⟨t1, t2, t3, t4, t5, t6, t7, t8, t9⟩, hn, ⟨p, p1, p2, p3, p4, p5⟩, k1, k2, k3⟩ := h
  have go : ∀ k : Nat, k + 4 < 86 → gL (kF F s.2.2) (kG G s.1 s.2.1) k = gL F G k := fun k hk => gL_o (fun i => kF_o _ _ _ (by omega)) (fun c hc _ => kG_o _ _ _ (by omega))
  refine ⟨⟨by rw [kG_o _ _ _ (by decide)]; exact hT.1, by rw [kF_o _ _ _ (by decide)]; exact hT.2⟩, ⟨by rw [kF_o _ _ _ (by decide)]; exact t1, by rw [kF_o _ _ _ (by decide)]; exact t2, by rw [kG_o _ _ _ (by decide)]; exact t3, by rw [kG_o _ _ _ (by decide)]; exact t4, by rw [kG_o _ _ _ (by decide)]; exact t5, by rw [kG_o _ _ _ (by decide)]; exact t6, by rw [kG_o _ _ _ (by decide)]; exact t7, by rw [kG_o _ _ _ (by decide)]; exact t8, by rw [kG_o _ _ _ (by decide)]; exact t9⟩, by rw [go _ (by decide)]; exact hn, ⟨p, p1, by rw [kF_o _ _ _ (by decide)]; exact p2, by rw [kF_o _ _ _ (by decide)]; exact p3, p4, fun j x hj => by rw [go _ (by omega)]; exact p5 j x hj⟩, by rw [kF_o _ _ _ (by decide)]; exact k1, fun x hx => by rw [go _ (by decide)]; exact k2 x hx, fun x hx => by rw [go _ (by decide)]; exact k3 x hx⟩
theorem FrM.tail {F : FT} {G : GT} (s : TlS) : FrM F G (kF F s.2.2) (kG G s.1 s.2.1) := ⟨fun i => kF_o _ _ _ (by decide), fun c hc => kG_o _ _ _ (by omega)⟩
/-- tails: the answer, by rows that lay there -/
def r_tails (a : AS) (r f : List Int32) (t : Int32) : Int32 := if ¬ t = -1 ∧ knB (aN a) t = false then -2 else if t = -1 then (tlA a r f).2.2 else (tlA a r f).2.1.getD (sv t) 0
theorem x_tails (d : Nat) (hd : 20 ≤ d) (F : FT) (G : GT) (a : AS) (hX : XR a F G) (hn : aN a ≤ 8) (t : Int32) : Kc DX6_tails d [.ref 0, .int t] F G (XP (r_tails a (G 87) (G 88) t, a) F G) := by
  obtain ⟨e0, e1, e4, e5, e9, e10, f1, f2, f3, f4, g0, g1, g2, g3⟩ := hX.eqs
  have hR : TlR (tlE a) F G := ⟨e0, e4, e5, f4, g0, g3⟩
  have eK : ∀ v, kF F v = u2 F 86 4 v := fun v => rfl
  have eG : G = kG G (G 87) (G 88) := by
    funext c; simp only [kG, u1_at]; by_cases h8 : c = 88
    · simp [h8]
    · by_cases h7 : c = 87 <;> simp [h7, h8]
  have key : (¬ t = -1 → ∃ k, k < aN a ∧ t = nI k) → ¬ (¬ t = -1 ∧ knB (aN a) t = false) → T DX6_tails d 16 [some (.ref 0), some (.int t)] [] F G (XP (r_tails a (G 87) (G 88) t, a) F G) := by
    intro hk hc
    have cG : Kc DX3_give (d - 1) [.ref 86] F G (TlP F G (tlA a (G 87) (G 88))) := by
      refine Kc.ofT [some (.ref 86)] pn_X3 (Nat.le_of_ble_eq_true rfl) rfl ?_
      refine T_al0 dX3_give_0 ?_
      refine T_iconst (v := -1) dX3_give_1 rfl ?_
      refine T_put3_4 pX3_26 dX3_give_2 ?_
      refine T_al0 dX3_give_5 ?_
      refine T_iconst (v := nI 0) dX3_give_6 rfl ?_
      refine T_al0 dX3_give_7 ?_
      refine T_g3 gX3_22 (cell_86 _ _) rfl dX3_give_8 ?_
      refine T_g1 gX3_30 (by decide) (cell_L _ _ (by decide)) rfl dX3_give_11 ?_
      rw [u2_c _ _ (by decide), f3]
      refine T_iconst (v := nI 0) dX3_give_14 rfl ?_
      refine T_G eG ?_
      refine T_cV3 lX3_35 rfl (by decide) (cell_86 _ _) (c_giveFrom F G (tlE a) hR hn (aN a) 0 _ (G 87, G 88, -1) (lWhole (aNow a)) (nI 0) (show 0 + aN a = aN a by omega) (by omega)) (by omega) (Nat.le_of_ble_eq_true rfl) dX3_give_15 (fun v F' G' hP => ?_)
      obtain ⟨rfl, rfl, rfl⟩ := hP
      refine T_vret rfl dX3_give_18 ?_
      exact ⟨rfl, rfl, rfl⟩
    refine T_al0 dX6_tails_16 ?_
    refine T_g6 gX6_65 (cell_0 _ _) rfl dX6_tails_17 ?_
    refine T_cV0 lX6_208 rfl (by decide) (cell_86 _ _) cG (by omega) (Nat.le_of_ble_eq_true rfl) dX6_tails_20 (fun v F' G' hP => ?_)
    obtain ⟨rfl, rfl, rfl⟩ := hP
    rw [r_tails, if_neg hc]
    refine T_il1 dX6_tails_23 ?_
    refine T_iconst (v := -1) dX6_tails_24 rfl ?_
    refine T_icmp_ne 38 dX6_tails_25 (by decide) (fun h1 => ?_) (fun h1 => ?_)
    · rw [if_neg h1]
      obtain ⟨k, hk2, rfl⟩ := hk h1
      refine T_al0 dX6_tails_38 ?_
      refine T_g6 gX6_65 (cell_0 _ _) rfl dX6_tails_39 ?_
      refine T_g3 gX6_214 (cell_86 _ _) rfl dX6_tails_42 ?_
      refine T_il1 dX6_tails_45 ?_
      refine T_aldN rfl (show _ < 8 by omega) dX6_tails_46 ?_
      rw [kG_f]
      refine T_iret rfl dX6_tails_47 ?_
      rw [sv_nI (by omega)]
      exact ⟨rfl, hX.tail _, FrM.tail _⟩
    · rw [if_pos h1]
      refine T_al0 dX6_tails_28 ?_
      refine T_g6 gX6_65 (cell_0 _ _) rfl dX6_tails_29 ?_
      refine T_g3 gX6_211 (cell_86 _ _) rfl dX6_tails_32 ?_
      rw [kF_m]
      refine T_goto 47 dX6_tails_35 (by decide) ?_
      refine T_iret rfl dX6_tails_47 ?_
      exact ⟨rfl, hX.tail _, FrM.tail _⟩
  refine Kc.ofT [some (.ref 0), some (.int t)] pn_X6 (Nat.le_of_ble_eq_true rfl) rfl ?_
  refine T_il1 dX6_tails_0 ?_
  refine T_iconst (v := -1) dX6_tails_1 rfl ?_
  refine T_icmp_eq 16 dX6_tails_2 (by decide) (fun h1 => ?_) (fun h1 => ?_)
  · exact key (fun z => absurd h1 z) (fun z => z.1 h1)
  · refine T_al0 dX6_tails_5 ?_
    refine T_il1 dX6_tails_6 ?_
    refine T_pV1 lX6_92 rfl (by decide) (cell_0 _ _) (c_known _ _ _ _ (by assumption) _) (by omega) (Nat.le_of_ble_eq_true rfl) dX6_tails_7 ?_
    refine T_bne 16 dX6_tails_10 (by decide) (fun h2 => ?_) (fun h2 => ?_)
    · exact key (fun _ => knB_ok hn h2) (fun z => by rw [h2] at z; cases z.2)
    · refine T_bipush (v := -2) dX6_tails_13 (by decide +kernel) ?_
      refine T_iret rfl dX6_tails_15 ?_
      rw [r_tails, if_pos ⟨h1, h2⟩]
      exact XP.rf hX
