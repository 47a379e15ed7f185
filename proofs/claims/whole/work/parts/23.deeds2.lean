def s_lift (a : AS) (t : Int32) : Int32 × AS := if knB (aN a) t = true then (if hasI (lWhole (aNow a)) t = true ∧ ¬ nI (iter (lieS (lOv (aNow a)) t) 8 0 0) = 0 then (nI (iter (lieS (lOv (aNow a)) t) 8 0 0), wDo a (wOv (aNow a) (iter (offS t) 8 0 (lOv (aNow a))))) else (-4, a)) else (-2, a)
theorem x_lift (d : Nat) (hd : 4 ≤ d) (F : FT) (G : GT) (a : AS) (hX : XR a F G) (hn : aN a ≤ 8) (t : Int32) : Kc DX6_lift d [.ref 0, .int t] F G (XP (s_lift a t) F G) := by
  obtain ⟨e0, e1, e4, e5, e9, e10, f1, f2, f3, f4, g0, g1, g2, g3⟩ := hX.eqs
  refine Kc.ofT [some (.ref 0), some (.int t), none] pn_X6 (Nat.le_of_ble_eq_true rfl) rfl ?_
  refine T_al0 dX6_lift_0 ?_
  refine T_il1 dX6_lift_1 ?_
  refine T_pV1 lX6_92 rfl (by decide) (cell_0 _ _) (c_known _ _ _ _ (by assumption) _) (by omega) (Nat.le_of_ble_eq_true rfl) dX6_lift_2 ?_
  refine T_bne 11 dX6_lift_5 (by decide) (fun h1 => ?_) (fun h1 => ?_)
  · have no : ¬ (hasI (lWhole (aNow a)) t = true ∧ ¬ nI (iter (lieS (lOv (aNow a)) t) 8 0 0) = 0) → T DX6_lift d 33 [some (.ref 0), some (.int t), none] [] F G (XP (s_lift a t) F G) := by
      intro hc
      refine T_bipush (v := -4) dX6_lift_33 (by decide +kernel) ?_
      refine T_iret rfl dX6_lift_35 ?_
      rw [s_lift, if_pos h1, if_neg hc]; exact XP.rf hX
    refine T_al0 dX6_lift_11 ?_
    refine T_g6 gX6_31 (cell_0 _ _) rfl dX6_lift_12 ?_
    refine T_il1 dX6_lift_15 ?_
    refine T_pV1 lX6_123 rfl (by first | decide | (have := isL_lt _ (by assumption); omega)) (cell_L _ _ (by first | assumption | decide)) (c_isWhole _ (by omega) _ _ _ (by first | assumption | decide) _) (by omega) (Nat.le_of_ble_eq_true rfl) dX6_lift_16 ?_
    refine T_beq 33 dX6_lift_19 (by decide) (fun h2 => ?_) (fun h2 => ?_)
    · rw [f3] at h2
      exact no (fun z => by rw [z.1] at h2; cases h2)
    · rw [f3] at h2
      refine T_al0 dX6_lift_22 ?_
      refine T_g6 gX6_31 (cell_0 _ _) rfl dX6_lift_23 ?_
      refine T_il1 dX6_lift_26 ?_
      refine T_pV1 lX6_173 rfl (by first | decide | (have := isL_lt _ (by assumption); omega)) (cell_L _ _ (by first | assumption | decide)) (c_liesOver _ (by omega) _ _ _ (by first | assumption | decide) _) (by omega) (Nat.le_of_ble_eq_true rfl) dX6_lift_27 ?_
      rw [show G (19 + 2) = _ from g1]
      refine T_if_ne 36 dX6_lift_30 (by decide) (fun h3 => ?_) (fun h3 => ?_)
      · refine T_al0 dX6_lift_36 ?_
        refine T_g6 gX6_41 (cell_0 _ _) rfl dX6_lift_37 ?_
        refine T_al0 dX6_lift_40 ?_
        refine T_g6 gX6_31 (cell_0 _ _) rfl dX6_lift_41 ?_
        refine T_cV1 lX6_148 rfl (by decide) (cell_29 _ _) (c_remember _ (by omega) F G a hX) (by omega) (Nat.le_of_ble_eq_true rfl) dX6_lift_44 (fun v F' G' hP => ?_)
        obtain ⟨rfl, hX1, hM1, hF3, hG24⟩ := hP
        have k1 : G' 21 = lOv (aNow a) := (hG24 21 (by decide)).trans g1
        refine T_al0 dX6_lift_47 ?_
        refine T_g6 gX6_31 (cell_0 _ _) rfl dX6_lift_48 ?_
        refine T_il1 dX6_lift_51 ?_
        refine T_pV1 lX6_173 rfl (by first | decide | (have := isL_lt _ (by assumption); omega)) (cell_L _ _ (by first | assumption | decide)) (c_liesOver _ (by omega) _ _ _ (by first | assumption | decide) _) (by omega) (Nat.le_of_ble_eq_true rfl) dX6_lift_52 ?_
        rw [show G' (19 + 2) = _ from k1]
        refine T_is2 dX6_lift_55 rfl ?_
        refine T_al0 dX6_lift_56 ?_
        refine T_g6 gX6_31 (cell_0 _ _) rfl dX6_lift_57 ?_
        refine T_il1 dX6_lift_60 ?_
        refine T_cV1 lX6_176 rfl (by first | decide | (have := isL_lt _ (by assumption); omega)) (cell_L _ _ (by first | assumption | decide)) (c_takeOff _ (by omega) F' G' 19 (by decide) t) (by omega) (Nat.le_of_ble_eq_true rfl) dX6_lift_61 (fun v F' G' hP => ?_)
        obtain ⟨rfl, rfl, rfl⟩ := hP
        refine T_il2 dX6_lift_64 ?_
        refine T_iret rfl dX6_lift_65 ?_
        rw [s_lift, if_pos h1, if_pos ⟨h2, h3⟩, show G' (19 + 2) = _ from k1]
        exact ⟨rfl, hX1.ov _, hM1.u1 (by decide)⟩
      · exact no (fun z => z.2 h3)
  · refine T_bipush (v := -2) dX6_lift_8 (by decide +kernel) ?_
    refine T_iret rfl dX6_lift_10 ?_
    rw [s_lift, if_neg (by rw [h1]; decide)]; exact XP.rf hX
def s_dye (a : AS) (t c : Int32) : Int32 × AS := if knB (aN a) t = true then (if c < 0 ∨ nI 3 < c then (-3, a) else if hasI (lWhole (aNow a)) t = true then ((lCol (aNow a)).getD (sv t) 0, wDo a (wCol (aNow a) ((lCol (aNow a)).set (sv t) c))) else (-4, a)) else (-2, a)
theorem x_dye (d : Nat) (hd : 4 ≤ d) (F : FT) (G : GT) (a : AS) (hX : XR a F G) (hn : aN a ≤ 8) (t c : Int32) : Kc DX6_dye d [.ref 0, .int t, .int c] F G (XP (s_dye a t c) F G) := by
  obtain ⟨e0, e1, e4, e5, e9, e10, f1, f2, f3, f4, g0, g1, g2, g3⟩ := hX.eqs
  refine Kc.ofT [some (.ref 0), some (.int t), some (.int c), none] pn_X6 (Nat.le_of_ble_eq_true rfl) rfl ?_
  refine T_al0 dX6_dye_0 ?_
  refine T_il1 dX6_dye_1 ?_
  refine T_pV1 lX6_92 rfl (by decide) (cell_0 _ _) (c_known _ _ _ _ (by assumption) _) (by omega) (Nat.le_of_ble_eq_true rfl) dX6_dye_2 ?_
  refine T_bne 11 dX6_dye_5 (by decide) (fun h1 => ?_) (fun h1 => ?_)
  · obtain ⟨k, hk, rfl⟩ := knB_ok hn h1
    have hs : sv (nI k) = k := sv_nI (by omega)
    refine T_il2 dX6_dye_11 ?_
    refine T_if_lt 20 dX6_dye_12 (by decide) (fun h2 => ?_) (fun h2 => ?_)
    · refine T_bipush (v := -3) dX6_dye_20 (by decide +kernel) ?_
      refine T_iret rfl dX6_dye_22 ?_
      rw [s_dye, if_pos h1, if_pos (Or.inl h2)]; exact XP.rf hX
    · refine T_il2 dX6_dye_15 ?_
      refine T_iconst (v := nI 3) dX6_dye_16 rfl ?_
      refine T_icmp_le 23 dX6_dye_17 (by decide) (fun h3 => ?_) (fun h3 => ?_)
      · have h23 : ¬ (c < 0 ∨ nI 3 < c) := fun z => z.elim h2 (Int32.not_lt.mpr h3)
        refine T_al0 dX6_dye_23 ?_
        refine T_g6 gX6_31 (cell_0 _ _) rfl dX6_dye_24 ?_
        refine T_il1 dX6_dye_27 ?_
        refine T_pV1 lX6_123 rfl (by first | decide | (have := isL_lt _ (by assumption); omega)) (cell_L _ _ (by first | assumption | decide)) (c_isWhole _ (by omega) _ _ _ (by first | assumption | decide) _) (by omega) (Nat.le_of_ble_eq_true rfl) dX6_dye_28 ?_
        refine T_bne 37 dX6_dye_31 (by decide) (fun h4 => ?_) (fun h4 => ?_)
        · rw [f3] at h4
          refine T_al0 dX6_dye_37 ?_
          refine T_g6 gX6_41 (cell_0 _ _) rfl dX6_dye_38 ?_
          refine T_al0 dX6_dye_41 ?_
          refine T_g6 gX6_31 (cell_0 _ _) rfl dX6_dye_42 ?_
          refine T_cV1 lX6_148 rfl (by decide) (cell_29 _ _) (c_remember _ (by omega) F G a hX) (by omega) (Nat.le_of_ble_eq_true rfl) dX6_dye_45 (fun v F' G' hP => ?_)
          obtain ⟨rfl, hX1, hM1, hF3, hG24⟩ := hP
          have k1 : G' 20 = lCol (aNow a) := (hG24 20 (by decide)).trans g0
          refine T_al0 dX6_dye_48 ?_
          refine T_g6 gX6_31 (cell_0 _ _) rfl dX6_dye_49 ?_
          refine T_g1 gX6_103 (by first | assumption | decide) (cell_L _ _ (by first | assumption | decide)) rfl dX6_dye_52 ?_
          refine T_il1 dX6_dye_55 ?_
          refine T_aldN (isL_I (by first | assumption | decide)).1 (by rw [(gL_L (by first | assumption | decide)).1]; omega) dX6_dye_56 ?_
          rw [show G' (19 + 1) = _ from k1]
          refine T_is3 dX6_dye_57 rfl ?_
          refine T_al0 dX6_dye_58 ?_
          refine T_g6 gX6_31 (cell_0 _ _) rfl dX6_dye_59 ?_
          refine T_g1 gX6_103 (by first | assumption | decide) (cell_L _ _ (by first | assumption | decide)) rfl dX6_dye_62 ?_
          refine T_il1 dX6_dye_65 ?_
          refine T_il2 dX6_dye_66 ?_
          refine T_astN (isL_I (by first | assumption | decide)).1 (by rw [(gL_L (by first | assumption | decide)).1]; omega) dX6_dye_67 ?_
          refine T_il3 dX6_dye_68 ?_
          refine T_iret rfl dX6_dye_69 ?_
          rw [s_dye, if_pos h1, if_neg h23, if_pos h4, hs, show G' (19 + 1) = _ from k1]
          exact ⟨rfl, hX1.col _, hM1.u1 (by decide)⟩
        · rw [f3] at h4
          refine T_bipush (v := -4) dX6_dye_34 (by decide +kernel) ?_
          refine T_iret rfl dX6_dye_36 ?_
          rw [s_dye, if_pos h1, if_neg h23, if_neg (by rw [h4]; decide)]; exact XP.rf hX
      · refine T_bipush (v := -3) dX6_dye_20 (by decide +kernel) ?_
        refine T_iret rfl dX6_dye_22 ?_
        rw [s_dye, if_pos h1, if_pos (Or.inr (Int32.not_le.mp h3))]; exact XP.rf hX
  · refine T_bipush (v := -2) dX6_dye_8 (by decide +kernel) ?_
    refine T_iret rfl dX6_dye_10 ?_
    rw [s_dye, if_neg (by rw [h1]; decide)]; exact XP.rf hX
def knSet (l : List Int32) (i j : Nat) : List Int32 := (l.set i (l.getD i 0 ^^^ bitI (nI j))).set j ((l.set i (l.getD i 0 ^^^ bitI (nI j))).getD j 0 ^^^ bitI (nI i))
def s_knot (a : AS) (x y w : Int32) : Int32 × AS := if prB a x y = true then (if w < 0 ∨ nI 1 < w then (-3, a) else if hasI (lWhole (aNow a)) x = true ∧ hasI (lWhole (aNow a)) y = true then (bI (hasI ((lKn (aNow a)).getD (sv x) 0) y), wDo a (wKn (aNow a) (if w = bI (hasI ((lKn (aNow a)).getD (sv x) 0) y) then lKn (aNow a) else knSet (lKn (aNow a)) (sv x) (sv y)))) else (-4, a)) else (-2, a)
theorem x_knot (d : Nat) (hd : 4 ≤ d) (F : FT) (G : GT) (a : AS) (hX : XR a F G) (hn : aN a ≤ 8) (x y w : Int32) : Kc DX6_knot d [.ref 0, .int x, .int y, .int w] F G (XP (s_knot a x y w) F G) := by
  obtain ⟨e0, e1, e4, e5, e9, e10, f1, f2, f3, f4, g0, g1, g2, g3⟩ := hX.eqs
  refine Kc.ofT [some (.ref 0), some (.int x), some (.int y), some (.int w), none] pn_X6 (Nat.le_of_ble_eq_true rfl) rfl ?_
  refine T_al0 dX6_knot_0 ?_
  refine T_il1 dX6_knot_1 ?_
  refine T_il2 dX6_knot_2 ?_
  refine T_pV2 lX6_160 rfl (by decide) (cell_0 _ _) (c_knownPair _ (by omega) _ _ _ (by assumption) _ _) (by omega) (Nat.le_of_ble_eq_true rfl) dX6_knot_3 ?_
  refine T_bne 12 dX6_knot_6 (by decide) (fun h1 => ?_) (fun h1 => ?_)
  · have h1 : prB a x y = true := h1
    obtain ⟨i, j, hi, hj, hij, rfl, rfl⟩ := prB_ok hn h1
    have hs : sv (nI j) = j := sv_nI (by omega)
    have hs' : sv (nI i) = i := sv_nI (by omega)
    refine T_il3 dX6_knot_12 ?_
    refine T_if_lt 21 dX6_knot_13 (by decide) (fun h2 => ?_) (fun h2 => ?_)
    · refine T_bipush (v := -3) dX6_knot_21 (by decide +kernel) ?_
      refine T_iret rfl dX6_knot_23 ?_
      rw [s_knot, if_pos h1, if_pos (Or.inl h2)]; exact XP.rf hX
    · refine T_il3 dX6_knot_16 ?_
      refine T_iconst (v := nI 1) dX6_knot_17 rfl ?_
      refine T_icmp_le 24 dX6_knot_18 (by decide) (fun h3 => ?_) (fun h3 => ?_)
      · have h23 : ¬ (w < 0 ∨ nI 1 < w) := fun z => z.elim h2 (Int32.not_lt.mpr h3)
        have no : ¬ (hasI (lWhole (aNow a)) (nI i) = true ∧ hasI (lWhole (aNow a)) (nI j) = true) → T DX6_knot d 46 [some (.ref 0), some (.int (nI i)), some (.int (nI j)), some (.int w), none] [] F G (XP (s_knot a (nI i) (nI j) w) F G) := by
          intro hc
          refine T_bipush (v := -4) dX6_knot_46 (by decide +kernel) ?_
          refine T_iret rfl dX6_knot_48 ?_
          rw [s_knot, if_pos h1, if_neg h23, if_neg hc]; exact XP.rf hX
        refine T_al0 dX6_knot_24 ?_
        refine T_g6 gX6_31 (cell_0 _ _) rfl dX6_knot_25 ?_
        refine T_il1 dX6_knot_28 ?_
        refine T_pV1 lX6_123 rfl (by first | decide | (have := isL_lt _ (by assumption); omega)) (cell_L _ _ (by first | assumption | decide)) (c_isWhole _ (by omega) _ _ _ (by first | assumption | decide) _) (by omega) (Nat.le_of_ble_eq_true rfl) dX6_knot_29 ?_
        refine T_beq 46 dX6_knot_32 (by decide) (fun h4 => ?_) (fun h4 => ?_)
        · rw [f3] at h4
          exact no (fun z => by rw [z.1] at h4; cases h4)
        · rw [f3] at h4
          refine T_al0 dX6_knot_35 ?_
          refine T_g6 gX6_31 (cell_0 _ _) rfl dX6_knot_36 ?_
          refine T_il2 dX6_knot_39 ?_
          refine T_pV1 lX6_123 rfl (by first | decide | (have := isL_lt _ (by assumption); omega)) (cell_L _ _ (by first | assumption | decide)) (c_isWhole _ (by omega) _ _ _ (by first | assumption | decide) _) (by omega) (Nat.le_of_ble_eq_true rfl) dX6_knot_40 ?_
          refine T_bne 49 dX6_knot_43 (by decide) (fun h5 => ?_) (fun h5 => ?_)
          · rw [f3] at h5
            refine T_al0 dX6_knot_49 ?_
            refine T_g6 gX6_41 (cell_0 _ _) rfl dX6_knot_50 ?_
            refine T_al0 dX6_knot_53 ?_
            refine T_g6 gX6_31 (cell_0 _ _) rfl dX6_knot_54 ?_
            refine T_cV1 lX6_148 rfl (by decide) (cell_29 _ _) (c_remember _ (by omega) F G a hX) (by omega) (Nat.le_of_ble_eq_true rfl) dX6_knot_57 (fun v F' G' hP => ?_)
            obtain ⟨rfl, hX1, hM1, hF3, hG24⟩ := hP
            have k1 : G' 22 = lKn (aNow a) := (hG24 22 (by decide)).trans g2
            have key : T DX6_knot d 83 [some (.ref 0), some (.int (nI i)), some (.int (nI j)), some (.int w), some (.int (bI (hasI ((lKn (aNow a)).getD i 0) (nI j))))] [] F' G' (XP (s_knot a (nI i) (nI j) w) F G) := by
              rw [s_knot, if_pos h1, if_neg h23, if_pos ⟨h4, h5⟩, hs, hs']
              refine T_il3 dX6_knot_83 ?_
              refine T_il4 dX6_knot_84 ?_
              refine T_icmp_eq 121 dX6_knot_86 (by decide) (fun h6 => ?_) (fun h6 => ?_)
              · refine T_il4 dX6_knot_121 ?_
                refine T_iret rfl dX6_knot_123 ?_
                rw [if_pos h6]
                refine ⟨rfl, ?_, hM1⟩
                have := hX1.kn (lKn (aNow a))
                rw [show u1 G' 22 (lKn (aNow a)) = G' by rw [← k1, u1_id]] at this
                exact this
              · rw [if_neg h6]
                refine T_al0 dX6_knot_89 ?_
                refine T_g6 gX6_31 (cell_0 _ _) rfl dX6_knot_90 ?_
                refine T_g1 gX6_113 (by first | assumption | decide) (cell_L _ _ (by first | assumption | decide)) rfl dX6_knot_93 ?_
                refine T_il1 dX6_knot_96 ?_
                refine T_dup2 dX6_knot_97 rfl rfl ?_
                refine T_aldN (isL_I (by first | assumption | decide)).2.2.1 (by rw [(gL_L (by first | assumption | decide)).2.2.1]; omega) dX6_knot_98 ?_
                refine T_il2 dX6_knot_99 ?_
                refine T_pS1 lX6_170 (c_bit _ _ _ _) (by omega) (Nat.le_of_ble_eq_true rfl) dX6_knot_100 ?_
                refine T_ixor dX6_knot_103 ?_
                rw [show G' (19 + 3) = _ from k1]
                refine T_astN (a := 22) rfl (show i < 8 by omega) dX6_knot_104 ?_
                rw [k1]
                refine T_al0 dX6_knot_105 ?_
                refine T_g6 gX6_31 (cell_0 _ _) rfl dX6_knot_106 ?_
                refine T_g1 gX6_113 (by first | assumption | decide) (cell_L _ _ (by first | assumption | decide)) rfl dX6_knot_109 ?_
                refine T_il2 dX6_knot_112 ?_
                refine T_dup2 dX6_knot_113 rfl rfl ?_
                refine T_aldN (isL_I (by first | assumption | decide)).2.2.1 (by rw [(gL_L (by first | assumption | decide)).2.2.1]; omega) dX6_knot_114 ?_
                refine T_il1 dX6_knot_115 ?_
                refine T_pS1 lX6_170 (c_bit _ _ _ _) (by omega) (Nat.le_of_ble_eq_true rfl) dX6_knot_116 ?_
                refine T_ixor dX6_knot_119 ?_
                rw [show u1 G' 22 ((lKn (aNow a)).set i ((lKn (aNow a)).getD i 0 ^^^ bitI (nI j))) (19 + 3) = (lKn (aNow a)).set i ((lKn (aNow a)).getD i 0 ^^^ bitI (nI j)) from u1_s _ _ _]
                refine T_astN (a := 22) rfl (show j < 8 by omega) dX6_knot_120 ?_
                rw [u1_s, u1_u1]
                refine T_il4 dX6_knot_121 ?_
                refine T_iret rfl dX6_knot_123 ?_
                exact ⟨rfl, hX1.kn _, hM1.u1 (by decide)⟩
            refine T_al0 dX6_knot_60 ?_
            refine T_g6 gX6_31 (cell_0 _ _) rfl dX6_knot_61 ?_
            refine T_g1 gX6_113 (by first | assumption | decide) (cell_L _ _ (by first | assumption | decide)) rfl dX6_knot_64 ?_
            refine T_il1 dX6_knot_67 ?_
            refine T_aldN (isL_I (by first | assumption | decide)).2.2.1 (by rw [(gL_L (by first | assumption | decide)).2.2.1]; omega) dX6_knot_68 ?_
            refine T_il2 dX6_knot_69 ?_
            rw [show G' (19 + 3) = _ from k1]
            refine T_pS2 lX6_163 (c_has _ _ _ _ _) (by omega) (Nat.le_of_ble_eq_true rfl) dX6_knot_70 ?_
            refine T_beq 80 dX6_knot_73 (by decide) (fun h6 => ?_) (fun h6 => ?_)
            · refine T_iconst (v := nI 0) dX6_knot_80 rfl ?_
              refine T_is4 dX6_knot_81 rfl ?_
              rw [h6] at key; exact key
            · refine T_iconst (v := nI 1) dX6_knot_76 rfl ?_
              refine T_goto 81 dX6_knot_77 (by decide) ?_
              refine T_is4 dX6_knot_81 rfl ?_
              rw [h6] at key; exact key
          · rw [f3] at h5
            exact no (fun z => by rw [z.2] at h5; cases h5)
      · refine T_bipush (v := -3) dX6_knot_21 (by decide +kernel) ?_
        refine T_iret rfl dX6_knot_23 ?_
        rw [s_knot, if_pos h1, if_pos (Or.inr (Int32.not_le.mp h3))]; exact XP.rf hX
  · refine T_bipush (v := -2) dX6_knot_9 (by decide +kernel) ?_
    refine T_iret rfl dX6_knot_11 ?_
    rw [s_knot, if_neg (by rw [prB, h1]; decide)]; exact XP.rf hX
def daysA (a : AS) (e : Nat) : LoS := daysS (aN a) (aM a) (aKd a) (aLn a) (aOt a) (aOd a) e (aNow a)
def s_go (a : AS) (n : Int32) : Int32 × AS := if n < nI 1 ∨ nI 99 < n then (-3, a) else if nI 999 < lDay (aNow a) + n then (-5, a) else (lLost (daysA a (sv n)) - lLost (aNow a), wDo a (daysA a (sv n)))
theorem x_go (d : Nat) (hd : 6 ≤ d) (F : FT) (G : GT) (a : AS) (hX : XR a F G) (hn : aN a ≤ 8) (hm : aM a ≤ 6) (ho : okS (lOv (aNow a))) (hO : ∀ o, o < aM a → ∃ j, j < 8 ∧ (aOt a).getD o 0 = nI j) (n : Int32) : Kc DX6_go d [.ref 0, .int n] F G (XP (s_go a n) F G) := by
  obtain ⟨e0, e1, e4, e5, e9, e10, f1, f2, f3, f4, g0, g1, g2, g3⟩ := hX.eqs
  refine Kc.ofT [some (.ref 0), some (.int n), none] pn_X6 (Nat.le_of_ble_eq_true rfl) rfl ?_
  refine T_il1 dX6_go_0 ?_
  refine T_iconst (v := nI 1) dX6_go_1 rfl ?_
  refine T_icmp_lt 11 dX6_go_2 (by decide) (fun h1 => ?_) (fun h1 => ?_)
  · refine T_bipush (v := -3) dX6_go_11 (by decide +kernel) ?_
    refine T_iret rfl dX6_go_13 ?_
    rw [s_go, if_pos (Or.inl h1)]; exact XP.rf hX
  · refine T_il1 dX6_go_5 ?_
    refine T_bipush (v := nI 99) dX6_go_6 (by decide +kernel) ?_
    refine T_icmp_le 14 dX6_go_8 (by decide) (fun h2 => ?_) (fun h2 => ?_)
    · have h12 : ¬ (n < nI 1 ∨ nI 99 < n) := fun z => z.elim h1 (Int32.not_lt.mpr h2)
      obtain ⟨e, he, rfl⟩ : ∃ e, e ≤ 99 ∧ n = nI e := nI_of2 (M := nI 99) (n := 99) rfl (fun z => h1 (Int32.lt_of_lt_of_le z (by decide))) h2
      have hs : sv (nI e) = e := sv_nI (by omega)
      refine T_al0 dX6_go_14 ?_
      refine T_g6 gX6_31 (cell_0 _ _) rfl dX6_go_15 ?_
      refine T_g1 gX6_126 (by first | assumption | decide) (cell_L _ _ (by first | assumption | decide)) rfl dX6_go_18 ?_
      refine T_il1 dX6_go_21 ?_
      rw [f1]
      refine T_iadd dX6_go_22 ?_
      refine T_sipush (v := nI 999) dX6_go_23 (by decide +kernel) ?_
      refine T_icmp_le 32 dX6_go_26 (by decide) (fun h3 => ?_) (fun h3 => ?_)
      · refine T_al0 dX6_go_32 ?_
        refine T_g6 gX6_41 (cell_0 _ _) rfl dX6_go_33 ?_
        refine T_al0 dX6_go_36 ?_
        refine T_g6 gX6_31 (cell_0 _ _) rfl dX6_go_37 ?_
        refine T_cV1 lX6_148 rfl (by decide) (cell_29 _ _) (c_remember _ (by omega) F G a hX) (by omega) (Nat.le_of_ble_eq_true rfl) dX6_go_40 (fun v F' G' hP => ?_)
        obtain ⟨rfl, hX1, hM1, hF3, hG24⟩ := hP
        obtain ⟨p1, p2⟩ := hX1.pp
        have k0 : F' 3 0 = nI (aN a) := by rw [hF3]; exact e0
        have k1 : F' 3 1 = nI (aM a) := by rw [hF3]; exact e1
        have k4 : G' 4 = aKd a := (hG24 4 (by decide)).trans e4
        have k5 : G' 5 = aLn a := (hG24 5 (by decide)).trans e5
        have k9 : G' 9 = aOt a := (hG24 9 (by decide)).trans e9
        have k10 : G' 10 = aOd a := (hG24 10 (by decide)).trans e10
        have kl : F' 19 2 = lLost (aNow a) := hX1.eqs.2.2.2.2.2.2.2.1
        refine T_al0 dX6_go_43 ?_
        refine T_g6 gX6_31 (cell_0 _ _) rfl dX6_go_44 ?_
        refine T_g1 gX6_179 (by first | assumption | decide) (cell_L _ _ (by first | assumption | decide)) rfl dX6_go_47 ?_
        rw [kl]
        refine T_is2 dX6_go_50 rfl ?_
        refine T_al0 dX6_go_51 ?_
        refine T_g6 gX6_31 (cell_0 _ _) rfl dX6_go_52 ?_
        refine T_il1 dX6_go_55 ?_
        refine T_F p1 (T_G p2 ?_)
        refine T_cV1 lX6_182 rfl (by omega) (cell_L _ _ (by decide)) (c_endDays _ (by omega) F' G' 19 (by decide) (aNow a) ho (aN a) (aM a) hn hm k0 k1 (by rw [k9]; exact hO) (nI e) e (by omega) (fun r hr => nI_leI (by omega) (by omega))) (by omega) (Nat.le_of_ble_eq_true rfl) dX6_go_56 (fun v F2 G2 hP => ?_)
        obtain ⟨rfl, rfl, rfl⟩ := hP
        rw [k4, k5, k9, k10]
        refine T_al0 dX6_go_59 ?_
        refine T_g6 gX6_31 (cell_0 _ _) rfl dX6_go_60 ?_
        refine T_g1 gX6_179 (by first | assumption | decide) (cell_L _ _ (by first | assumption | decide)) rfl dX6_go_63 ?_
        rw [pF_2]
        refine T_il2 dX6_go_66 ?_
        refine T_isub dX6_go_67 ?_
        refine T_iret rfl dX6_go_68 ?_
        rw [s_go, if_neg h12, if_neg (Int32.not_lt.mpr h3), hs]
        exact ⟨rfl, hX1.now _, hM1.p (by decide)⟩
      · refine T_bipush (v := -5) dX6_go_29 (by decide +kernel) ?_
        refine T_iret rfl dX6_go_31 ?_
        rw [s_go, if_neg h12, if_pos (Int32.not_le.mp h3)]; exact XP.rf hX
    · refine T_bipush (v := -3) dX6_go_11 (by decide +kernel) ?_
      refine T_iret rfl dX6_go_13 ?_
      rw [s_go, if_pos (Or.inr (Int32.not_le.mp h2))]; exact XP.rf hX
def s_undo (a : AS) : Int32 × AS := match aPast a with
  | [] => (-4, a)
  | x :: r => (nI r.length, a.1, a.2.1, x, r, aKept a)
theorem x_undo (d : Nat) (hd : 3 ≤ d) (F : FT) (G : GT) (a : AS) (hX : XR a F G) : Kc DX6_undo d [.ref 0] F G (XP (s_undo a) F G) := by
  obtain ⟨-, -, -, ⟨p, -, -, fp, hp8, -⟩, -⟩ := id hX
  refine Kc.ofT [some (.ref 0)] pn_X6 (Nat.le_of_ble_eq_true rfl) rfl ?_
  cases hp : aPast a with
  | nil =>
    rw [hp] at fp
    refine T_al0 dX6_undo_0 ?_
    refine T_g6 gX6_41 (cell_0 _ _) rfl dX6_undo_1 ?_
    refine T_g2 gX6_86 (cell_29 _ _) rfl dX6_undo_4 ?_
    rw [fp]
    refine T_if_ne_f 13 dX6_undo_7 (by decide) rfl ?_
    refine T_bipush (v := -4) dX6_undo_10 (by decide +kernel) ?_
    refine T_iret rfl dX6_undo_12 ?_
    rw [s_undo, hp]; exact XP.rf hX
  | cons x r =>
    rw [hp] at fp hp8
    have hl : r.length + 1 ≤ 8 := hp8
    refine T_al0 dX6_undo_0 ?_
    refine T_g6 gX6_41 (cell_0 _ _) rfl dX6_undo_1 ?_
    refine T_g2 gX6_86 (cell_29 _ _) rfl dX6_undo_4 ?_
    rw [fp]
    refine T_if_ne_t 13 dX6_undo_7 (by decide) (nI_ne0 (by simp) (show r.length + 1 < 2 ^ 31 by omega)) ?_
    refine T_al0 dX6_undo_13 ?_
    refine T_g6 gX6_41 (cell_0 _ _) rfl dX6_undo_14 ?_
    refine T_al0 dX6_undo_17 ?_
    refine T_g6 gX6_31 (cell_0 _ _) rfl dX6_undo_18 ?_
    refine T_cV1 lX6_185 rfl (by decide) (cell_29 _ _) (c_bringBack _ (by omega) F G a hX x r hp) (by omega) (Nat.le_of_ble_eq_true rfl) dX6_undo_21 (fun v F' G' hP => ?_)
    obtain ⟨rfl, hX1, hM1⟩ := hP
    obtain ⟨-, -, -, ⟨p', -, -, fp', -, -⟩, -⟩ := id hX1
    refine T_al0 dX6_undo_24 ?_
    refine T_g6 gX6_41 (cell_0 _ _) rfl dX6_undo_25 ?_
    refine T_g2 gX6_86 (cell_29 _ _) rfl dX6_undo_28 ?_
    rw [fp']
    refine T_iret rfl dX6_undo_31 ?_
    rw [s_undo, hp]
    exact ⟨rfl, hX1, hM1⟩
