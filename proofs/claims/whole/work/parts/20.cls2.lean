def out1 (w : Int32) : Prop := w < 0 ∨ nI 1 < w
def r_lifts (a : AS) (t w : Int32) : Int32 := if knB (aN a) t = true then (if w < 0 ∨ nI 1 < w then -3 else if hasI (lWhole (aNow a)) t = true then (if w = 0 then nI (pop8 (sv ((lOv (aNow a)).getD (sv t) 0 &&& lWhole (aNow a)))) else (lOv (aNow a)).getD (sv t) 0 &&& lWhole (aNow a)) else -4) else -2
theorem x_lifts (d : Nat) (hd : 3 ≤ d) (F : FT) (G : GT) (a : AS) (hX : XR a F G) (hn : aN a ≤ 8) (ho : okS (lOv (aNow a))) (t w : Int32) : Kp DX6_lifts d [.ref 0, .int t, .int w] F G (some (.int (r_lifts a t w))) := by
  obtain ⟨e0, e1, e4, e5, e9, e10, f1, f2, f3, f4, g0, g1, g2, g3⟩ := hX.eqs
  refine Kc.ofT [some (.ref 0), some (.int t), some (.int w), none] pn_X6 (Nat.le_of_ble_eq_true rfl) rfl ?_
  refine T_al0 dX6_lifts_0 ?_
  refine T_il1 dX6_lifts_1 ?_
  refine T_pV1 lX6_92 rfl (by decide) (cell_0 _ _) (c_known _ _ _ _ (by assumption) _) (by omega) (Nat.le_of_ble_eq_true rfl) dX6_lifts_2 ?_
  refine T_bne 11 dX6_lifts_5 (by decide) (fun h1 => ?_) (fun h1 => ?_)
  · obtain ⟨k, hk, rfl⟩ := knB_ok hn h1
    have hs : sv (nI k) = k := sv_nI (by omega)
    refine T_il2 dX6_lifts_11 ?_
    refine T_if_lt 20 dX6_lifts_12 (by decide) (fun h2 => ?_) (fun h2 => ?_)
    · refine T_bipush (v := -3) dX6_lifts_20 (by decide +kernel) ?_
      refine T_iret rfl dX6_lifts_22 ?_
      exact ⟨by rw [r_lifts, if_pos h1, if_pos (Or.inl h2)], rfl, rfl⟩
    · refine T_il2 dX6_lifts_15 ?_
      refine T_iconst (v := nI 1) dX6_lifts_16 rfl ?_
      refine T_icmp_le 23 dX6_lifts_17 (by decide) (fun h3 => ?_) (fun h3 => ?_)
      · have h23 : ¬ (w < 0 ∨ nI 1 < w) := fun z => z.elim h2 (Int32.not_lt.mpr h3)
        refine T_al0 dX6_lifts_23 ?_
        refine T_g6 gX6_31 (cell_0 _ _) rfl dX6_lifts_24 ?_
        refine T_il1 dX6_lifts_27 ?_
        refine T_pV1 lX6_123 rfl (by first | decide | (have := isL_lt _ (by assumption); omega)) (cell_L _ _ (by first | assumption | decide)) (c_isWhole _ (by omega) _ _ _ (by first | assumption | decide) _) (by omega) (Nat.le_of_ble_eq_true rfl) dX6_lifts_28 ?_
        refine T_bne 37 dX6_lifts_31 (by decide) (fun h4 => ?_) (fun h4 => ?_)
        · rw [f3] at h4
          obtain ⟨m, hm, e⟩ := S8_and (ho k) (lWhole (aNow a))
          refine T_al0 dX6_lifts_37 ?_
          refine T_g6 gX6_31 (cell_0 _ _) rfl dX6_lifts_38 ?_
          refine T_g1 gX6_110 (by first | assumption | decide) (cell_L _ _ (by first | assumption | decide)) rfl dX6_lifts_41 ?_
          refine T_il1 dX6_lifts_44 ?_
          refine T_aldN (isL_I (by first | assumption | decide)).2.1 (by rw [(gL_L (by first | assumption | decide)).2.1]; omega) dX6_lifts_45 ?_
          refine T_al0 dX6_lifts_46 ?_
          refine T_g6 gX6_31 (cell_0 _ _) rfl dX6_lifts_47 ?_
          refine T_g1 gX6_142 (by first | assumption | decide) (cell_L _ _ (by first | assumption | decide)) rfl dX6_lifts_50 ?_
          refine T_iand dX6_lifts_53 ?_
          rw [f3, show G (19 + 2) = _ from g1, e]
          refine T_is3 dX6_lifts_54 rfl ?_
          refine T_il2 dX6_lifts_55 ?_
          refine T_if_ne 66 dX6_lifts_56 (by decide) (fun h5 => ?_) (fun h5 => ?_)
          · refine T_il3 dX6_lifts_66 ?_
            refine T_iret rfl dX6_lifts_67 ?_
            exact ⟨by rw [r_lifts, if_pos h1, if_neg h23, if_pos h4, if_neg h5, hs, e], rfl, rfl⟩
          · refine T_il3 dX6_lifts_59 ?_
            refine T_pS1 lX6_155 (c_bitCount _ _ _ _ (by assumption)) (by omega) (Nat.le_of_ble_eq_true rfl) dX6_lifts_60 ?_
            refine T_goto 67 dX6_lifts_63 (by decide) ?_
            refine T_iret rfl dX6_lifts_67 ?_
            exact ⟨by rw [r_lifts, if_pos h1, if_neg h23, if_pos h4, if_pos h5, hs, e, sv_nI (by omega)], rfl, rfl⟩
        · rw [f3] at h4
          refine T_bipush (v := -4) dX6_lifts_34 (by decide +kernel) ?_
          refine T_iret rfl dX6_lifts_36 ?_
          exact ⟨by rw [r_lifts, if_pos h1, if_neg h23, if_neg (by rw [h4]; decide)], rfl, rfl⟩
      · refine T_bipush (v := -3) dX6_lifts_20 (by decide +kernel) ?_
        refine T_iret rfl dX6_lifts_22 ?_
        exact ⟨by rw [r_lifts, if_pos h1, if_pos (Or.inr (Int32.not_le.mp h3))], rfl, rfl⟩
  · refine T_bipush (v := -2) dX6_lifts_8 (by decide +kernel) ?_
    refine T_iret rfl dX6_lifts_10 ?_
    exact ⟨by rw [r_lifts, if_neg (by rw [h1]; decide)], rfl, rfl⟩
def whoS (a : AS) (s : Int32) : Nat → Int32 → Int32 := fun i x => if fallA a i = s then x ||| bitI (nI i) else x
def r_whose (a : AS) (s : Int32) : Int32 := if s &&& ((bitI (nI (aN a)) - nI 1) ^^^ (-1)) = 0 then iter (whoS a s) (aN a) 0 (nI 0) else -2
theorem x_whose (d : Nat) (hd : 3 ≤ d) (F : FT) (G : GT) (a : AS) (hX : XR a F G) (hn : aN a ≤ 8) (ho : okS (lOv (aNow a))) (s : Int32) : Kp DX6_whose d [.ref 0, .int s] F G (some (.int (r_whose a s))) := by
  obtain ⟨e0, e1, e4, e5, e9, e10, f1, f2, f3, f4, g0, g1, g2, g3⟩ := hX.eqs
  have ho' : okS (G (19 + 2)) := by rw [show G (19 + 2) = _ from g1]; exact ho
  refine Kc.ofT [some (.ref 0), some (.int s), none, none] pn_X6 (Nat.le_of_ble_eq_true rfl) rfl ?_
  refine T_il1 dX6_whose_0 ?_
  refine T_al0 dX6_whose_1 ?_
  refine T_g6 gX6_19 (cell_0 _ _) rfl dX6_whose_2 ?_
  refine T_pV0 lX6_225 rfl (by omega) (cell_T _ _ (by first | assumption | decide)) (c_all _ _ _ _ (by first | assumption | decide) (by omega)) (by omega) (Nat.le_of_ble_eq_true rfl) dX6_whose_5 ?_
  rw [e0]
  refine T_iconst (v := -1) dX6_whose_8 rfl ?_
  refine T_ixor dX6_whose_9 ?_
  refine T_iand dX6_whose_10 ?_
  refine T_if_eq 17 dX6_whose_11 (by decide) (fun h1 => ?_) (fun h1 => ?_)
  · refine T_iconst (v := nI 0) dX6_whose_17 rfl ?_
    refine T_is2 dX6_whose_18 rfl ?_
    refine T_iconst (v := nI 0) dX6_whose_19 rfl ?_
    refine T_is3 dX6_whose_20 rfl ?_
    refine for_up (whoS a s) (aN a) (fun k x => T DX6_whose d 21 [some (.ref 0), some (.int s), some (.int x), some (.int (nI k))] [] F G _) ?_ (aN a) 0 _ (by omega) ?_
    · intro k x hk h
      refine T_il3 dX6_whose_21 ?_
      refine T_al0 dX6_whose_22 ?_
      refine T_g6 gX6_19 (cell_0 _ _) rfl dX6_whose_23 ?_
      refine T_g4 gX6_215 (by first | assumption | decide) (cell_T _ _ (by first | assumption | decide)) rfl dX6_whose_26 ?_
      rw [e0]
      refine T_nge_f 64 dX6_whose_29 (by decide) (by omega) (by omega) (by omega) ?_
      refine T_al0 dX6_whose_32 ?_
      refine T_g6 gX6_31 (cell_0 _ _) rfl dX6_whose_33 ?_
      refine T_il3 dX6_whose_36 ?_
      refine T_al0 dX6_whose_37 ?_
      refine T_g6 gX6_31 (cell_0 _ _) rfl dX6_whose_38 ?_
      refine T_g1 gX6_142 (by first | assumption | decide) (cell_L _ _ (by first | assumption | decide)) rfl dX6_whose_41 ?_
      refine T_pV2 lX6_190 rfl (by first | decide | (have := isL_lt _ (by assumption); omega)) (cell_L _ _ (by first | assumption | decide)) (c_fallOf _ (by omega) _ _ _ (by first | assumption | decide) (by assumption) _ _ (by omega)) (by omega) (Nat.le_of_ble_eq_true rfl) dX6_whose_44 ?_
      refine T_il1 dX6_whose_47 ?_
      rw [show fallI (G 4) (G (19 + 2)) (G (19 + 3)) (F 19 3) k = fallA a k by rw [fallA, e4, f3, show G (19 + 2) = _ from g1, show G (19 + 3) = _ from g2]]
      refine T_icmp_ne 58 dX6_whose_48 (by decide) (fun hq => ?_) (fun hq => ?_)
      · rw [whoS, if_neg hq] at h
        refine T_ii3 dX6_whose_58 (by first | exact nI_inc _ | exact nI_dec _ | rfl) rfl ?_
        refine T_goto 21 dX6_whose_61 (by decide) ?_
        exact h
      · rw [whoS, if_pos hq] at h
        refine T_il2 dX6_whose_51 ?_
        refine T_il3 dX6_whose_52 ?_
        refine T_pS1 lX6_170 (c_bit _ _ _ _) (by omega) (Nat.le_of_ble_eq_true rfl) dX6_whose_53 ?_
        refine T_ior dX6_whose_56 ?_
        refine T_is2 dX6_whose_57 rfl ?_
        refine T_ii3 dX6_whose_58 (by first | exact nI_inc _ | exact nI_dec _ | rfl) rfl ?_
        refine T_goto 21 dX6_whose_61 (by decide) ?_
        exact h
    · refine T_il3 dX6_whose_21 ?_
      refine T_al0 dX6_whose_22 ?_
      refine T_g6 gX6_19 (cell_0 _ _) rfl dX6_whose_23 ?_
      refine T_g4 gX6_215 (by first | assumption | decide) (cell_T _ _ (by first | assumption | decide)) rfl dX6_whose_26 ?_
      rw [e0]
      refine T_nge_t 64 dX6_whose_29 (by decide) (by omega) (by omega) (by omega) ?_
      refine T_il2 dX6_whose_64 ?_
      refine T_iret rfl dX6_whose_65 ?_
      exact ⟨by rw [r_whose, if_pos h1], rfl, rfl⟩
  · refine T_bipush (v := -2) dX6_whose_14 (by decide +kernel) ?_
    refine T_iret rfl dX6_whose_16 ?_
    exact ⟨by rw [r_whose, if_neg h1], rfl, rfl⟩
def fouS (a : AS) : Nat → Int32 × Int32 → Int32 × Int32 := fun i p => if ¬ fallA a i = 0 ∧ (p.1 = -1 ∨ lossA a i < p.2) then (nI i, lossA a i) else p
def r_fourth (a : AS) (w : Int32) : Int32 := if w < 0 ∨ nI 1 < w then -3 else if w = 0 then (iter (fouS a) (aN a) 0 (-1, -1)).1 else (iter (fouS a) (aN a) 0 (-1, -1)).2
theorem x_fourth (d : Nat) (hd : 4 ≤ d) (F : FT) (G : GT) (a : AS) (hX : XR a F G) (hn : aN a ≤ 8) (ho : okS (lOv (aNow a))) (w : Int32) : Kp DX6_fourth d [.ref 0, .int w] F G (some (.int (r_fourth a w))) := by
  obtain ⟨e0, e1, e4, e5, e9, e10, f1, f2, f3, f4, g0, g1, g2, g3⟩ := hX.eqs
  have ho' : okS (G (19 + 2)) := by rw [show G (19 + 2) = _ from g1]; exact ho
  have eL : ∀ i, lossI (G 4) (G 5) (aN a) (fallI (G 4) (G 21) (G 22) (F 19 3) i) (F 19 1) = lossA a i := fun i => by rw [lossA, fallA, e4, e5, f1, f3, g1, g2]
  have eF : ∀ i, fallI (G 4) (G (19 + 2)) (G (19 + 3)) (F 19 3) i = fallA a i := fun i => by rw [fallA, e4, f3, show G (19 + 2) = _ from g1, show G (19 + 3) = _ from g2]
  refine Kc.ofT [some (.ref 0), some (.int w), none, none, none] pn_X6 (Nat.le_of_ble_eq_true rfl) rfl ?_
  refine T_il1 dX6_fourth_0 ?_
  refine T_if_lt 9 dX6_fourth_1 (by decide) (fun h1 => ?_) (fun h1 => ?_)
  · refine T_bipush (v := -3) dX6_fourth_9 (by decide +kernel) ?_
    refine T_iret rfl dX6_fourth_11 ?_
    exact ⟨by rw [r_fourth, if_pos (Or.inl h1)], rfl, rfl⟩
  · refine T_il1 dX6_fourth_4 ?_
    refine T_iconst (v := nI 1) dX6_fourth_5 rfl ?_
    refine T_icmp_le 12 dX6_fourth_6 (by decide) (fun h2 => ?_) (fun h2 => ?_)
    · have h12 : ¬ (w < 0 ∨ nI 1 < w) := fun z => z.elim h1 (Int32.not_lt.mpr h2)
      refine T_iconst (v := -1) dX6_fourth_12 rfl ?_
      refine T_is2 dX6_fourth_13 rfl ?_
      refine T_iconst (v := -1) dX6_fourth_14 rfl ?_
      refine T_is3 dX6_fourth_15 rfl ?_
      refine T_iconst (v := nI 0) dX6_fourth_16 rfl ?_
      refine T_is4 dX6_fourth_17 rfl ?_
      refine for_up (fouS a) (aN a) (fun k p => T DX6_fourth d 19 [some (.ref 0), some (.int w), some (.int p.1), some (.int p.2), some (.int (nI k))] [] F G _) ?_ (aN a) 0 (-1, -1) (by omega) ?_
      · intro k p hk h
        have tk : T DX6_fourth d 65 [some (.ref 0), some (.int w), some (.int p.1), some (.int p.2), some (.int (nI k))] [] F G (fun v F' G' => v = some (.int (r_fourth a w)) ∧ F' = F ∧ G' = G) ∨ ¬ (¬ fallA a k = 0 ∧ (p.1 = -1 ∨ lossA a k < p.2)) := by
          by_cases hc : ¬ fallA a k = 0 ∧ (p.1 = -1 ∨ lossA a k < p.2)
          · left
            rw [fouS, if_pos hc] at h
            refine T_il4 dX6_fourth_65 ?_
            refine T_is2 dX6_fourth_67 rfl ?_
            refine T_al0 dX6_fourth_68 ?_
            refine T_il4 dX6_fourth_69 ?_
            refine T_pV1 lX6_193 rfl (by decide) (cell_0 _ _) (c_lossAt _ (by omega) _ _ _ (by assumption) (by assumption) (by assumption) _ (by omega)) (by omega) (Nat.le_of_ble_eq_true rfl) dX6_fourth_71 ?_
            rw [eL]
            refine T_is3 dX6_fourth_74 rfl ?_
            refine T_ii4 dX6_fourth_75 (by first | exact nI_inc _ | exact nI_dec _ | rfl) rfl ?_
            refine T_goto 19 dX6_fourth_78 (by decide) ?_
            exact h
          · exact Or.inr hc
        have nk : (¬ (¬ fallA a k = 0 ∧ (p.1 = -1 ∨ lossA a k < p.2))) → T DX6_fourth d 75 [some (.ref 0), some (.int w), some (.int p.1), some (.int p.2), some (.int (nI k))] [] F G (fun v F' G' => v = some (.int (r_fourth a w)) ∧ F' = F ∧ G' = G) := by
          intro hc
          rw [fouS, if_neg hc] at h
          refine T_ii4 dX6_fourth_75 (by first | exact nI_inc _ | exact nI_dec _ | rfl) rfl ?_
          refine T_goto 19 dX6_fourth_78 (by decide) ?_
          exact h
        refine T_il4 dX6_fourth_19 ?_
        refine T_al0 dX6_fourth_21 ?_
        refine T_g6 gX6_19 (cell_0 _ _) rfl dX6_fourth_22 ?_
        refine T_g4 gX6_215 (by first | assumption | decide) (cell_T _ _ (by first | assumption | decide)) rfl dX6_fourth_25 ?_
        rw [e0]
        refine T_nge_f 81 dX6_fourth_28 (by decide) (by omega) (by omega) (by omega) ?_
        refine T_al0 dX6_fourth_31 ?_
        refine T_g6 gX6_31 (cell_0 _ _) rfl dX6_fourth_32 ?_
        refine T_il4 dX6_fourth_35 ?_
        refine T_al0 dX6_fourth_37 ?_
        refine T_g6 gX6_31 (cell_0 _ _) rfl dX6_fourth_38 ?_
        refine T_g1 gX6_142 (by first | assumption | decide) (cell_L _ _ (by first | assumption | decide)) rfl dX6_fourth_41 ?_
        refine T_pV2 lX6_190 rfl (by first | decide | (have := isL_lt _ (by assumption); omega)) (cell_L _ _ (by first | assumption | decide)) (c_fallOf _ (by omega) _ _ _ (by first | assumption | decide) (by assumption) _ _ (by omega)) (by omega) (Nat.le_of_ble_eq_true rfl) dX6_fourth_44 ?_
        rw [eF]
        refine T_if_eq 75 dX6_fourth_47 (by decide) (fun h3 => ?_) (fun h3 => ?_)
        · exact nk (fun z => z.1 h3)
        · refine T_il2 dX6_fourth_50 ?_
          refine T_iconst (v := -1) dX6_fourth_51 rfl ?_
          refine T_icmp_eq 65 dX6_fourth_52 (by decide) (fun h4 => ?_) (fun h4 => ?_)
          · exact tk.resolve_right (fun z => z ⟨h3, Or.inl h4⟩)
          · refine T_al0 dX6_fourth_55 ?_
            refine T_il4 dX6_fourth_56 ?_
            refine T_pV1 lX6_193 rfl (by decide) (cell_0 _ _) (c_lossAt _ (by omega) _ _ _ (by assumption) (by assumption) (by assumption) _ (by omega)) (by omega) (Nat.le_of_ble_eq_true rfl) dX6_fourth_58 ?_
            rw [eL]
            refine T_il3 dX6_fourth_61 ?_
            refine T_icmp_ge 75 dX6_fourth_62 (by decide) (fun h5 => ?_) (fun h5 => ?_)
            · exact nk (fun z => z.2.elim h4 (Int32.not_lt.mpr h5))
            · exact tk.resolve_right (fun z => z ⟨h3, Or.inr (Int32.not_le.mp h5)⟩)
      · refine T_il4 dX6_fourth_19 ?_
        refine T_al0 dX6_fourth_21 ?_
        refine T_g6 gX6_19 (cell_0 _ _) rfl dX6_fourth_22 ?_
        refine T_g4 gX6_215 (by first | assumption | decide) (cell_T _ _ (by first | assumption | decide)) rfl dX6_fourth_25 ?_
        rw [e0]
        refine T_nge_t 81 dX6_fourth_28 (by decide) (by omega) (by omega) (by omega) ?_
        refine T_il1 dX6_fourth_81 ?_
        refine T_if_ne 89 dX6_fourth_82 (by decide) (fun h3 => ?_) (fun h3 => ?_)
        · refine T_il3 dX6_fourth_89 ?_
          refine T_iret rfl dX6_fourth_90 ?_
          exact ⟨by rw [r_fourth, if_neg h12, if_neg h3], rfl, rfl⟩
        · refine T_il2 dX6_fourth_85 ?_
          refine T_goto 90 dX6_fourth_86 (by decide) ?_
          refine T_iret rfl dX6_fourth_90 ?_
          exact ⟨by rw [r_fourth, if_neg h12, if_pos h3], rfl, rfl⟩
    · refine T_bipush (v := -3) dX6_fourth_9 (by decide +kernel) ?_
      refine T_iret rfl dX6_fourth_11 ?_
      exact ⟨by rw [r_fourth, if_pos (Or.inr (Int32.not_le.mp h2))], rfl, rfl⟩
def rem32 (x y : Int32) : Int32 := x - x / y * y
def lowR (ab be pa : Int32) : Nat → Int32
  | 0 => if pa = 0 then ab else be
  | 1 => if pa = 0 then ab else be
  | k + 2 => if rem32 ab (nI (k + 2)) = 0 ∧ rem32 be (nI (k + 2)) = 0 then (if pa = 0 then ab / nI (k + 2) else be / nI (k + 2)) else lowR ab be pa (k + 1)
theorem c_lowest (d : Nat) (F : FT) (G : GT) (ab pa : Int32) (b : Nat) (hb : b ≤ 8) : Kp DX6_lowest d [.int ab, .int (nI b), .int pa] F G (some (.int (lowR ab (nI b) pa b))) := by
  refine Kc.ofT [some (.int ab), some (.int (nI b)), some (.int pa), none] pn_X6 (Nat.le_of_ble_eq_true rfl) rfl ?_
  refine T_il1 dX6_lowest_0 ?_
  refine T_is3 dX6_lowest_1 rfl ?_
  suffices h : ∀ k, k ≤ 8 → T DX6_lowest d 2 [some (.int ab), some (.int (nI b)), some (.int pa), some (.int (nI k))] [] F G (fun v F' G' => v = some (.int (lowR ab (nI b) pa k)) ∧ F' = F ∧ G' = G) from h b hb
  have fin : ∀ k, lowR ab (nI b) pa k = (if pa = 0 then ab else nI b) → T DX6_lowest d 39 [some (.int ab), some (.int (nI b)), some (.int pa), some (.int (nI k))] [] F G (fun v F' G' => v = some (.int (lowR ab (nI b) pa k)) ∧ F' = F ∧ G' = G) := by
    intro k hk
    refine T_il2 dX6_lowest_39 ?_
    refine T_if_ne 47 dX6_lowest_40 (by decide) (fun hq => ?_) (fun hq => ?_)
    · refine T_il1 dX6_lowest_47 ?_
      refine T_iret rfl dX6_lowest_48 ?_
      exact ⟨by rw [hk, if_neg hq], rfl, rfl⟩
    · refine T_il0 dX6_lowest_43 ?_
      refine T_goto 48 dX6_lowest_44 (by decide) ?_
      refine T_iret rfl dX6_lowest_48 ?_
      exact ⟨by rw [hk, if_pos hq], rfl, rfl⟩
  intro k
  induction k with
  | zero =>
    intro _
    refine T_il3 dX6_lowest_2 ?_
    refine T_iconst (v := nI 1) dX6_lowest_3 rfl ?_
    refine T_nle_t 39 dX6_lowest_4 (by decide) (by omega) (by omega) (by omega) ?_
    exact fin 0 rfl
  | succ k ih =>
    intro hk
    rcases Nat.eq_zero_or_pos k with rfl | hk0
    · refine T_il3 dX6_lowest_2 ?_
      refine T_iconst (v := nI 1) dX6_lowest_3 rfl ?_
      refine T_nle_t 39 dX6_lowest_4 (by decide) (by omega) (by omega) (by omega) ?_
      exact fin 1 rfl
    · obtain ⟨j, rfl⟩ : ∃ j, k = j + 1 := ⟨k - 1, by omega⟩
      have hne : ¬ nI (j + 1 + 1) = 0 := nI_ne0 (by omega) (by omega)
      have nx : ¬ (rem32 ab (nI (j + 2)) = 0 ∧ rem32 (nI b) (nI (j + 2)) = 0) → T DX6_lowest d 33 [some (.int ab), some (.int (nI b)), some (.int pa), some (.int (nI (j + 1 + 1)))] [] F G (fun v F' G' => v = some (.int (lowR ab (nI b) pa (j + 1 + 1))) ∧ F' = F ∧ G' = G) := by
        intro hc
        rw [lowR, if_neg hc]
        refine T_ii3 dX6_lowest_33 (nI_dec _) rfl ?_
        refine T_goto 2 dX6_lowest_36 (by decide) ?_
        exact ih (by omega)
      refine T_il3 dX6_lowest_2 ?_
      refine T_iconst (v := nI 1) dX6_lowest_3 rfl ?_
      refine T_nle_f 39 dX6_lowest_4 (by decide) (by omega) (by omega) (by omega) ?_
      refine T_il0 dX6_lowest_7 ?_
      refine T_il3 dX6_lowest_8 ?_
      refine T_irem dX6_lowest_9 hne ?_
      refine T_if_ne 33 dX6_lowest_10 (by decide) (fun h1 => ?_) (fun h1 => ?_)
      · exact nx (fun z => h1 z.1)
      · refine T_il1 dX6_lowest_13 ?_
        refine T_il3 dX6_lowest_14 ?_
        refine T_irem dX6_lowest_15 hne ?_
        refine T_if_ne 33 dX6_lowest_16 (by decide) (fun h2 => ?_) (fun h2 => ?_)
        · exact nx (fun z => h2 z.2)
        · rw [lowR, if_pos ⟨h1, h2⟩]
          refine T_il2 dX6_lowest_19 ?_
          refine T_if_ne 29 dX6_lowest_20 (by decide) (fun h3 => ?_) (fun h3 => ?_)
          · refine T_il1 dX6_lowest_29 ?_
            refine T_il3 dX6_lowest_30 ?_
            refine T_idiv dX6_lowest_31 hne ?_
            refine T_iret rfl dX6_lowest_32 ?_
            exact ⟨by rw [if_neg h3], rfl, rfl⟩
          · refine T_il0 dX6_lowest_23 ?_
            refine T_il3 dX6_lowest_24 ?_
            refine T_idiv dX6_lowest_25 hne ?_
            refine T_goto 32 dX6_lowest_26 (by decide) ?_
            refine T_iret rfl dX6_lowest_32 ?_
            exact ⟨by rw [if_pos h3], rfl, rfl⟩
theorem pop8_le : ∀ m, m < 256 → pop8 m ≤ 8 := by decide +kernel
def catS (a : AS) (t : Int32) : Nat → Nat → Nat := fun i c => if hasI (fallA a i) t = true then c + 1 else c
def r_cat (a : AS) (t p : Int32) : Int32 := if knB (aN a) t = true then (if p < 0 ∨ nI 1 < p then -3 else if lWhole (aNow a) = 0 then -4 else lowR (nI (iter (catS a t) (aN a) 0 0)) (nI (pop8 (sv (lWhole (aNow a))))) p (pop8 (sv (lWhole (aNow a))))) else -2
theorem x_cat (d : Nat) (hd : 3 ≤ d) (F : FT) (G : GT) (a : AS) (hX : XR a F G) (hn : aN a ≤ 8) (ho : okS (lOv (aNow a))) (hw : S8 (lWhole (aNow a))) (t p : Int32) : Kp DX6_cat d [.ref 0, .int t, .int p] F G (some (.int (r_cat a t p))) := by
  obtain ⟨e0, e1, e4, e5, e9, e10, f1, f2, f3, f4, g0, g1, g2, g3⟩ := hX.eqs
  have ho' : okS (G (19 + 2)) := by rw [show G (19 + 2) = _ from g1]; exact ho
  have eF : ∀ i, fallI (G 4) (G (19 + 2)) (G (19 + 3)) (F 19 3) i = fallA a i := fun i => by rw [fallA, e4, f3, show G (19 + 2) = _ from g1, show G (19 + 3) = _ from g2]
  obtain ⟨m, hm, em⟩ := hw
  have hp8 := pop8_le m hm
  refine Kc.ofT [some (.ref 0), some (.int t), some (.int p), none, none] pn_X6 (Nat.le_of_ble_eq_true rfl) rfl ?_
  refine T_al0 dX6_cat_0 ?_
  refine T_il1 dX6_cat_1 ?_
  refine T_pV1 lX6_92 rfl (by decide) (cell_0 _ _) (c_known _ _ _ _ (by assumption) _) (by omega) (Nat.le_of_ble_eq_true rfl) dX6_cat_2 ?_
  refine T_bne 11 dX6_cat_5 (by decide) (fun h1 => ?_) (fun h1 => ?_)
  · refine T_il2 dX6_cat_11 ?_
    refine T_if_lt 20 dX6_cat_12 (by decide) (fun h2 => ?_) (fun h2 => ?_)
    · refine T_bipush (v := -3) dX6_cat_20 (by decide +kernel) ?_
      refine T_iret rfl dX6_cat_22 ?_
      exact ⟨by rw [r_cat, if_pos h1, if_pos (Or.inl h2)], rfl, rfl⟩
    · refine T_il2 dX6_cat_15 ?_
      refine T_iconst (v := nI 1) dX6_cat_16 rfl ?_
      refine T_icmp_le 23 dX6_cat_17 (by decide) (fun h3 => ?_) (fun h3 => ?_)
      · have h23 : ¬ (p < 0 ∨ nI 1 < p) := fun z => z.elim h2 (Int32.not_lt.mpr h3)
        refine T_al0 dX6_cat_23 ?_
        refine T_g6 gX6_31 (cell_0 _ _) rfl dX6_cat_24 ?_
        refine T_g1 gX6_142 (by first | assumption | decide) (cell_L _ _ (by first | assumption | decide)) rfl dX6_cat_27 ?_
        rw [f3]
        refine T_if_ne 36 dX6_cat_30 (by decide) (fun h4 => ?_) (fun h4 => ?_)
        · refine T_iconst (v := nI 0) dX6_cat_36 rfl ?_
          refine T_is3 dX6_cat_37 rfl ?_
          refine T_iconst (v := nI 0) dX6_cat_38 rfl ?_
          refine T_is4 dX6_cat_39 rfl ?_
          refine for_up (catS a t) (aN a) (fun k c => T DX6_cat d 41 [some (.ref 0), some (.int t), some (.int p), some (.int (nI c)), some (.int (nI k))] [] F G _) ?_ (aN a) 0 0 (by omega) ?_
          · intro k c hk h
            refine T_il4 dX6_cat_41 ?_
            refine T_al0 dX6_cat_43 ?_
            refine T_g6 gX6_19 (cell_0 _ _) rfl dX6_cat_44 ?_
            refine T_g4 gX6_215 (by first | assumption | decide) (cell_T _ _ (by first | assumption | decide)) rfl dX6_cat_47 ?_
            rw [e0]
            refine T_nge_f 85 dX6_cat_50 (by decide) (by omega) (by omega) (by omega) ?_
            refine T_al0 dX6_cat_53 ?_
            refine T_g6 gX6_31 (cell_0 _ _) rfl dX6_cat_54 ?_
            refine T_il4 dX6_cat_57 ?_
            refine T_al0 dX6_cat_59 ?_
            refine T_g6 gX6_31 (cell_0 _ _) rfl dX6_cat_60 ?_
            refine T_g1 gX6_142 (by first | assumption | decide) (cell_L _ _ (by first | assumption | decide)) rfl dX6_cat_63 ?_
            refine T_pV2 lX6_190 rfl (by first | decide | (have := isL_lt _ (by assumption); omega)) (cell_L _ _ (by first | assumption | decide)) (c_fallOf _ (by omega) _ _ _ (by first | assumption | decide) (by assumption) _ _ (by omega)) (by omega) (Nat.le_of_ble_eq_true rfl) dX6_cat_66 ?_
            rw [eF]
            refine T_il1 dX6_cat_69 ?_
            refine T_pS2 lX6_163 (c_has _ _ _ _ _) (by omega) (Nat.le_of_ble_eq_true rfl) dX6_cat_70 ?_
            refine T_beq 79 dX6_cat_73 (by decide) (fun h5 => ?_) (fun h5 => ?_)
            · rw [catS, if_neg (by rw [h5]; decide)] at h
              refine T_ii4 dX6_cat_79 (by first | exact nI_inc _ | exact nI_dec _ | rfl) rfl ?_
              refine T_goto 41 dX6_cat_82 (by decide) ?_
              exact h
            · rw [catS, if_pos h5] at h
              refine T_ii3 dX6_cat_76 (by first | exact nI_inc _ | exact nI_dec _ | rfl) rfl ?_
              refine T_ii4 dX6_cat_79 (by first | exact nI_inc _ | exact nI_dec _ | rfl) rfl ?_
              refine T_goto 41 dX6_cat_82 (by decide) ?_
              exact h
          · refine T_il4 dX6_cat_41 ?_
            refine T_al0 dX6_cat_43 ?_
            refine T_g6 gX6_19 (cell_0 _ _) rfl dX6_cat_44 ?_
            refine T_g4 gX6_215 (by first | assumption | decide) (cell_T _ _ (by first | assumption | decide)) rfl dX6_cat_47 ?_
            rw [e0]
            refine T_nge_t 85 dX6_cat_50 (by decide) (by omega) (by omega) (by omega) ?_
            refine T_il3 dX6_cat_85 ?_
            refine T_al0 dX6_cat_86 ?_
            refine T_g6 gX6_31 (cell_0 _ _) rfl dX6_cat_87 ?_
            refine T_g1 gX6_142 (by first | assumption | decide) (cell_L _ _ (by first | assumption | decide)) rfl dX6_cat_90 ?_
            rw [f3, em]
            refine T_pS1 lX6_155 (c_bitCount _ _ _ _ (by assumption)) (by omega) (Nat.le_of_ble_eq_true rfl) dX6_cat_93 ?_
            refine T_il2 dX6_cat_96 ?_
            refine T_pS3 lX6_221 (c_lowest _ _ _ _ _ _ (by assumption)) (by omega) (Nat.le_of_ble_eq_true rfl) dX6_cat_97 ?_
            refine T_iret rfl dX6_cat_100 ?_
            exact ⟨by rw [r_cat, if_pos h1, if_neg h23, if_neg h4, em, sv_nI (by omega)], rfl, rfl⟩
        · refine T_bipush (v := -4) dX6_cat_33 (by decide +kernel) ?_
          refine T_iret rfl dX6_cat_35 ?_
          exact ⟨by rw [r_cat, if_pos h1, if_neg h23, if_pos h4], rfl, rfl⟩
      · refine T_bipush (v := -3) dX6_cat_20 (by decide +kernel) ?_
        refine T_iret rfl dX6_cat_22 ?_
        exact ⟨by rw [r_cat, if_pos h1, if_pos (Or.inr (Int32.not_le.mp h3))], rfl, rfl⟩
  · refine T_bipush (v := -2) dX6_cat_8 (by decide +kernel) ?_
    refine T_iret rfl dX6_cat_10 ?_
    exact ⟨by rw [r_cat, if_neg (by rw [h1]; decide)], rfl, rfl⟩
def meaS (a : AS) : Nat → Int32 → Int32 := fun i x => x + lossA a i
def r_mean (a : AS) (p : Int32) : Int32 := if p < 0 ∨ nI 1 < p then -3 else if lWhole (aNow a) = 0 then -4 else lowR (iter (meaS a) (aN a) 0 (nI 0)) (nI (pop8 (sv (lWhole (aNow a))))) p (pop8 (sv (lWhole (aNow a))))
theorem x_mean (d : Nat) (hd : 4 ≤ d) (F : FT) (G : GT) (a : AS) (hX : XR a F G) (hn : aN a ≤ 8) (ho : okS (lOv (aNow a))) (hw : S8 (lWhole (aNow a))) (p : Int32) : Kp DX6_mean d [.ref 0, .int p] F G (some (.int (r_mean a p))) := by
  obtain ⟨e0, e1, e4, e5, e9, e10, f1, f2, f3, f4, g0, g1, g2, g3⟩ := hX.eqs
  have ho' : okS (G (19 + 2)) := by rw [show G (19 + 2) = _ from g1]; exact ho
  have eL : ∀ i, lossI (G 4) (G 5) (aN a) (fallI (G 4) (G 21) (G 22) (F 19 3) i) (F 19 1) = lossA a i := fun i => by rw [lossA, fallA, e4, e5, f1, f3, g1, g2]
  obtain ⟨m, hm, em⟩ := hw
  have hp8 := pop8_le m hm
  refine Kc.ofT [some (.ref 0), some (.int p), none, none] pn_X6 (Nat.le_of_ble_eq_true rfl) rfl ?_
  refine T_il1 dX6_mean_0 ?_
  refine T_if_lt 9 dX6_mean_1 (by decide) (fun h1 => ?_) (fun h1 => ?_)
  · refine T_bipush (v := -3) dX6_mean_9 (by decide +kernel) ?_
    refine T_iret rfl dX6_mean_11 ?_
    exact ⟨by rw [r_mean, if_pos (Or.inl h1)], rfl, rfl⟩
  · refine T_il1 dX6_mean_4 ?_
    refine T_iconst (v := nI 1) dX6_mean_5 rfl ?_
    refine T_icmp_le 12 dX6_mean_6 (by decide) (fun h2 => ?_) (fun h2 => ?_)
    · have h12 : ¬ (p < 0 ∨ nI 1 < p) := fun z => z.elim h1 (Int32.not_lt.mpr h2)
      refine T_al0 dX6_mean_12 ?_
      refine T_g6 gX6_31 (cell_0 _ _) rfl dX6_mean_13 ?_
      refine T_g1 gX6_142 (by first | assumption | decide) (cell_L _ _ (by first | assumption | decide)) rfl dX6_mean_16 ?_
      rw [f3]
      refine T_if_ne 25 dX6_mean_19 (by decide) (fun h4 => ?_) (fun h4 => ?_)
      · refine T_iconst (v := nI 0) dX6_mean_25 rfl ?_
        refine T_is2 dX6_mean_26 rfl ?_
        refine T_iconst (v := nI 0) dX6_mean_27 rfl ?_
        refine T_is3 dX6_mean_28 rfl ?_
        refine for_up (meaS a) (aN a) (fun k x => T DX6_mean d 29 [some (.ref 0), some (.int p), some (.int x), some (.int (nI k))] [] F G _) ?_ (aN a) 0 _ (by omega) ?_
        · intro k x hk h
          refine T_il3 dX6_mean_29 ?_
          refine T_al0 dX6_mean_30 ?_
          refine T_g6 gX6_19 (cell_0 _ _) rfl dX6_mean_31 ?_
          refine T_g4 gX6_215 (by first | assumption | decide) (cell_T _ _ (by first | assumption | decide)) rfl dX6_mean_34 ?_
          rw [e0]
          refine T_nge_f 54 dX6_mean_37 (by decide) (by omega) (by omega) (by omega) ?_
          refine T_il2 dX6_mean_40 ?_
          refine T_al0 dX6_mean_41 ?_
          refine T_il3 dX6_mean_42 ?_
          refine T_pV1 lX6_193 rfl (by decide) (cell_0 _ _) (c_lossAt _ (by omega) _ _ _ (by assumption) (by assumption) (by assumption) _ (by omega)) (by omega) (Nat.le_of_ble_eq_true rfl) dX6_mean_43 ?_
          rw [eL]
          refine T_iadd dX6_mean_46 ?_
          refine T_is2 dX6_mean_47 rfl ?_
          refine T_ii3 dX6_mean_48 (by first | exact nI_inc _ | exact nI_dec _ | rfl) rfl ?_
          refine T_goto 29 dX6_mean_51 (by decide) ?_
          exact h
        · refine T_il3 dX6_mean_29 ?_
          refine T_al0 dX6_mean_30 ?_
          refine T_g6 gX6_19 (cell_0 _ _) rfl dX6_mean_31 ?_
          refine T_g4 gX6_215 (by first | assumption | decide) (cell_T _ _ (by first | assumption | decide)) rfl dX6_mean_34 ?_
          rw [e0]
          refine T_nge_t 54 dX6_mean_37 (by decide) (by omega) (by omega) (by omega) ?_
          refine T_il2 dX6_mean_54 ?_
          refine T_al0 dX6_mean_55 ?_
          refine T_g6 gX6_31 (cell_0 _ _) rfl dX6_mean_56 ?_
          refine T_g1 gX6_142 (by first | assumption | decide) (cell_L _ _ (by first | assumption | decide)) rfl dX6_mean_59 ?_
          rw [f3, em]
          refine T_pS1 lX6_155 (c_bitCount _ _ _ _ (by assumption)) (by omega) (Nat.le_of_ble_eq_true rfl) dX6_mean_62 ?_
          refine T_il1 dX6_mean_65 ?_
          refine T_pS3 lX6_221 (c_lowest _ _ _ _ _ _ (by assumption)) (by omega) (Nat.le_of_ble_eq_true rfl) dX6_mean_66 ?_
          refine T_iret rfl dX6_mean_69 ?_
          exact ⟨by rw [r_mean, if_neg h12, if_neg h4, em, sv_nI (by omega)], rfl, rfl⟩
      · refine T_bipush (v := -4) dX6_mean_22 (by decide +kernel) ?_
        refine T_iret rfl dX6_mean_24 ?_
        exact ⟨by rw [r_mean, if_neg h12, if_pos h4], rfl, rfl⟩
    · refine T_bipush (v := -3) dX6_mean_9 (by decide +kernel) ?_
      refine T_iret rfl dX6_mean_11 ?_
      exact ⟨by rw [r_mean, if_pos (Or.inr (Int32.not_le.mp h2))], rfl, rfl⟩
