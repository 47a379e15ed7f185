/-! the class's public methods that change nothing -/
def knB (n : Nat) (x : Int32) : Bool := decide (¬ x < 0 ∧ x < nI n)
theorem knB_ok {n : Nat} (hn : n ≤ 8) {x : Int32} (h : knB n x = true) : ∃ k, k < n ∧ x = nI k := by
  obtain ⟨h1, h2⟩ := of_decide_eq_true h
  obtain ⟨j, hj, rfl⟩ := nI_of h1
  exact ⟨j, (nI_ltI hj (by omega)).mp h2, rfl⟩
theorem knB_k {n k : Nat} (hn : n ≤ 8) (hk : k < n) : knB n (nI k) = true := decide_eq_true ⟨nI_pos (by omega), nI_lt hk (by omega)⟩
theorem c_known (d : Nat) (F : FT) (G : GT) (n : Nat) (hF : F 3 0 = nI n) (x : Int32) : Kp DX6_known d [.ref 0, .int x] F G (some (.int (bI (knB n x)))) := by
  refine Kc.ofT [some (.ref 0), some (.int x)] pn_X6 (Nat.le_of_ble_eq_true rfl) rfl ?_
  refine T_il1 dX6_known_0 ?_
  refine T_if_lt 19 dX6_known_1 (by decide) (fun h1 => ?_) (fun h1 => ?_)
  · refine T_iconst (v := nI 0) dX6_known_19 rfl ?_
    refine T_bret0 rfl dX6_known_20 ?_
    exact ⟨by rw [show knB n x = false from decide_eq_false (fun z => z.1 h1)], rfl, rfl⟩
  · refine T_il1 dX6_known_4 ?_
    refine T_al0 dX6_known_5 ?_
    refine T_g6 gX6_19 (cell_0 _ _) rfl dX6_known_6 ?_
    refine T_g4 gX6_215 (by first | assumption | decide) (cell_T _ _ (by first | assumption | decide)) rfl dX6_known_9 ?_
    rw [hF]
    refine T_icmp_ge 19 dX6_known_12 (by decide) (fun h2 => ?_) (fun h2 => ?_)
    · refine T_iconst (v := nI 0) dX6_known_19 rfl ?_
      refine T_bret0 rfl dX6_known_20 ?_
      exact ⟨by rw [show knB n x = false from decide_eq_false (fun z => Int32.not_lt.mpr h2 z.2)], rfl, rfl⟩
    · refine T_iconst (v := nI 1) dX6_known_15 rfl ?_
      refine T_goto 20 dX6_known_16 (by decide) ?_
      refine T_bret1 rfl dX6_known_20 ?_
      exact ⟨by rw [show knB n x = true from decide_eq_true ⟨h1, Int32.not_le.mp h2⟩], rfl, rfl⟩
theorem c_knownPair (d : Nat) (hd : 1 ≤ d) (F : FT) (G : GT) (n : Nat) (hF : F 3 0 = nI n) (x y : Int32) : Kp DX6_knownPair d [.ref 0, .int x, .int y] F G (some (.int (bI (knB n x && knB n y && decide (¬ x = y))))) := by
  refine Kc.ofT [some (.ref 0), some (.int x), some (.int y)] pn_X6 (Nat.le_of_ble_eq_true rfl) rfl ?_
  refine T_al0 dX6_knownPair_0 ?_
  refine T_il1 dX6_knownPair_1 ?_
  refine T_pV1 lX6_92 rfl (by decide) (cell_0 _ _) (c_known _ _ _ _ (by assumption) _) (by omega) (Nat.le_of_ble_eq_true rfl) dX6_knownPair_2 ?_
  refine T_beq 25 dX6_knownPair_5 (by decide) (fun h1 => ?_) (fun h1 => ?_)
  · refine T_iconst (v := nI 0) dX6_knownPair_25 rfl ?_
    refine T_bret0 rfl dX6_knownPair_26 ?_
    exact ⟨by rw [h1]; rfl, rfl, rfl⟩
  · refine T_al0 dX6_knownPair_8 ?_
    refine T_il2 dX6_knownPair_9 ?_
    refine T_pV1 lX6_92 rfl (by decide) (cell_0 _ _) (c_known _ _ _ _ (by assumption) _) (by omega) (Nat.le_of_ble_eq_true rfl) dX6_knownPair_10 ?_
    refine T_beq 25 dX6_knownPair_13 (by decide) (fun h2 => ?_) (fun h2 => ?_)
    · refine T_iconst (v := nI 0) dX6_knownPair_25 rfl ?_
      refine T_bret0 rfl dX6_knownPair_26 ?_
      exact ⟨by rw [h1, h2]; rfl, rfl, rfl⟩
    · refine T_il1 dX6_knownPair_16 ?_
      refine T_il2 dX6_knownPair_17 ?_
      refine T_icmp_eq 25 dX6_knownPair_18 (by decide) (fun h3 => ?_) (fun h3 => ?_)
      · refine T_iconst (v := nI 0) dX6_knownPair_25 rfl ?_
        refine T_bret0 rfl dX6_knownPair_26 ?_
        exact ⟨by rw [h1, h2, decide_eq_false (fun z => z h3)]; rfl, rfl, rfl⟩
      · refine T_iconst (v := nI 1) dX6_knownPair_21 rfl ?_
        refine T_goto 26 dX6_knownPair_22 (by decide) ?_
        refine T_bret1 rfl dX6_knownPair_26 ?_
        exact ⟨by rw [h1, h2, decide_eq_true h3]; rfl, rfl, rfl⟩
theorem c_lossAt (d : Nat) (hd : 3 ≤ d) (F : FT) (G : GT) (n : Nat) (hF : F 3 0 = nI n) (hn : n ≤ 8) (ho : okS (G (19 + 2))) (i : Nat) (hi : i < 8) : Kp DX6_lossAt d [.ref 0, .int (nI i)] F G (some (.int (lossI (G 4) (G 5) n (fallI (G 4) (G 21) (G 22) (F 19 3) i) (F 19 1)))) := by
  refine Kc.ofT [some (.ref 0), some (.int (nI i))] pn_X6 (Nat.le_of_ble_eq_true rfl) rfl ?_
  refine T_al0 dX6_lossAt_0 ?_
  refine T_g6 gX6_19 (cell_0 _ _) rfl dX6_lossAt_1 ?_
  refine T_al0 dX6_lossAt_4 ?_
  refine T_g6 gX6_31 (cell_0 _ _) rfl dX6_lossAt_5 ?_
  refine T_il1 dX6_lossAt_8 ?_
  refine T_al0 dX6_lossAt_9 ?_
  refine T_g6 gX6_31 (cell_0 _ _) rfl dX6_lossAt_10 ?_
  refine T_g1 gX6_142 (by first | assumption | decide) (cell_L _ _ (by first | assumption | decide)) rfl dX6_lossAt_13 ?_
  refine T_pV2 lX6_190 rfl (by first | decide | (have := isL_lt _ (by assumption); omega)) (cell_L _ _ (by first | assumption | decide)) (c_fallOf _ (by omega) _ _ _ (by first | assumption | decide) (by assumption) _ _ (by omega)) (by omega) (Nat.le_of_ble_eq_true rfl) dX6_lossAt_16 ?_
  refine T_al0 dX6_lossAt_19 ?_
  refine T_g6 gX6_31 (cell_0 _ _) rfl dX6_lossAt_20 ?_
  refine T_g1 gX6_126 (by first | assumption | decide) (cell_L _ _ (by first | assumption | decide)) rfl dX6_lossAt_23 ?_
  refine T_pV2 lX6_233 rfl (by omega) (cell_T _ _ (by first | assumption | decide)) (c_lossOf _ _ _ _ (by first | assumption | decide) (by omega) _ (by assumption) (by assumption) _ _) (by omega) (Nat.le_of_ble_eq_true rfl) dX6_lossAt_26 ?_
  refine T_iret rfl dX6_lossAt_29 ?_
  exact ⟨rfl, rfl, rfl⟩
def swN (k : Nat) (w : Int32) : Option Nat := if ¬ w < 0 ∧ w ≤ nI k then some (sv w) else none
theorem sw_in {k j : Nat} (hk : k < 2 ^ 31) {w : Int32} (h : swN k w = some j) : j ≤ k ∧ w = nI j := by
  unfold swN at h
  split at h
  · rename_i hw
    obtain ⟨i, hi, rfl⟩ := nI_of hw.1
    rw [sv_nI hi] at h
    cases h
    exact ⟨(nI_leI hi hk).mp hw.2, rfl⟩
  · cases h
theorem sw_out {k : Nat} (hk : k < 2 ^ 31) {w : Int32} (h : swN k w = none) : w.toInt < 0 ∨ (k : Int) < w.toInt := by
  unfold swN at h
  split at h
  · cases h
  · rename_i hw
    rcases Int.lt_or_le w.toInt 0 with q | q
    · exact Or.inl q
    · right
      rcases Int.lt_or_le (k : Int) w.toInt with z | z
      · exact z
      · exfalso
        refine hw ⟨?_, ?_⟩
        · rw [Int32.lt_iff_toInt_lt]; show ¬ w.toInt < 0; omega
        · rw [Int32.le_iff_toInt_le, nI_toInt hk]; exact z
theorem XR.eqs {a : AS} {F : FT} {G : GT} (h : XR a F G) : F 3 0 = nI (aN a) ∧ F 3 1 = nI (aM a) ∧ G 4 = aKd a ∧ G 5 = aLn a ∧ G 9 = aOt a ∧ G 10 = aOd a ∧ F 19 1 = lDay (aNow a) ∧ F 19 2 = lLost (aNow a) ∧ F 19 3 = lWhole (aNow a) ∧ F 19 4 = lCut (aNow a) ∧ G 20 = lCol (aNow a) ∧ G 21 = lOv (aNow a) ∧ G 22 = lKn (aNow a) ∧ G 23 = lCd (aNow a) := by
  obtain ⟨-, ⟨h1, h2, h3, h4, h5, h6, h7, h8, h9⟩, e, -⟩ := h
  rw [← e]
  exact ⟨h1, h2, h3, h4, h8, h9, rfl, rfl, rfl, rfl, rfl, rfl, rfl, rfl⟩
def fallA (a : AS) (i : Nat) : Int32 := fallI (aKd a) (lOv (aNow a)) (lKn (aNow a)) (lWhole (aNow a)) i
def lossA (a : AS) (i : Nat) : Int32 := lossI (aKd a) (aLn a) (aN a) (fallA a i) (lDay (aNow a))
def r_thread (a : AS) (t w : Int32) : Int32 := if knB (aN a) t = true then (match swN 6 w with
  | some 0 => (aKd a).getD (sv t) 0
  | some 1 => (aLn a).getD (sv t) 0
  | some 2 => (lCol (aNow a)).getD (sv t) 0
  | some 3 => if hasI (lWhole (aNow a)) t = true then nI 0 else if hasI (lCut (aNow a)) t = true then nI 1 else nI 2
  | some 4 => (lOv (aNow a)).getD (sv t) 0
  | some 5 => (lKn (aNow a)).getD (sv t) 0
  | some 6 => (lCd (aNow a)).getD (sv t) 0
  | _ => -3) else -2
theorem x_thread (d : Nat) (hd : 3 ≤ d) (F : FT) (G : GT) (a : AS) (hX : XR a F G) (hn : aN a ≤ 8) (t w : Int32) : Kp DX6_thread d [.ref 0, .int t, .int w] F G (some (.int (r_thread a t w))) := by
  obtain ⟨e0, e1, e4, e5, e9, e10, f1, f2, f3, f4, g0, g1, g2, g3⟩ := hX.eqs
  refine Kc.ofT [some (.ref 0), some (.int t), some (.int w)] pn_X6 (Nat.le_of_ble_eq_true rfl) rfl ?_
  refine T_al0 dX6_thread_0 ?_
  refine T_il1 dX6_thread_1 ?_
  refine T_pV1 lX6_92 rfl (by decide) (cell_0 _ _) (c_known _ _ _ _ (by assumption) _) (by omega) (Nat.le_of_ble_eq_true rfl) dX6_thread_2 ?_
  refine T_bne 11 dX6_thread_5 (by decide) (fun h1 => ?_) (fun h1 => ?_)
  · obtain ⟨k, hk, rfl⟩ := knB_ok hn h1
    have hs : sv (nI k) = k := sv_nI (by omega)
    refine T_il2 dX6_thread_11 ?_
    cases hw : swN 6 w with
    | none =>
      refine T_tableOut 125 dX6_thread_12 (sw_out (by decide) hw) (by decide) ?_
      refine T_bipush (v := -3) dX6_thread_125 (by decide +kernel) ?_
      refine T_iret rfl dX6_thread_127 ?_
      exact ⟨by rw [r_thread, if_pos h1, hw], rfl, rfl⟩
    | some j =>
      obtain ⟨hj, rfl⟩ := sw_in (by decide) hw
      match j, hj with
      | 0, _ =>
        refine T_tableIn 56 dX6_thread_12 (by decide +kernel) (by decide +kernel) (off := 44) (by decide +kernel) (by decide) ?_
        refine T_al0 dX6_thread_56 ?_
        refine T_g6 gX6_19 (cell_0 _ _) rfl dX6_thread_57 ?_
        refine T_g4 gX6_96 (by first | assumption | decide) (cell_T _ _ (by first | assumption | decide)) rfl dX6_thread_60 ?_
        refine T_il1 dX6_thread_63 ?_
        refine T_aldN (isT_I (by first | assumption | decide)).1 (by rw [(gL_T (by first | assumption | decide)).1]; omega) dX6_thread_64 ?_
        refine T_iret rfl dX6_thread_65 ?_
        exact ⟨by simp only [r_thread, h1, if_true, hw, hs, e4], rfl, rfl⟩
      | 1, _ =>
        refine T_tableIn 66 dX6_thread_12 (by decide +kernel) (by decide +kernel) (off := 54) (by decide +kernel) (by decide) ?_
        refine T_al0 dX6_thread_66 ?_
        refine T_g6 gX6_19 (cell_0 _ _) rfl dX6_thread_67 ?_
        refine T_g4 gX6_100 (by first | assumption | decide) (cell_T _ _ (by first | assumption | decide)) rfl dX6_thread_70 ?_
        refine T_il1 dX6_thread_73 ?_
        refine T_aldN (isT_I (by first | assumption | decide)).2.1 (by rw [(gL_T (by first | assumption | decide)).2.1]; omega) dX6_thread_74 ?_
        refine T_iret rfl dX6_thread_75 ?_
        exact ⟨by simp only [r_thread, h1, if_true, hw, hs, e5], rfl, rfl⟩
      | 2, _ =>
        refine T_tableIn 76 dX6_thread_12 (by decide +kernel) (by decide +kernel) (off := 64) (by decide +kernel) (by decide) ?_
        refine T_al0 dX6_thread_76 ?_
        refine T_g6 gX6_31 (cell_0 _ _) rfl dX6_thread_77 ?_
        refine T_g1 gX6_103 (by first | assumption | decide) (cell_L _ _ (by first | assumption | decide)) rfl dX6_thread_80 ?_
        refine T_il1 dX6_thread_83 ?_
        refine T_aldN (isL_I (by first | assumption | decide)).1 (by rw [(gL_L (by first | assumption | decide)).1]; omega) dX6_thread_84 ?_
        refine T_iret rfl dX6_thread_85 ?_
        exact ⟨by simp only [r_thread, h1, if_true, hw, hs, g0], rfl, rfl⟩
      | 3, _ =>
        refine T_tableIn 86 dX6_thread_12 (by decide +kernel) (by decide +kernel) (off := 74) (by decide +kernel) (by decide) ?_
        refine T_al0 dX6_thread_86 ?_
        refine T_g6 gX6_31 (cell_0 _ _) rfl dX6_thread_87 ?_
        refine T_il1 dX6_thread_90 ?_
        refine T_pV1 lX6_106 rfl (by first | decide | (have := isL_lt _ (by assumption); omega)) (cell_L _ _ (by first | assumption | decide)) (c_fateOf _ (by omega) _ _ _ (by first | assumption | decide) _) (by omega) (Nat.le_of_ble_eq_true rfl) dX6_thread_91 ?_
        refine T_iret rfl dX6_thread_94 ?_
        exact ⟨by simp only [r_thread, h1, if_true, hw, hs, f3, f4], rfl, rfl⟩
      | 4, _ =>
        refine T_tableIn 95 dX6_thread_12 (by decide +kernel) (by decide +kernel) (off := 83) (by decide +kernel) (by decide) ?_
        refine T_al0 dX6_thread_95 ?_
        refine T_g6 gX6_31 (cell_0 _ _) rfl dX6_thread_96 ?_
        refine T_g1 gX6_110 (by first | assumption | decide) (cell_L _ _ (by first | assumption | decide)) rfl dX6_thread_99 ?_
        refine T_il1 dX6_thread_102 ?_
        refine T_aldN (isL_I (by first | assumption | decide)).2.1 (by rw [(gL_L (by first | assumption | decide)).2.1]; omega) dX6_thread_103 ?_
        refine T_iret rfl dX6_thread_104 ?_
        exact ⟨by simp only [r_thread, h1, if_true, hw, hs, g1], rfl, rfl⟩
      | 5, _ =>
        refine T_tableIn 105 dX6_thread_12 (by decide +kernel) (by decide +kernel) (off := 93) (by decide +kernel) (by decide) ?_
        refine T_al0 dX6_thread_105 ?_
        refine T_g6 gX6_31 (cell_0 _ _) rfl dX6_thread_106 ?_
        refine T_g1 gX6_113 (by first | assumption | decide) (cell_L _ _ (by first | assumption | decide)) rfl dX6_thread_109 ?_
        refine T_il1 dX6_thread_112 ?_
        refine T_aldN (isL_I (by first | assumption | decide)).2.2.1 (by rw [(gL_L (by first | assumption | decide)).2.2.1]; omega) dX6_thread_113 ?_
        refine T_iret rfl dX6_thread_114 ?_
        exact ⟨by simp only [r_thread, h1, if_true, hw, hs, g2], rfl, rfl⟩
      | 6, _ =>
        refine T_tableIn 115 dX6_thread_12 (by decide +kernel) (by decide +kernel) (off := 103) (by decide +kernel) (by decide) ?_
        refine T_al0 dX6_thread_115 ?_
        refine T_g6 gX6_31 (cell_0 _ _) rfl dX6_thread_116 ?_
        refine T_g1 gX6_116 (by first | assumption | decide) (cell_L _ _ (by first | assumption | decide)) rfl dX6_thread_119 ?_
        refine T_il1 dX6_thread_122 ?_
        refine T_aldN (isL_I (by first | assumption | decide)).2.2.2 (by rw [(gL_L (by first | assumption | decide)).2.2.2]; omega) dX6_thread_123 ?_
        refine T_iret rfl dX6_thread_124 ?_
        exact ⟨by simp only [r_thread, h1, if_true, hw, hs, g3], rfl, rfl⟩
      | j + 7, hj => exact absurd hj (by omega)
  · refine T_bipush (v := -2) dX6_thread_8 (by decide +kernel) ?_
    refine T_iret rfl dX6_thread_10 ?_
    exact ⟨by rw [r_thread, if_neg (by rw [h1]; decide)], rfl, rfl⟩
def isKd (k c : Int32) : Bool := decide (k = 0 ∨ k = c + nI 1 ∨ (k = nI 1 ∧ ¬ c = nI 3))
def r_as (a : AS) (t k : Int32) : Int32 := if knB (aN a) t = true then (if k < 0 ∨ nI 4 < k then -3 else if isKd k ((aKd a).getD (sv t) 0) = true then (if hasI (lWhole (aNow a)) t = true then yrsI (aKd a) (aLn a) (sv t) (lDay (aNow a)) else nI 0) else -4) else -2
theorem x_as (d : Nat) (hd : 3 ≤ d) (F : FT) (G : GT) (a : AS) (hX : XR a F G) (hn : aN a ≤ 8) (t k : Int32) : Kp DX6_as d [.ref 0, .int t, .int k] F G (some (.int (r_as a t k))) := by
  obtain ⟨e0, e1, e4, e5, e9, e10, f1, f2, f3, f4, g0, g1, g2, g3⟩ := hX.eqs
  refine Kc.ofT [some (.ref 0), some (.int t), some (.int k)] pn_X6 (Nat.le_of_ble_eq_true rfl) rfl ?_
  refine T_al0 dX6_as_0 ?_
  refine T_il1 dX6_as_1 ?_
  refine T_pV1 lX6_92 rfl (by decide) (cell_0 _ _) (c_known _ _ _ _ (by assumption) _) (by omega) (Nat.le_of_ble_eq_true rfl) dX6_as_2 ?_
  refine T_bne 11 dX6_as_5 (by decide) (fun h1 => ?_) (fun h1 => ?_)
  · obtain ⟨j, hk, rfl⟩ := knB_ok hn h1
    have hs : sv (nI j) = j := sv_nI (by omega)
    refine T_il2 dX6_as_11 ?_
    refine T_if_lt 20 dX6_as_12 (by decide) (fun h2 => ?_) (fun h2 => ?_)
    · refine T_bipush (v := -3) dX6_as_20 (by decide +kernel) ?_
      refine T_iret rfl dX6_as_22 ?_
      exact ⟨by rw [r_as, if_pos h1, if_pos (Or.inl h2)], rfl, rfl⟩
    · refine T_il2 dX6_as_15 ?_
      refine T_iconst (v := nI 4) dX6_as_16 rfl ?_
      refine T_icmp_le 23 dX6_as_17 (by decide) (fun h3 => ?_) (fun h3 => ?_)
      · have h23 : ¬ (k < 0 ∨ nI 4 < k) := fun z => z.elim h2 (Int32.not_lt.mpr h3)
        refine T_al0 dX6_as_23 ?_
        refine T_g6 gX6_19 (cell_0 _ _) rfl dX6_as_24 ?_
        refine T_il1 dX6_as_27 ?_
        refine T_il2 dX6_as_28 ?_
        refine T_pV2 lX6_119 rfl (by omega) (cell_T _ _ (by first | assumption | decide)) (c_isOf _ _ _ _ (by first | assumption | decide) _ (by omega) _) (by omega) (Nat.le_of_ble_eq_true rfl) dX6_as_29 ?_
        refine T_bne 38 dX6_as_32 (by decide) (fun h4 => ?_) (fun h4 => ?_)
        · have h4 : isKd k ((aKd a).getD j 0) = true := by rw [isKd, ← e4]; exact h4
          refine T_al0 dX6_as_38 ?_
          refine T_g6 gX6_31 (cell_0 _ _) rfl dX6_as_39 ?_
          refine T_il1 dX6_as_42 ?_
          refine T_pV1 lX6_123 rfl (by first | decide | (have := isL_lt _ (by assumption); omega)) (cell_L _ _ (by first | assumption | decide)) (c_isWhole _ (by omega) _ _ _ (by first | assumption | decide) _) (by omega) (Nat.le_of_ble_eq_true rfl) dX6_as_43 ?_
          refine T_beq 67 dX6_as_46 (by decide) (fun h5 => ?_) (fun h5 => ?_)
          · refine T_iconst (v := nI 0) dX6_as_67 rfl ?_
            refine T_iret rfl dX6_as_68 ?_
            rw [f3] at h5
            exact ⟨by rw [r_as, if_pos h1, if_neg h23, hs, if_pos h4, if_neg (by rw [h5]; decide)], rfl, rfl⟩
          · refine T_al0 dX6_as_49 ?_
            refine T_g6 gX6_19 (cell_0 _ _) rfl dX6_as_50 ?_
            refine T_il1 dX6_as_53 ?_
            refine T_al0 dX6_as_54 ?_
            refine T_g6 gX6_31 (cell_0 _ _) rfl dX6_as_55 ?_
            refine T_g1 gX6_126 (by first | assumption | decide) (cell_L _ _ (by first | assumption | decide)) rfl dX6_as_58 ?_
            refine T_pV2 lX6_129 rfl (by omega) (cell_T _ _ (by first | assumption | decide)) (c_yearsOn _ _ _ _ (by first | assumption | decide) (by omega) _ (by omega) _) (by omega) (Nat.le_of_ble_eq_true rfl) dX6_as_61 ?_
            refine T_goto 68 dX6_as_64 (by decide) ?_
            refine T_iret rfl dX6_as_68 ?_
            rw [f3] at h5
            exact ⟨by rw [r_as, if_pos h1, if_neg h23, hs, if_pos h4, if_pos h5, f1, ← e4, ← e5], rfl, rfl⟩
        · have h4 : isKd k ((aKd a).getD j 0) = false := by rw [isKd, ← e4]; exact h4
          refine T_bipush (v := -4) dX6_as_35 (by decide +kernel) ?_
          refine T_iret rfl dX6_as_37 ?_
          exact ⟨by rw [r_as, if_pos h1, if_neg h23, hs, if_neg (by rw [h4]; decide)], rfl, rfl⟩
      · refine T_bipush (v := -3) dX6_as_20 (by decide +kernel) ?_
        refine T_iret rfl dX6_as_22 ?_
        exact ⟨by rw [r_as, if_pos h1, if_pos (Or.inr (Int32.not_le.mp h3))], rfl, rfl⟩
  · refine T_bipush (v := -2) dX6_as_8 (by decide +kernel) ?_
    refine T_iret rfl dX6_as_10 ?_
    exact ⟨by rw [r_as, if_neg (by rw [h1]; decide)], rfl, rfl⟩
def r_order (a : AS) (o w : Int32) : Int32 := if knB (aM a) o = true then (match swN 1 w with
  | some 0 => (aOt a).getD (sv o) 0
  | some 1 => (aOd a).getD (sv o) 0
  | _ => -3) else -2
theorem lk_out {w : Int32} (h : swN 1 w = none) : Op.lookupswitch.offset [(0, 25), (1, 35)] 45 w.toInt = 45 := by
  have := sw_out (by decide) h
  have h0 : ¬ w.toInt = 0 := by omega
  have h1 : ¬ w.toInt = 1 := by omega
  simp [Op.lookupswitch.offset, h0, h1, List.find?, eq_comm]
theorem x_order (d : Nat) (F : FT) (G : GT) (a : AS) (hX : XR a F G) (hm : aM a ≤ 6) (o w : Int32) : Kp DX6_order d [.ref 0, .int o, .int w] F G (some (.int (r_order a o w))) := by
  obtain ⟨e0, e1, e4, e5, e9, e10, f1, f2, f3, f4, g0, g1, g2, g3⟩ := hX.eqs
  refine Kc.ofT [some (.ref 0), some (.int o), some (.int w)] pn_X6 (Nat.le_of_ble_eq_true rfl) rfl ?_
  by_cases h1 : knB (aM a) o = true
  · obtain ⟨h2, h3⟩ := of_decide_eq_true h1
    obtain ⟨k, hk, rfl⟩ := knB_ok (by omega) h1
    have hs : sv (nI k) = k := sv_nI (by omega)
    refine T_il1 dX6_order_0 ?_
    refine T_if_lt_f 15 dX6_order_1 (by decide) h2 ?_
    refine T_il1 dX6_order_4 ?_
    refine T_al0 dX6_order_5 ?_
    refine T_g6 gX6_19 (cell_0 _ _) rfl dX6_order_6 ?_
    refine T_g4 gX6_133 (by first | assumption | decide) (cell_T _ _ (by first | assumption | decide)) rfl dX6_order_9 ?_
    rw [e1]
    refine T_icmp_lt_t 18 dX6_order_12 (by decide) h3 ?_
    refine T_il2 dX6_order_18 ?_
    cases hw : swN 1 w with
    | none =>
      refine T_lookup 64 dX6_order_19 (by decide) (lk_out hw) (by decide) ?_
      refine T_bipush (v := -3) dX6_order_64 (by decide +kernel) ?_
      refine T_iret rfl dX6_order_66 ?_
      exact ⟨by rw [r_order, if_pos h1, hw], rfl, rfl⟩
    | some j =>
      obtain ⟨hj, rfl⟩ := sw_in (by decide) hw
      match j, hj with
      | 0, _ =>
        refine T_lookup 44 dX6_order_19 (off := 25) (by decide) (by decide +kernel) (by decide) ?_
        refine T_al0 dX6_order_44 ?_
        refine T_g6 gX6_19 (cell_0 _ _) rfl dX6_order_45 ?_
        refine T_g4 gX6_136 (by first | assumption | decide) (cell_T _ _ (by first | assumption | decide)) rfl dX6_order_48 ?_
        refine T_il1 dX6_order_51 ?_
        refine T_aldN (isT_I (by first | assumption | decide)).2.2.2.2.2.1 (by rw [(gL_T (by first | assumption | decide)).2.2.2.2.2.1]; omega) dX6_order_52 ?_
        refine T_iret rfl dX6_order_53 ?_
        exact ⟨by simp only [r_order, h1, if_true, hw, hs, e9], rfl, rfl⟩
      | 1, _ =>
        refine T_lookup 54 dX6_order_19 (off := 35) (by decide) (by decide +kernel) (by decide) ?_
        refine T_al0 dX6_order_54 ?_
        refine T_g6 gX6_19 (cell_0 _ _) rfl dX6_order_55 ?_
        refine T_g4 gX6_139 (by first | assumption | decide) (cell_T _ _ (by first | assumption | decide)) rfl dX6_order_58 ?_
        refine T_il1 dX6_order_61 ?_
        refine T_aldN (isT_I (by first | assumption | decide)).2.2.2.2.2.2 (by rw [(gL_T (by first | assumption | decide)).2.2.2.2.2.2]; omega) dX6_order_62 ?_
        refine T_iret rfl dX6_order_63 ?_
        exact ⟨by simp only [r_order, h1, if_true, hw, hs, e10], rfl, rfl⟩
      | j + 2, hj => exact absurd hj (by omega)
  · have key : T DX6_order d 15 [some (.ref 0), some (.int o), some (.int w)] [] F G (fun v F' G' => v = some (.int (r_order a o w)) ∧ F' = F ∧ G' = G) := by
      refine T_bipush (v := -2) dX6_order_15 (by decide +kernel) ?_
      refine T_iret rfl dX6_order_17 ?_
      exact ⟨by rw [r_order, if_neg h1], rfl, rfl⟩
    refine T_il1 dX6_order_0 ?_
    refine T_if_lt 15 dX6_order_1 (by decide) (fun h2 => ?_) (fun h2 => ?_)
    · exact key
    · refine T_il1 dX6_order_4 ?_
      refine T_al0 dX6_order_5 ?_
      refine T_g6 gX6_19 (cell_0 _ _) rfl dX6_order_6 ?_
      refine T_g4 gX6_133 (by first | assumption | decide) (cell_T _ _ (by first | assumption | decide)) rfl dX6_order_9 ?_
      rw [e1]
      refine T_icmp_lt 18 dX6_order_12 (by decide) (fun h3 => ?_) (fun h3 => ?_)
      · exact absurd (decide_eq_true ⟨h2, h3⟩) h1
      · exact key
def r_top (a : AS) (t : Int32) : Int32 := if knB (aN a) t = true then (if hasI (lWhole (aNow a)) t = true then nI (topN (lOv (aNow a)) (lWhole (aNow a)) 8 (sv t)) else -4) else -2
theorem x_top (d : Nat) (hd : 2 ≤ d) (F : FT) (G : GT) (a : AS) (hX : XR a F G) (hn : aN a ≤ 8) (ho : okS (lOv (aNow a))) (t : Int32) : Kp DX6_top d [.ref 0, .int t] F G (some (.int (r_top a t))) := by
  obtain ⟨e0, e1, e4, e5, e9, e10, f1, f2, f3, f4, g0, g1, g2, g3⟩ := hX.eqs
  have ho' : okS (G (19 + 2)) := by rw [show G (19 + 2) = _ from g1]; exact ho
  refine Kc.ofT [some (.ref 0), some (.int t)] pn_X6 (Nat.le_of_ble_eq_true rfl) rfl ?_
  refine T_al0 dX6_top_0 ?_
  refine T_il1 dX6_top_1 ?_
  refine T_pV1 lX6_92 rfl (by decide) (cell_0 _ _) (c_known _ _ _ _ (by assumption) _) (by omega) (Nat.le_of_ble_eq_true rfl) dX6_top_2 ?_
  refine T_bne 11 dX6_top_5 (by decide) (fun h1 => ?_) (fun h1 => ?_)
  · obtain ⟨k, hk, rfl⟩ := knB_ok hn h1
    have hs : sv (nI k) = k := sv_nI (by omega)
    refine T_al0 dX6_top_11 ?_
    refine T_g6 gX6_31 (cell_0 _ _) rfl dX6_top_12 ?_
    refine T_il1 dX6_top_15 ?_
    refine T_pV1 lX6_123 rfl (by first | decide | (have := isL_lt _ (by assumption); omega)) (cell_L _ _ (by first | assumption | decide)) (c_isWhole _ (by omega) _ _ _ (by first | assumption | decide) _) (by omega) (Nat.le_of_ble_eq_true rfl) dX6_top_16 ?_
    refine T_beq 40 dX6_top_19 (by decide) (fun h2 => ?_) (fun h2 => ?_)
    · refine T_bipush (v := -4) dX6_top_40 (by decide +kernel) ?_
      refine T_iret rfl dX6_top_42 ?_
      rw [f3] at h2
      exact ⟨by rw [r_top, if_pos h1, if_neg (by rw [h2]; decide)], rfl, rfl⟩
    · refine T_al0 dX6_top_22 ?_
      refine T_g6 gX6_31 (cell_0 _ _) rfl dX6_top_23 ?_
      refine T_il1 dX6_top_26 ?_
      refine T_al0 dX6_top_27 ?_
      refine T_g6 gX6_31 (cell_0 _ _) rfl dX6_top_28 ?_
      refine T_g1 gX6_142 (by first | assumption | decide) (cell_L _ _ (by first | assumption | decide)) rfl dX6_top_31 ?_
      refine T_pV2 lX6_145 rfl (by first | decide | (have := isL_lt _ (by assumption); omega)) (cell_L _ _ (by first | assumption | decide)) (c_topOf _ (by omega) _ _ _ (by first | assumption | decide) (by assumption) _ _ (by omega)) (by omega) (Nat.le_of_ble_eq_true rfl) dX6_top_34 ?_
      refine T_goto 42 dX6_top_37 (by decide) ?_
      refine T_iret rfl dX6_top_42 ?_
      rw [f3] at h2
      exact ⟨by rw [r_top, if_pos h1, if_pos h2, hs, f3, show G (19 + 2) = _ from g1], rfl, rfl⟩
  · refine T_bipush (v := -2) dX6_top_8 (by decide +kernel) ?_
    refine T_iret rfl dX6_top_10 ?_
    exact ⟨by rw [r_top, if_neg (by rw [h1]; decide)], rfl, rfl⟩
def r_takes (a : AS) (t : Int32) : Int32 := if knB (aN a) t = true then fallA a (sv t) else -2
theorem x_takes (d : Nat) (hd : 3 ≤ d) (F : FT) (G : GT) (a : AS) (hX : XR a F G) (hn : aN a ≤ 8) (ho : okS (lOv (aNow a))) (t : Int32) : Kp DX6_takes d [.ref 0, .int t] F G (some (.int (r_takes a t))) := by
  obtain ⟨e0, e1, e4, e5, e9, e10, f1, f2, f3, f4, g0, g1, g2, g3⟩ := hX.eqs
  have ho' : okS (G (19 + 2)) := by rw [show G (19 + 2) = _ from g1]; exact ho
  refine Kc.ofT [some (.ref 0), some (.int t)] pn_X6 (Nat.le_of_ble_eq_true rfl) rfl ?_
  refine T_al0 dX6_takes_0 ?_
  refine T_il1 dX6_takes_1 ?_
  refine T_pV1 lX6_92 rfl (by decide) (cell_0 _ _) (c_known _ _ _ _ (by assumption) _) (by omega) (Nat.le_of_ble_eq_true rfl) dX6_takes_2 ?_
  refine T_beq 26 dX6_takes_5 (by decide) (fun h1 => ?_) (fun h1 => ?_)
  · refine T_bipush (v := -2) dX6_takes_26 (by decide +kernel) ?_
    refine T_iret rfl dX6_takes_28 ?_
    exact ⟨by rw [r_takes, if_neg (by rw [h1]; decide)], rfl, rfl⟩
  · obtain ⟨k, hk, rfl⟩ := knB_ok hn h1
    have hs : sv (nI k) = k := sv_nI (by omega)
    refine T_al0 dX6_takes_8 ?_
    refine T_g6 gX6_31 (cell_0 _ _) rfl dX6_takes_9 ?_
    refine T_il1 dX6_takes_12 ?_
    refine T_al0 dX6_takes_13 ?_
    refine T_g6 gX6_31 (cell_0 _ _) rfl dX6_takes_14 ?_
    refine T_g1 gX6_142 (by first | assumption | decide) (cell_L _ _ (by first | assumption | decide)) rfl dX6_takes_17 ?_
    refine T_pV2 lX6_190 rfl (by first | decide | (have := isL_lt _ (by assumption); omega)) (cell_L _ _ (by first | assumption | decide)) (c_fallOf _ (by omega) _ _ _ (by first | assumption | decide) (by assumption) _ _ (by omega)) (by omega) (Nat.le_of_ble_eq_true rfl) dX6_takes_20 ?_
    refine T_goto 28 dX6_takes_23 (by decide) ?_
    refine T_iret rfl dX6_takes_28 ?_
    exact ⟨by rw [r_takes, if_pos h1, hs, fallA, e4, f3, show G (19 + 2) = _ from g1, show G (19 + 3) = _ from g2], rfl, rfl⟩
def r_loss (a : AS) (t : Int32) : Int32 := if knB (aN a) t = true then lossA a (sv t) else -2
theorem x_loss (d : Nat) (hd : 4 ≤ d) (F : FT) (G : GT) (a : AS) (hX : XR a F G) (hn : aN a ≤ 8) (ho : okS (lOv (aNow a))) (t : Int32) : Kp DX6_loss d [.ref 0, .int t] F G (some (.int (r_loss a t))) := by
  obtain ⟨e0, e1, e4, e5, e9, e10, f1, f2, f3, f4, g0, g1, g2, g3⟩ := hX.eqs
  have ho' : okS (G (19 + 2)) := by rw [show G (19 + 2) = _ from g1]; exact ho
  refine Kc.ofT [some (.ref 0), some (.int t)] pn_X6 (Nat.le_of_ble_eq_true rfl) rfl ?_
  refine T_al0 dX6_loss_0 ?_
  refine T_il1 dX6_loss_1 ?_
  refine T_pV1 lX6_92 rfl (by decide) (cell_0 _ _) (c_known _ _ _ _ (by assumption) _) (by omega) (Nat.le_of_ble_eq_true rfl) dX6_loss_2 ?_
  refine T_beq 16 dX6_loss_5 (by decide) (fun h1 => ?_) (fun h1 => ?_)
  · refine T_bipush (v := -2) dX6_loss_16 (by decide +kernel) ?_
    refine T_iret rfl dX6_loss_18 ?_
    exact ⟨by rw [r_loss, if_neg (by rw [h1]; decide)], rfl, rfl⟩
  · obtain ⟨k, hk, rfl⟩ := knB_ok hn h1
    have hs : sv (nI k) = k := sv_nI (by omega)
    refine T_al0 dX6_loss_8 ?_
    refine T_il1 dX6_loss_9 ?_
    refine T_pV1 lX6_193 rfl (by decide) (cell_0 _ _) (c_lossAt _ (by omega) _ _ _ (by assumption) (by assumption) (by assumption) _ (by omega)) (by omega) (Nat.le_of_ble_eq_true rfl) dX6_loss_10 ?_
    refine T_goto 18 dX6_loss_13 (by decide) ?_
    refine T_iret rfl dX6_loss_18 ?_
    exact ⟨by rw [r_loss, if_pos h1, hs, lossA, fallA, e4, e5, f3, f1, g1, g2], rfl, rfl⟩
