/-! Telling -/
def endB (kd : List Int32) (i : Nat) : Bool := decide (kd.getD i 0 = nI 3)
def yrsI (kd ln : List Int32) (i : Nat) (day : Int32) : Int32 := if endB kd i = true then nI 0 else if kd.getD i 0 = nI 1 then nI 2 * (if nI 0 < ln.getD i 0 - day then ln.getD i 0 - day else nI 0) else (if nI 0 < ln.getD i 0 - day then ln.getD i 0 - day else nI 0)
def lossS (kd ln : List Int32) (set day : Int32) : Nat → Int32 → Int32 := fun i y => if hasI set (nI i) = true ∧ ¬ kd.getD i 0 = nI 2 then y + yrsI kd ln i day else y
def lossI (kd ln : List Int32) (n : Nat) (set day : Int32) : Int32 := iter (lossS kd ln set day) n 0 (nI 0)
def lastS (kd ln : List Int32) (set day : Int32) : Nat → Int32 → Int32 := fun i x => if hasI set (nI i) = true ∧ (endB kd i = true ∨ day < ln.getD i 0) then x ||| bitI (nI i) else x
def lastI (kd ln : List Int32) (n : Nat) (set day : Int32) : Int32 := iter (lastS kd ln set day) n 0 (nI 0)
theorem c_isEndless (d : Nat) (F : FT) (G : GT) (t : Nat) (ht : t = 3 ∨ t = 11) (i : Nat) (hi : i < 8) : Kp DX4_isEndless d [.ref t, .int (nI i)] F G (some (.int (bI (endB (G (t + 1)) i)))) := by
  refine Kc.ofT [some (.ref t), some (.int (nI i))] pn_X4 (Nat.le_of_ble_eq_true rfl) rfl ?_
  refine T_al0 dX4_isEndless_0 ?_
  refine T_g4 gX4_9 (by first | assumption | decide) (cell_T _ _ (by first | assumption | decide)) rfl dX4_isEndless_1 ?_
  refine T_il1 dX4_isEndless_4 ?_
  refine T_aldN (isT_I (by first | assumption | decide)).1 (by rw [(gL_T (by first | assumption | decide)).1]; omega) dX4_isEndless_5 ?_
  refine T_iconst (v := nI 3) dX4_isEndless_6 rfl ?_
  refine T_icmp_ne 14 dX4_isEndless_7 (by decide) (fun h => ?_) (fun h => ?_)
  · refine T_iconst (v := nI 0) dX4_isEndless_14 rfl ?_
    refine T_bret0 rfl dX4_isEndless_15 ?_
    exact ⟨by rw [show endB (G (t + 1)) i = false from decide_eq_false h], rfl, rfl⟩
  · refine T_iconst (v := nI 1) dX4_isEndless_10 rfl ?_
    refine T_goto 15 dX4_isEndless_11 (by decide) ?_
    refine T_bret1 rfl dX4_isEndless_15 ?_
    exact ⟨by rw [show endB (G (t + 1)) i = true from decide_eq_true h], rfl, rfl⟩
theorem c_yearsOn (d : Nat) (F : FT) (G : GT) (t : Nat) (ht : t = 3 ∨ t = 11) (hd : 1 ≤ d) (i : Nat) (hi : i < 8) (day : Int32) : Kp DX4_yearsOn d [.ref t, .int (nI i), .int day] F G (some (.int (yrsI (G (t + 1)) (G (t + 2)) i day))) := by
  refine Kc.ofT [some (.ref t), some (.int (nI i)), some (.int day), none] pn_X4 (Nat.le_of_ble_eq_true rfl) rfl ?_
  refine T_al0 dX4_yearsOn_0 ?_
  refine T_il1 dX4_yearsOn_1 ?_
  refine T_pV1 lX4_53 rfl (by omega) (cell_T _ _ (by first | assumption | decide)) (c_isEndless _ _ _ _ (by first | assumption | decide) _ (by omega)) (by omega) (Nat.le_of_ble_eq_true rfl) dX4_yearsOn_2 ?_
  refine T_beq 10 dX4_yearsOn_5 (by decide) (fun h => ?_) (fun h => ?_)
  · refine T_iconst (v := nI 0) dX4_yearsOn_10 rfl ?_
    refine T_al0 dX4_yearsOn_11 ?_
    refine T_g4 gX4_15 (by first | assumption | decide) (cell_T _ _ (by first | assumption | decide)) rfl dX4_yearsOn_12 ?_
    refine T_il1 dX4_yearsOn_15 ?_
    refine T_aldN (isT_I (by first | assumption | decide)).2.1 (by rw [(gL_T (by first | assumption | decide)).2.1]; omega) dX4_yearsOn_16 ?_
    refine T_il2 dX4_yearsOn_17 ?_
    refine T_isub dX4_yearsOn_18 ?_
    refine T_max lX4_57 (by omega) (Nat.le_of_ble_eq_true rfl) dX4_yearsOn_19 ?_
    refine T_is3 dX4_yearsOn_22 rfl ?_
    refine T_al0 dX4_yearsOn_23 ?_
    refine T_g4 gX4_9 (by first | assumption | decide) (cell_T _ _ (by first | assumption | decide)) rfl dX4_yearsOn_24 ?_
    refine T_il1 dX4_yearsOn_27 ?_
    refine T_aldN (isT_I (by first | assumption | decide)).1 (by rw [(gL_T (by first | assumption | decide)).1]; omega) dX4_yearsOn_28 ?_
    refine T_iconst (v := nI 1) dX4_yearsOn_29 rfl ?_
    refine T_icmp_ne 39 dX4_yearsOn_30 (by decide) (fun h2 => ?_) (fun h2 => ?_)
    · refine T_il3 dX4_yearsOn_39 ?_
      refine T_iret rfl dX4_yearsOn_40 ?_
      exact ⟨by simp only [yrsI, h, h2, Bool.false_eq_true, if_false], rfl, rfl⟩
    · refine T_iconst (v := nI 2) dX4_yearsOn_33 rfl ?_
      refine T_il3 dX4_yearsOn_34 ?_
      refine T_imul dX4_yearsOn_35 ?_
      refine T_goto 40 dX4_yearsOn_36 (by decide) ?_
      refine T_iret rfl dX4_yearsOn_40 ?_
      exact ⟨by simp only [yrsI, h, h2, Bool.false_eq_true, if_false, if_true], rfl, rfl⟩
  · refine T_iconst (v := nI 0) dX4_yearsOn_8 rfl ?_
    refine T_iret rfl dX4_yearsOn_9 ?_
    exact ⟨by rw [yrsI, if_pos h], rfl, rfl⟩
theorem c_lossOf (d : Nat) (F : FT) (G : GT) (t : Nat) (ht : t = 3 ∨ t = 11) (hd : 2 ≤ d) (n : Nat) (hF : F t 0 = nI n) (hn : n ≤ 8) (set day : Int32) : Kp DX4_lossOf d [.ref t, .int set, .int day] F G (some (.int (lossI (G (t + 1)) (G (t + 2)) n set day))) := by
  refine Kc.ofT [some (.ref t), some (.int set), some (.int day), none, none] pn_X4 (Nat.le_of_ble_eq_true rfl) rfl ?_
  refine T_iconst (v := nI 0) dX4_lossOf_0 rfl ?_
  refine T_is3 dX4_lossOf_1 rfl ?_
  refine T_iconst (v := nI 0) dX4_lossOf_2 rfl ?_
  refine T_is4 dX4_lossOf_3 rfl ?_
  refine for_up (lossS (G (t + 1)) (G (t + 2)) set day) n (fun k x => T DX4_lossOf d 5 [some (.ref t), some (.int set), some (.int day), some (.int x), some (.int (nI k))] [] F G _) ?_ n 0 _ (by omega) ?_
  · intro k x hk h
    refine T_il4 dX4_lossOf_5 ?_
    refine T_al0 dX4_lossOf_7 ?_
    refine T_g4 gX4_33 (by first | assumption | decide) (cell_T _ _ (by first | assumption | decide)) rfl dX4_lossOf_8 ?_
    rw [hF]
    refine T_nge_f 50 dX4_lossOf_11 (by decide) (by omega) (by omega) (by omega) ?_
    refine T_il1 dX4_lossOf_14 ?_
    refine T_il4 dX4_lossOf_15 ?_
    refine T_pT2 lX4_63 (c_has _ _ _ _ _) (by omega) (Nat.le_of_ble_eq_true rfl) dX4_lossOf_17 ?_
    refine T_beq 44 dX4_lossOf_20 (by decide) (fun hb => ?_) (fun hb => ?_)
    · rw [lossS, if_neg (by rw [hb]; simp)] at h
      refine T_ii4 dX4_lossOf_44 (by first | exact nI_inc _ | exact nI_dec _ | rfl) rfl ?_
      refine T_goto 5 dX4_lossOf_47 (by decide) ?_
      exact h
    · refine T_al0 dX4_lossOf_23 ?_
      refine T_g4 gX4_9 (by first | assumption | decide) (cell_T _ _ (by first | assumption | decide)) rfl dX4_lossOf_24 ?_
      refine T_il4 dX4_lossOf_27 ?_
      refine T_aldN (isT_I (by first | assumption | decide)).1 (by rw [(gL_T (by first | assumption | decide)).1]; omega) dX4_lossOf_29 ?_
      refine T_iconst (v := nI 2) dX4_lossOf_30 rfl ?_
      refine T_icmp_eq 44 dX4_lossOf_31 (by decide) (fun h2 => ?_) (fun h2 => ?_)
      · rw [lossS, if_neg (fun z => z.2 h2)] at h
        refine T_ii4 dX4_lossOf_44 (by first | exact nI_inc _ | exact nI_dec _ | rfl) rfl ?_
        refine T_goto 5 dX4_lossOf_47 (by decide) ?_
        exact h
      · rw [lossS, if_pos ⟨hb, h2⟩] at h
        refine T_il3 dX4_lossOf_34 ?_
        refine T_al0 dX4_lossOf_35 ?_
        refine T_il4 dX4_lossOf_36 ?_
        refine T_il2 dX4_lossOf_38 ?_
        refine T_pV2 lX4_67 rfl (by omega) (cell_T _ _ (by first | assumption | decide)) (c_yearsOn _ _ _ _ (by first | assumption | decide) (by omega) _ (by omega) _) (by omega) (Nat.le_of_ble_eq_true rfl) dX4_lossOf_39 ?_
        refine T_iadd dX4_lossOf_42 ?_
        refine T_is3 dX4_lossOf_43 rfl ?_
        refine T_ii4 dX4_lossOf_44 (by first | exact nI_inc _ | exact nI_dec _ | rfl) rfl ?_
        refine T_goto 5 dX4_lossOf_47 (by decide) ?_
        exact h
  · refine T_il4 dX4_lossOf_5 ?_
    refine T_al0 dX4_lossOf_7 ?_
    refine T_g4 gX4_33 (by first | assumption | decide) (cell_T _ _ (by first | assumption | decide)) rfl dX4_lossOf_8 ?_
    rw [hF]
    refine T_nge_t 50 dX4_lossOf_11 (by decide) (by omega) (by omega) (by omega) ?_
    refine T_il3 dX4_lossOf_50 ?_
    refine T_iret rfl dX4_lossOf_51 ?_
    exact ⟨rfl, rfl, rfl⟩
theorem c_lasting (d : Nat) (F : FT) (G : GT) (t : Nat) (ht : t = 3 ∨ t = 11) (hd : 1 ≤ d) (n : Nat) (hF : F t 0 = nI n) (hn : n ≤ 8) (set day : Int32) : Kp DX4_lasting d [.ref t, .int set, .int day] F G (some (.int (lastI (G (t + 1)) (G (t + 2)) n set day))) := by
  refine Kc.ofT [some (.ref t), some (.int set), some (.int day), none, none] pn_X4 (Nat.le_of_ble_eq_true rfl) rfl ?_
  refine T_iconst (v := nI 0) dX4_lasting_0 rfl ?_
  refine T_is3 dX4_lasting_1 rfl ?_
  refine T_iconst (v := nI 0) dX4_lasting_2 rfl ?_
  refine T_is4 dX4_lasting_3 rfl ?_
  refine for_up (lastS (G (t + 1)) (G (t + 2)) set day) n (fun k x => T DX4_lasting d 5 [some (.ref t), some (.int set), some (.int day), some (.int x), some (.int (nI k))] [] F G _) ?_ n 0 _ (by omega) ?_
  · intro k x hk h
    refine T_il4 dX4_lasting_5 ?_
    refine T_al0 dX4_lasting_7 ?_
    refine T_g4 gX4_33 (by first | assumption | decide) (cell_T _ _ (by first | assumption | decide)) rfl dX4_lasting_8 ?_
    rw [hF]
    refine T_nge_f 57 dX4_lasting_11 (by decide) (by omega) (by omega) (by omega) ?_
    refine T_il1 dX4_lasting_14 ?_
    refine T_il4 dX4_lasting_15 ?_
    refine T_pT2 lX4_63 (c_has _ _ _ _ _) (by omega) (Nat.le_of_ble_eq_true rfl) dX4_lasting_17 ?_
    refine T_beq 51 dX4_lasting_20 (by decide) (fun hb => ?_) (fun hb => ?_)
    · rw [lastS, if_neg (by rw [hb]; simp)] at h
      refine T_ii4 dX4_lasting_51 (by first | exact nI_inc _ | exact nI_dec _ | rfl) rfl ?_
      refine T_goto 5 dX4_lasting_54 (by decide) ?_
      exact h
    · refine T_al0 dX4_lasting_23 ?_
      refine T_il4 dX4_lasting_24 ?_
      refine T_pV1 lX4_53 rfl (by omega) (cell_T _ _ (by first | assumption | decide)) (c_isEndless _ _ _ _ (by first | assumption | decide) _ (by omega)) (by omega) (Nat.le_of_ble_eq_true rfl) dX4_lasting_26 ?_
      refine T_bne 43 dX4_lasting_29 (by decide) (fun h2 => ?_) (fun h2 => ?_)
      · rw [lastS, if_pos ⟨hb, Or.inl h2⟩] at h
        refine T_il3 dX4_lasting_43 ?_
        refine T_il4 dX4_lasting_44 ?_
        refine T_pT1 lX4_49 (c_bit _ _ _ _) (by omega) (Nat.le_of_ble_eq_true rfl) dX4_lasting_46 ?_
        refine T_ior dX4_lasting_49 ?_
        refine T_is3 dX4_lasting_50 rfl ?_
        refine T_ii4 dX4_lasting_51 (by first | exact nI_inc _ | exact nI_dec _ | rfl) rfl ?_
        refine T_goto 5 dX4_lasting_54 (by decide) ?_
        exact h
      · refine T_al0 dX4_lasting_32 ?_
        refine T_g4 gX4_15 (by first | assumption | decide) (cell_T _ _ (by first | assumption | decide)) rfl dX4_lasting_33 ?_
        refine T_il4 dX4_lasting_36 ?_
        refine T_aldN (isT_I (by first | assumption | decide)).2.1 (by rw [(gL_T (by first | assumption | decide)).2.1]; omega) dX4_lasting_38 ?_
        refine T_il2 dX4_lasting_39 ?_
        refine T_icmp_le 51 dX4_lasting_40 (by decide) (fun h3 => ?_) (fun h3 => ?_)
        · rw [lastS, if_neg (fun z => z.2.elim (by rw [h2]; decide) (fun q => (Int32.not_lt.mpr h3) q))] at h
          refine T_ii4 dX4_lasting_51 (by first | exact nI_inc _ | exact nI_dec _ | rfl) rfl ?_
          refine T_goto 5 dX4_lasting_54 (by decide) ?_
          exact h
        · rw [lastS, if_pos ⟨hb, Or.inr (Int32.not_le.mp h3)⟩] at h
          refine T_il3 dX4_lasting_43 ?_
          refine T_il4 dX4_lasting_44 ?_
          refine T_pT1 lX4_49 (c_bit _ _ _ _) (by omega) (Nat.le_of_ble_eq_true rfl) dX4_lasting_46 ?_
          refine T_ior dX4_lasting_49 ?_
          refine T_is3 dX4_lasting_50 rfl ?_
          refine T_ii4 dX4_lasting_51 (by first | exact nI_inc _ | exact nI_dec _ | rfl) rfl ?_
          refine T_goto 5 dX4_lasting_54 (by decide) ?_
          exact h
  · refine T_il4 dX4_lasting_5 ?_
    refine T_al0 dX4_lasting_7 ?_
    refine T_g4 gX4_33 (by first | assumption | decide) (cell_T _ _ (by first | assumption | decide)) rfl dX4_lasting_8 ?_
    rw [hF]
    refine T_nge_t 57 dX4_lasting_11 (by decide) (by omega) (by omega) (by omega) ?_
    refine T_il3 dX4_lasting_57 ?_
    refine T_iret rfl dX4_lasting_58 ?_
    exact ⟨rfl, rfl, rfl⟩
theorem c_all (d : Nat) (F : FT) (G : GT) (t : Nat) (ht : t = 3 ∨ t = 11) (hd : 1 ≤ d) : Kp DX4_all d [.ref t] F G (some (.int (bitI (F t 0) - nI 1))) := by
  refine Kc.ofT [some (.ref t)] pn_X4 (Nat.le_of_ble_eq_true rfl) rfl ?_
  refine T_al0 dX4_all_0 ?_
  refine T_g4 gX4_33 (by first | assumption | decide) (cell_T _ _ (by first | assumption | decide)) rfl dX4_all_1 ?_
  refine T_pT1 lX4_49 (c_bit _ _ _ _) (by omega) (Nat.le_of_ble_eq_true rfl) dX4_all_4 ?_
  refine T_iconst (v := nI 1) dX4_all_7 rfl ?_
  refine T_isub dX4_all_8 ?_
  refine T_iret rfl dX4_all_9 ?_
  exact ⟨rfl, rfl, rfl⟩
theorem c_isOf (d : Nat) (F : FT) (G : GT) (t : Nat) (ht : t = 3 ∨ t = 11) (i : Nat) (hi : i < 8) (k : Int32) : Kp DX4_isOf d [.ref t, .int (nI i), .int k] F G (some (.int (bI (decide (k = 0 ∨ k = (G (t + 1)).getD i 0 + nI 1 ∨ (k = nI 1 ∧ ¬ (G (t + 1)).getD i 0 = nI 3)))))) := by
  refine Kc.ofT [some (.ref t), some (.int (nI i)), some (.int k), none] pn_X4 (Nat.le_of_ble_eq_true rfl) rfl ?_
  refine T_al0 dX4_isOf_0 ?_
  refine T_g4 gX4_9 (by first | assumption | decide) (cell_T _ _ (by first | assumption | decide)) rfl dX4_isOf_1 ?_
  refine T_il1 dX4_isOf_4 ?_
  refine T_aldN (isT_I (by first | assumption | decide)).1 (by rw [(gL_T (by first | assumption | decide)).1]; omega) dX4_isOf_5 ?_
  refine T_is3 dX4_isOf_6 rfl ?_
  refine T_il2 dX4_isOf_7 ?_
  refine T_if_eq 28 dX4_isOf_8 (by decide) (fun h1 => ?_) (fun h1 => ?_)
  · refine T_iconst (v := nI 1) dX4_isOf_28 rfl ?_
    refine T_goto 33 dX4_isOf_29 (by decide) ?_
    refine T_bret1 rfl dX4_isOf_33 ?_
    exact ⟨by rw [decide_eq_true (Or.inl h1)], rfl, rfl⟩
  · refine T_il2 dX4_isOf_11 ?_
    refine T_il3 dX4_isOf_12 ?_
    refine T_iconst (v := nI 1) dX4_isOf_13 rfl ?_
    refine T_iadd dX4_isOf_14 ?_
    refine T_icmp_eq 28 dX4_isOf_15 (by decide) (fun h2 => ?_) (fun h2 => ?_)
    · refine T_iconst (v := nI 1) dX4_isOf_28 rfl ?_
      refine T_goto 33 dX4_isOf_29 (by decide) ?_
      refine T_bret1 rfl dX4_isOf_33 ?_
      exact ⟨by rw [decide_eq_true (Or.inr (Or.inl h2))], rfl, rfl⟩
    · refine T_il2 dX4_isOf_18 ?_
      refine T_iconst (v := nI 1) dX4_isOf_19 rfl ?_
      refine T_icmp_ne 32 dX4_isOf_20 (by decide) (fun h3 => ?_) (fun h3 => ?_)
      · refine T_iconst (v := nI 0) dX4_isOf_32 rfl ?_
        refine T_bret0 rfl dX4_isOf_33 ?_
        exact ⟨by rw [decide_eq_false (fun z => z.elim h1 (fun z => z.elim h2 (fun z => h3 z.1)))], rfl, rfl⟩
      · refine T_il3 dX4_isOf_23 ?_
        refine T_iconst (v := nI 3) dX4_isOf_24 rfl ?_
        refine T_icmp_eq 32 dX4_isOf_25 (by decide) (fun h4 => ?_) (fun h4 => ?_)
        · refine T_iconst (v := nI 0) dX4_isOf_32 rfl ?_
          refine T_bret0 rfl dX4_isOf_33 ?_
          exact ⟨by rw [decide_eq_false (fun z => z.elim h1 (fun z => z.elim h2 (fun z => z.2 h4)))], rfl, rfl⟩
        · refine T_iconst (v := nI 1) dX4_isOf_28 rfl ?_
          refine T_goto 33 dX4_isOf_29 (by decide) ?_
          refine T_bret1 rfl dX4_isOf_33 ?_
          exact ⟨by rw [decide_eq_true (Or.inr (Or.inr ⟨h3, h4⟩))], rfl, rfl⟩
/-- told's copy -/
def tcF (F : FT) (t s : Nat) : FT := fun c i => if c = t ∧ i < 2 then F s i else F c i
def tcG (G : GT) (t s : Nat) : GT := fun c => if t < c ∧ c ≤ t + 7 then G (s + (c - t)) else G c
theorem c_tcopy (d : Nat) (hd : 1 ≤ d) (F : FT) (G : GT) (t s : Nat) (h : (t = 3 ∧ s = 11) ∨ (t = 11 ∧ s = 3)) : Kc DX4_copyFrom d [.ref t, .ref s] F G (fun v F' G' => v = none ∧ F' = tcF F t s ∧ G' = tcG G t s) := by
  have ht : t = 3 ∨ t = 11 := by omega
  have hs : s = 3 ∨ s = 11 := by omega
  refine Kc.ofT [some (.ref t), some (.ref s)] pn_X4 (Nat.le_of_ble_eq_true rfl) rfl ?_
  refine T_al0 dX4_copyFrom_0 ?_
  refine T_al1 dX4_copyFrom_1 ?_
  refine T_g4 gX4_33 (by first | assumption | decide) (cell_T _ _ (by first | assumption | decide)) rfl dX4_copyFrom_2 ?_
  refine T_put4_0 pX4_33 (by first | assumption | decide) dX4_copyFrom_5 ?_
  refine T_al0 dX4_copyFrom_8 ?_
  refine T_al1 dX4_copyFrom_9 ?_
  refine T_g4 gX4_37 (by first | assumption | decide) (cell_T _ _ (by first | assumption | decide)) rfl dX4_copyFrom_10 ?_
  refine T_put4_1 pX4_37 (by first | assumption | decide) dX4_copyFrom_13 ?_
  refine T_al1 dX4_copyFrom_16 ?_
  refine T_g4 gX4_9 (by first | assumption | decide) (cell_T _ _ (by first | assumption | decide)) rfl dX4_copyFrom_17 ?_
  refine T_iconst (v := nI 0) dX4_copyFrom_20 rfl ?_
  refine T_al0 dX4_copyFrom_21 ?_
  refine T_g4 gX4_9 (by first | assumption | decide) (cell_T _ _ (by first | assumption | decide)) rfl dX4_copyFrom_22 ?_
  refine T_iconst (v := nI 0) dX4_copyFrom_25 rfl ?_
  refine T_bipush (v := nI 8) dX4_copyFrom_26 (by decide +kernel) ?_
  refine T_acopy lX4_40 (isT_I hs).1 (isT_I ht).1 (gL_T hs).1 (gL_T ht).1 (by omega) dX4_copyFrom_28 ?_
  refine T_al1 dX4_copyFrom_31 ?_
  refine T_g4 gX4_15 (by first | assumption | decide) (cell_T _ _ (by first | assumption | decide)) rfl dX4_copyFrom_32 ?_
  refine T_iconst (v := nI 0) dX4_copyFrom_35 rfl ?_
  refine T_al0 dX4_copyFrom_36 ?_
  refine T_g4 gX4_15 (by first | assumption | decide) (cell_T _ _ (by first | assumption | decide)) rfl dX4_copyFrom_37 ?_
  refine T_iconst (v := nI 0) dX4_copyFrom_40 rfl ?_
  refine T_bipush (v := nI 8) dX4_copyFrom_41 (by decide +kernel) ?_
  refine T_acopy lX4_40 (isT_I hs).2.1 (isT_I ht).2.1 (gL_T hs).2.1 (gL_T ht).2.1 (by omega) dX4_copyFrom_43 ?_
  refine T_al1 dX4_copyFrom_46 ?_
  refine T_g4 gX4_18 (by first | assumption | decide) (cell_T _ _ (by first | assumption | decide)) rfl dX4_copyFrom_47 ?_
  refine T_iconst (v := nI 0) dX4_copyFrom_50 rfl ?_
  refine T_al0 dX4_copyFrom_51 ?_
  refine T_g4 gX4_18 (by first | assumption | decide) (cell_T _ _ (by first | assumption | decide)) rfl dX4_copyFrom_52 ?_
  refine T_iconst (v := nI 0) dX4_copyFrom_55 rfl ?_
  refine T_bipush (v := nI 8) dX4_copyFrom_56 (by decide +kernel) ?_
  refine T_acopy lX4_40 (isT_I hs).2.2.1 (isT_I ht).2.2.1 (gL_T hs).2.2.1 (gL_T ht).2.2.1 (by omega) dX4_copyFrom_58 ?_
  refine T_al1 dX4_copyFrom_61 ?_
  refine T_g4 gX4_21 (by first | assumption | decide) (cell_T _ _ (by first | assumption | decide)) rfl dX4_copyFrom_62 ?_
  refine T_iconst (v := nI 0) dX4_copyFrom_65 rfl ?_
  refine T_al0 dX4_copyFrom_66 ?_
  refine T_g4 gX4_21 (by first | assumption | decide) (cell_T _ _ (by first | assumption | decide)) rfl dX4_copyFrom_67 ?_
  refine T_iconst (v := nI 0) dX4_copyFrom_70 rfl ?_
  refine T_bipush (v := nI 8) dX4_copyFrom_71 (by decide +kernel) ?_
  refine T_acopy lX4_40 (isT_I hs).2.2.2.1 (isT_I ht).2.2.2.1 (gL_T hs).2.2.2.1 (gL_T ht).2.2.2.1 (by omega) dX4_copyFrom_73 ?_
  refine T_al1 dX4_copyFrom_76 ?_
  refine T_g4 gX4_24 (by first | assumption | decide) (cell_T _ _ (by first | assumption | decide)) rfl dX4_copyFrom_77 ?_
  refine T_iconst (v := nI 0) dX4_copyFrom_80 rfl ?_
  refine T_al0 dX4_copyFrom_81 ?_
  refine T_g4 gX4_24 (by first | assumption | decide) (cell_T _ _ (by first | assumption | decide)) rfl dX4_copyFrom_82 ?_
  refine T_iconst (v := nI 0) dX4_copyFrom_85 rfl ?_
  refine T_bipush (v := nI 8) dX4_copyFrom_86 (by decide +kernel) ?_
  refine T_acopy lX4_40 (isT_I hs).2.2.2.2.1 (isT_I ht).2.2.2.2.1 (gL_T hs).2.2.2.2.1 (gL_T ht).2.2.2.2.1 (by omega) dX4_copyFrom_88 ?_
  refine T_al1 dX4_copyFrom_91 ?_
  refine T_g4 gX4_27 (by first | assumption | decide) (cell_T _ _ (by first | assumption | decide)) rfl dX4_copyFrom_92 ?_
  refine T_iconst (v := nI 0) dX4_copyFrom_95 rfl ?_
  refine T_al0 dX4_copyFrom_96 ?_
  refine T_g4 gX4_27 (by first | assumption | decide) (cell_T _ _ (by first | assumption | decide)) rfl dX4_copyFrom_97 ?_
  refine T_iconst (v := nI 0) dX4_copyFrom_100 rfl ?_
  refine T_bipush (v := nI 6) dX4_copyFrom_101 (by decide +kernel) ?_
  refine T_acopy lX4_40 (isT_I hs).2.2.2.2.2.1 (isT_I ht).2.2.2.2.2.1 (gL_T hs).2.2.2.2.2.1 (gL_T ht).2.2.2.2.2.1 (by omega) dX4_copyFrom_103 ?_
  refine T_al1 dX4_copyFrom_106 ?_
  refine T_g4 gX4_30 (by first | assumption | decide) (cell_T _ _ (by first | assumption | decide)) rfl dX4_copyFrom_107 ?_
  refine T_iconst (v := nI 0) dX4_copyFrom_110 rfl ?_
  refine T_al0 dX4_copyFrom_111 ?_
  refine T_g4 gX4_30 (by first | assumption | decide) (cell_T _ _ (by first | assumption | decide)) rfl dX4_copyFrom_112 ?_
  refine T_iconst (v := nI 0) dX4_copyFrom_115 rfl ?_
  refine T_bipush (v := nI 6) dX4_copyFrom_116 (by decide +kernel) ?_
  refine T_acopy lX4_40 (isT_I hs).2.2.2.2.2.2 (isT_I ht).2.2.2.2.2.2 (gL_T hs).2.2.2.2.2.2 (gL_T ht).2.2.2.2.2.2 (by omega) dX4_copyFrom_118 ?_
  refine T_vret rfl dX4_copyFrom_121 ?_
  refine ⟨rfl, ?_, ?_⟩
  · funext c i
    rcases h with ⟨rfl, rfl⟩ | ⟨rfl, rfl⟩
    all_goals
      simp only [u2_at, tcF]
      by_cases hc : c = 3
      · subst hc
        by_cases h0 : i = 0
        · subst h0; simp
        · by_cases h1 : i = 1
          · subst h1; simp
          · simp [h0, h1, show ¬ i < 2 by omega]
      · by_cases hc2 : c = 11
        · subst hc2
          by_cases h0 : i = 0
          · subst h0; simp
          · by_cases h1 : i = 1
            · subst h1; simp
            · simp [h0, h1, show ¬ i < 2 by omega]
        · simp [hc, hc2]
  · funext c
    rcases h with ⟨rfl, rfl⟩ | ⟨rfl, rfl⟩
    · simp only [u1_at, tcG]
      by_cases hc : 3 < c ∧ c ≤ 3 + 7
      · have : c = 4 ∨ c = 5 ∨ c = 6 ∨ c = 7 ∨ c = 8 ∨ c = 9 ∨ c = 10 := by omega
        rcases this with rfl | rfl | rfl | rfl | rfl | rfl | rfl <;> simp
      · rw [if_neg hc]
        simp [show ¬ c = 4 by omega, show ¬ c = 5 by omega, show ¬ c = 6 by omega, show ¬ c = 7 by omega, show ¬ c = 8 by omega, show ¬ c = 9 by omega, show ¬ c = 10 by omega]
    · simp only [u1_at, tcG]
      by_cases hc : 11 < c ∧ c ≤ 11 + 7
      · have : c = 12 ∨ c = 13 ∨ c = 14 ∨ c = 15 ∨ c = 16 ∨ c = 17 ∨ c = 18 := by omega
        rcases this with rfl | rfl | rfl | rfl | rfl | rfl | rfl <;> simp
      · rw [if_neg hc]
        simp [show ¬ c = 12 by omega, show ¬ c = 13 by omega, show ¬ c = 14 by omega, show ¬ c = 15 by omega, show ¬ c = 16 by omega, show ¬ c = 17 by omega, show ¬ c = 18 by omega]
theorem c_hasRoomFor (d : Nat) (F : FT) (G : GT) (t : Nat) (ht : t = 3 ∨ t = 11) (n m k : Nat) (hn : F t 0 = nI n) (hm : F t 1 = nI m) (hn8 : n ≤ 8) (hm6 : m ≤ 6) (hk : k < 10) : Kp DX4_hasRoomFor d [.ref t, .int (nI k)] F G (some (.int (bI (if k ≤ 3 then decide (n < 8) else decide (k ≠ 6 ∨ m < 6))))) := by
  refine Kc.ofT [some (.ref t), some (.int (nI k))] pn_X4 (Nat.le_of_ble_eq_true rfl) rfl ?_
  refine T_il1 dX4_hasRoomFor_0 ?_
  refine T_iconst (v := nI 3) dX4_hasRoomFor_1 rfl ?_
  refine T_ngt 20 dX4_hasRoomFor_2 (by decide) (by omega) (by omega) (fun h1 => ?_) (fun h1 => ?_)
  · refine T_il1 dX4_hasRoomFor_20 ?_
    refine T_bipush (v := nI 6) dX4_hasRoomFor_21 (by decide +kernel) ?_
    refine T_nne 35 dX4_hasRoomFor_23 (by decide) (by omega) (by omega) (fun h2 => ?_) (fun h2 => ?_)
    · refine T_iconst (v := nI 1) dX4_hasRoomFor_35 rfl ?_
      refine T_goto 40 dX4_hasRoomFor_36 (by decide) ?_
      refine T_bret1 rfl dX4_hasRoomFor_40 ?_
      exact ⟨by rw [if_neg (by omega), decide_eq_true (Or.inl h2)], rfl, rfl⟩
    · refine T_al0 dX4_hasRoomFor_26 ?_
      refine T_g4 gX4_37 (by first | assumption | decide) (cell_T _ _ (by first | assumption | decide)) rfl dX4_hasRoomFor_27 ?_
      refine T_bipush (v := nI 6) dX4_hasRoomFor_30 (by decide +kernel) ?_
      rw [hm]
      refine T_nge 39 dX4_hasRoomFor_32 (by decide) (by omega) (by omega) (fun h3 => ?_) (fun h3 => ?_)
      · refine T_iconst (v := nI 0) dX4_hasRoomFor_39 rfl ?_
        refine T_bret0 rfl dX4_hasRoomFor_40 ?_
        exact ⟨by rw [if_neg (by omega), decide_eq_false (by omega)], rfl, rfl⟩
      · refine T_iconst (v := nI 1) dX4_hasRoomFor_35 rfl ?_
        refine T_goto 40 dX4_hasRoomFor_36 (by decide) ?_
        refine T_bret1 rfl dX4_hasRoomFor_40 ?_
        exact ⟨by rw [if_neg (by omega), decide_eq_true (Or.inr h3)], rfl, rfl⟩
  · refine T_al0 dX4_hasRoomFor_5 ?_
    refine T_g4 gX4_33 (by first | assumption | decide) (cell_T _ _ (by first | assumption | decide)) rfl dX4_hasRoomFor_6 ?_
    refine T_bipush (v := nI 8) dX4_hasRoomFor_9 (by decide +kernel) ?_
    rw [hn]
    refine T_nge 18 dX4_hasRoomFor_11 (by decide) (by omega) (by omega) (fun h2 => ?_) (fun h2 => ?_)
    · refine T_iconst (v := nI 0) dX4_hasRoomFor_18 rfl ?_
      refine T_bret0 rfl dX4_hasRoomFor_19 ?_
      exact ⟨by rw [if_pos (by omega), decide_eq_false (by omega)], rfl, rfl⟩
    · refine T_iconst (v := nI 1) dX4_hasRoomFor_14 rfl ?_
      refine T_goto 19 dX4_hasRoomFor_15 (by decide) ?_
      refine T_bret1 rfl dX4_hasRoomFor_19 ?_
      exact ⟨by rw [if_pos (by omega), decide_eq_true h2], rfl, rfl⟩
theorem c_addThread (d : Nat) (F : FT) (G : GT) (t : Nat) (ht : t = 3 ∨ t = 11) (n : Nat) (hn : F t 0 = nI n) (hn8 : n < 8) (a b c : Int32) : Kc DX4_addThread d [.ref t, .int a, .int b, .int c] F G (fun v F' G' => v = none ∧ F' = u2 F t 0 (nI (n + 1)) ∧ G' = u1 (u1 (u1 G (t + 1) ((G (t + 1)).set n a)) (t + 2) ((G (t + 2)).set n b)) (t + 3) ((G (t + 3)).set n c)) := by
  refine Kc.ofT [some (.ref t), some (.int a), some (.int b), some (.int c)] pn_X4 (Nat.le_of_ble_eq_true rfl) rfl ?_
  refine T_al0 dX4_addThread_0 ?_
  refine T_g4 gX4_33 (by first | assumption | decide) (cell_T _ _ (by first | assumption | decide)) rfl dX4_addThread_1 ?_
  refine T_bipush (v := nI 8) dX4_addThread_4 (by decide +kernel) ?_
  rw [hn]
  refine T_nlt_t 10 dX4_addThread_6 (by decide) (by omega) (by omega) (by omega) ?_
  refine T_al0 dX4_addThread_10 ?_
  refine T_g4 gX4_9 (by first | assumption | decide) (cell_T _ _ (by first | assumption | decide)) rfl dX4_addThread_11 ?_
  refine T_al0 dX4_addThread_14 ?_
  refine T_g4 gX4_33 (by first | assumption | decide) (cell_T _ _ (by first | assumption | decide)) rfl dX4_addThread_15 ?_
  rw [hn]
  refine T_il1 dX4_addThread_18 ?_
  refine T_astN (isT_I (by first | assumption | decide)).1 (by rw [(gL_T (by first | assumption | decide)).1]; omega) dX4_addThread_19 ?_
  refine T_al0 dX4_addThread_20 ?_
  refine T_g4 gX4_15 (by first | assumption | decide) (cell_T _ _ (by first | assumption | decide)) rfl dX4_addThread_21 ?_
  refine T_al0 dX4_addThread_24 ?_
  refine T_g4 gX4_33 (by first | assumption | decide) (cell_T _ _ (by first | assumption | decide)) rfl dX4_addThread_25 ?_
  rw [hn]
  refine T_il2 dX4_addThread_28 ?_
  refine T_astN (isT_I (by first | assumption | decide)).2.1 (by rw [(gL_T (by first | assumption | decide)).2.1]; omega) dX4_addThread_29 ?_
  refine T_al0 dX4_addThread_30 ?_
  refine T_g4 gX4_18 (by first | assumption | decide) (cell_T _ _ (by first | assumption | decide)) rfl dX4_addThread_31 ?_
  refine T_al0 dX4_addThread_34 ?_
  refine T_g4 gX4_33 (by first | assumption | decide) (cell_T _ _ (by first | assumption | decide)) rfl dX4_addThread_35 ?_
  rw [hn]
  refine T_il3 dX4_addThread_38 ?_
  refine T_astN (isT_I (by first | assumption | decide)).2.2.1 (by rw [(gL_T (by first | assumption | decide)).2.2.1]; omega) dX4_addThread_39 ?_
  refine T_al0 dX4_addThread_40 ?_
  refine T_dup dX4_addThread_41 rfl ?_
  refine T_g4 gX4_33 (by first | assumption | decide) (cell_T _ _ (by first | assumption | decide)) rfl dX4_addThread_42 ?_
  rw [hn]
  refine T_iconst (v := nI 1) dX4_addThread_45 rfl ?_
  first | refine T_iaddN dX4_addThread_46 ?_ | refine T_iadd dX4_addThread_46 ?_
  refine T_put4_0 pX4_33 (by first | assumption | decide) dX4_addThread_47 ?_
  refine T_vret rfl dX4_addThread_50 ?_
  refine ⟨rfl, rfl, ?_⟩
  rw [u1_n G _ (show t + 2 ≠ t + 1 by omega), u1_n _ _ (show t + 3 ≠ t + 2 by omega), u1_n G _ (show t + 3 ≠ t + 1 by omega)]
theorem c_addOrder (d : Nat) (F : FT) (G : GT) (t : Nat) (ht : t = 3 ∨ t = 11) (n : Nat) (hn : F t 1 = nI n) (hn8 : n < 6) (a b : Int32) : Kc DX4_addOrder d [.ref t, .int a, .int b] F G (fun v F' G' => v = none ∧ F' = u2 F t 1 (nI (n + 1)) ∧ G' = u1 (u1 G (t + 6) ((G (t + 6)).set n a)) (t + 7) ((G (t + 7)).set n b)) := by
  refine Kc.ofT [some (.ref t), some (.int a), some (.int b)] pn_X4 (Nat.le_of_ble_eq_true rfl) rfl ?_
  refine T_al0 dX4_addOrder_0 ?_
  refine T_g4 gX4_37 (by first | assumption | decide) (cell_T _ _ (by first | assumption | decide)) rfl dX4_addOrder_1 ?_
  refine T_bipush (v := nI 6) dX4_addOrder_4 (by decide +kernel) ?_
  rw [hn]
  refine T_nlt_t 10 dX4_addOrder_6 (by decide) (by omega) (by omega) (by omega) ?_
  refine T_al0 dX4_addOrder_10 ?_
  refine T_g4 gX4_27 (by first | assumption | decide) (cell_T _ _ (by first | assumption | decide)) rfl dX4_addOrder_11 ?_
  refine T_al0 dX4_addOrder_14 ?_
  refine T_g4 gX4_37 (by first | assumption | decide) (cell_T _ _ (by first | assumption | decide)) rfl dX4_addOrder_15 ?_
  rw [hn]
  refine T_il1 dX4_addOrder_18 ?_
  refine T_astN (isT_I (by first | assumption | decide)).2.2.2.2.2.1 (by rw [(gL_T (by first | assumption | decide)).2.2.2.2.2.1]; omega) dX4_addOrder_19 ?_
  refine T_al0 dX4_addOrder_20 ?_
  refine T_g4 gX4_30 (by first | assumption | decide) (cell_T _ _ (by first | assumption | decide)) rfl dX4_addOrder_21 ?_
  refine T_al0 dX4_addOrder_24 ?_
  refine T_g4 gX4_37 (by first | assumption | decide) (cell_T _ _ (by first | assumption | decide)) rfl dX4_addOrder_25 ?_
  rw [hn]
  refine T_il2 dX4_addOrder_28 ?_
  refine T_astN (isT_I (by first | assumption | decide)).2.2.2.2.2.2 (by rw [(gL_T (by first | assumption | decide)).2.2.2.2.2.2]; omega) dX4_addOrder_29 ?_
  refine T_al0 dX4_addOrder_30 ?_
  refine T_dup dX4_addOrder_31 rfl ?_
  refine T_g4 gX4_37 (by first | assumption | decide) (cell_T _ _ (by first | assumption | decide)) rfl dX4_addOrder_32 ?_
  rw [hn]
  refine T_iconst (v := nI 1) dX4_addOrder_35 rfl ?_
  first | refine T_iaddN dX4_addOrder_36 ?_ | refine T_iadd dX4_addOrder_36 ?_
  refine T_put4_1 pX4_37 (by first | assumption | decide) dX4_addOrder_37 ?_
  refine T_vret rfl dX4_addOrder_40 ?_
  refine ⟨rfl, rfl, ?_⟩
  rw [u1_n G _ (show t + 7 ≠ t + 6 by omega)]
theorem set_rep {l : List Int32} {k n : Nat} (h : k < n) : (List.replicate k (nI 0) ++ l.drop k).set k (nI 0) = List.replicate (k + 1) (nI 0) ++ l.drop (k + 1) ∨ l.length ≤ k := by
  rcases Nat.lt_or_ge k l.length with hk | hk
  · left
    rw [List.set_append_right _ _ (by simp), List.length_replicate, Nat.sub_self, List.drop_eq_getElem_cons hk, List.set_cons_zero, List.replicate_succ', List.append_assoc]
    rfl
  · exact Or.inr hk
theorem c_loosen (d : Nat) (F : FT) (G : GT) (t : Nat) (ht : t = 3 ∨ t = 11) : Kc DX4_loosen d [.ref t] F G (fun v F' G' => v = none ∧ F' = F ∧ G' = u1 (u1 G (t + 4) (List.replicate 8 (nI 0))) (t + 5) (List.replicate 8 (nI 0))) := by
  refine Kc.ofT [some (.ref t), none] pn_X4 (Nat.le_of_ble_eq_true rfl) rfl ?_
  refine T_len (fun hlen => ?_)
  have l4 : (G (t + 4)).length = 8 := (hlen _).trans (gL_T ht).2.2.2.1
  have l5 : (G (t + 5)).length = 8 := (hlen _).trans (gL_T ht).2.2.2.2.1
  refine T_iconst (v := nI 0) dX4_loosen_0 rfl ?_
  refine T_is1 dX4_loosen_1 rfl ?_
  suffices h : ∀ n k, k + n = 8 → T DX4_loosen d 2 [some (.ref t), some (.int (nI k))] [] F (u1 (u1 G (t + 4) (List.replicate k (nI 0) ++ (G (t + 4)).drop k)) (t + 5) (List.replicate k (nI 0) ++ (G (t + 5)).drop k)) (fun v F' G' => v = none ∧ F' = F ∧ G' = u1 (u1 G (t + 4) (List.replicate 8 (nI 0))) (t + 5) (List.replicate 8 (nI 0))) by
    have h := h 8 0 rfl
    simp only [List.replicate_zero, List.nil_append, List.drop_zero] at h
    rw [show u1 (u1 G (t + 4) (G (t + 4))) (t + 5) (G (t + 5)) = G by rw [u1_id, u1_id]] at h
    exact h
  intro n
  induction n with
  | zero =>
    intro k hk
    have hk : k = 8 := by omega
    subst hk
    refine T_il1 dX4_loosen_2 ?_
    refine T_bipush (v := nI 8) dX4_loosen_3 (by decide +kernel) ?_
    refine T_nge_t 28 dX4_loosen_5 (by decide) (by omega) (by omega) (by omega) ?_
    refine T_vret rfl dX4_loosen_28 ?_
    refine ⟨rfl, rfl, ?_⟩
    rw [List.drop_eq_nil_of_le (by omega), List.drop_eq_nil_of_le (by omega), List.append_nil]
  | succ n ih =>
    intro k hk
    refine T_il1 dX4_loosen_2 ?_
    refine T_bipush (v := nI 8) dX4_loosen_3 (by decide +kernel) ?_
    refine T_nge_f 28 dX4_loosen_5 (by decide) (by omega) (by omega) (by omega) ?_
    refine T_al0 dX4_loosen_8 ?_
    refine T_g4 gX4_21 (by first | assumption | decide) (cell_T _ _ (by first | assumption | decide)) rfl dX4_loosen_9 ?_
    refine T_il1 dX4_loosen_12 ?_
    refine T_iconst (v := nI 0) dX4_loosen_13 rfl ?_
    refine T_astN (isT_I (by first | assumption | decide)).2.2.2.1 (by rw [(gL_T (by first | assumption | decide)).2.2.2.1]; omega) dX4_loosen_14 ?_
    refine T_al0 dX4_loosen_15 ?_
    refine T_g4 gX4_24 (by first | assumption | decide) (cell_T _ _ (by first | assumption | decide)) rfl dX4_loosen_16 ?_
    refine T_il1 dX4_loosen_19 ?_
    refine T_iconst (v := nI 0) dX4_loosen_20 rfl ?_
    refine T_astN (isT_I (by first | assumption | decide)).2.2.2.2.1 (by rw [(gL_T (by first | assumption | decide)).2.2.2.2.1]; omega) dX4_loosen_21 ?_
    refine T_ii1 dX4_loosen_22 (by first | exact nI_inc _ | exact nI_dec _ | rfl) rfl ?_
    refine T_goto 2 dX4_loosen_25 (by decide) ?_
    have e := ih (k + 1) (by omega)
    have e4 := (set_rep (l := G (t + 4)) (k := k) (n := 8) (by omega)).resolve_right (by omega)
    have e5 := (set_rep (l := G (t + 5)) (k := k) (n := 8) (by omega)).resolve_right (by omega)
    refine T_G ?_ e
    rw [← e4, ← e5]
    funext c
    simp only [u1_at]
    by_cases h5 : c = t + 5
    · subst h5; simp
    · by_cases h4 : c = t + 4
      · subst h4; simp
      · simp [h4, h5]
theorem c_empty (d : Nat) (hd : 1 ≤ d) (F : FT) (G : GT) (t : Nat) (ht : t = 3 ∨ t = 11) : Kc DX4_empty d [.ref t] F G (fun v F' G' => v = none ∧ F' = u2 (u2 F t 0 (nI 0)) t 1 (nI 0) ∧ G' = u1 (u1 G (t + 4) (List.replicate 8 (nI 0))) (t + 5) (List.replicate 8 (nI 0))) := by
  refine Kc.ofT [some (.ref t)] pn_X4 (Nat.le_of_ble_eq_true rfl) rfl ?_
  refine T_al0 dX4_empty_0 ?_
  refine T_iconst (v := nI 0) dX4_empty_1 rfl ?_
  refine T_put4_0 pX4_33 (by first | assumption | decide) dX4_empty_2 ?_
  refine T_al0 dX4_empty_5 ?_
  refine T_iconst (v := nI 0) dX4_empty_6 rfl ?_
  refine T_put4_1 pX4_37 (by first | assumption | decide) dX4_empty_7 ?_
  refine T_al0 dX4_empty_10 ?_
  refine T_cV0 lX4_46 rfl (by omega) (cell_T _ _ (by first | assumption | decide)) (c_loosen _ _ _ _ ht) (by omega) (Nat.le_of_ble_eq_true rfl) dX4_empty_11 (fun v F' G' hP => ?_)
  obtain ⟨rfl, rfl, rfl⟩ := hP
  refine T_vret rfl dX4_empty_14 ?_
  exact ⟨rfl, rfl, rfl⟩
