theorem add_nI0 (y : Int32) : y + nI 0 = y := by
  rw [show nI 0 = (0 : Int32) by decide +kernel]
  exact Int32.add_zero y
def lvS (l : List Int32) (x : Int32) : Nat → Int32 → Int32 := fun q s => if hasI (l.getD q 0) x = true then s + nI 1 else s
theorem m_liesOver (d : Nat) (hd : 1 ≤ d) (F : FT) (G : GT) (n : Nat) (kd ln : List Int32) (x : LoS) (hM : McR n kd ln x F G) (hn : n ≤ 8) (t : Int32) : Kp DX7_liesOver d [.ref 89, .int t] F G (some (.int (iter (lvS (lOv x) t) n 0 (nI 0)))) := by
  obtain ⟨h1, h2, h3, h4, l1, l2, l3, l4⟩ := id hM
  refine Kc.ofT [some (.ref 89), some (.int t), none, none] pn_X7 (Nat.le_of_ble_eq_true rfl) rfl ?_
  refine T_iconst (v := nI 0) dX7_liesOver_0 rfl ?_
  refine T_is2 dX7_liesOver_1 rfl ?_
  refine T_iconst (v := nI 0) dX7_liesOver_2 rfl ?_
  refine T_is3 dX7_liesOver_3 rfl ?_
  refine for_up (lvS (lOv x) t) n (fun q y => T DX7_liesOver d 4 [some (.ref 89), some (.int t), some (.int y), some (.int (nI q))] [] F G _) ?_ n 0 (nI 0) (by omega) ?_
  · intro q y hq h
    refine T_il3 dX7_liesOver_4 ?_
    refine T_al0 dX7_liesOver_5 ?_
    refine T_g7 gX7_74 (cell_89 _ _) rfl dX7_liesOver_6 ?_
    rw [h1]
    refine T_nge_f 42 dX7_liesOver_9 (by decide) (by omega) (by omega) (by omega) ?_
    refine T_il2 dX7_liesOver_12 ?_
    refine T_al0 dX7_liesOver_13 ?_
    refine T_g7 gX7_25 (cell_89 _ _) rfl dX7_liesOver_14 ?_
    refine T_bipush (v := nI 24) dX7_liesOver_17 (by decide +kernel) ?_
    refine T_il3 dX7_liesOver_19 ?_
    first | refine T_iaddN dX7_liesOver_20 ?_ | refine T_iadd dX7_liesOver_20 ?_
    refine T_aldN rfl (show _ < 42 by omega) dX7_liesOver_21 ?_
    rw [h4, enc_ov l1 l2 l3 (by omega)]
    refine T_il1 dX7_liesOver_22 ?_
    refine T_pS2 lX7_124 (m_has _ _ _ _ _) (by omega) (Nat.le_of_ble_eq_true rfl) dX7_liesOver_23 ?_
    refine T_beq 33 dX7_liesOver_26 (by decide) (fun b3 => ?_) (fun b3 => ?_)
    · rw [lvS, if_neg (by rw [b3]; decide)] at h
      refine T_iconst (v := nI 0) dX7_liesOver_33 rfl ?_
      refine T_iadd dX7_liesOver_34 ?_
      rw [add_nI0]
      refine T_is2 dX7_liesOver_35 rfl ?_
      refine T_ii3 dX7_liesOver_36 (by first | exact nI_inc _ | exact nI_dec _ | rfl) rfl ?_
      refine T_goto 4 dX7_liesOver_39 (by decide) ?_
      exact h
    · rw [lvS, if_pos b3] at h
      refine T_iconst (v := nI 1) dX7_liesOver_29 rfl ?_
      refine T_goto 34 dX7_liesOver_30 (by decide) ?_
      refine T_iadd dX7_liesOver_34 ?_
      refine T_is2 dX7_liesOver_35 rfl ?_
      refine T_ii3 dX7_liesOver_36 (by first | exact nI_inc _ | exact nI_dec _ | rfl) rfl ?_
      refine T_goto 4 dX7_liesOver_39 (by decide) ?_
      exact h
  · refine T_il3 dX7_liesOver_4 ?_
    refine T_al0 dX7_liesOver_5 ?_
    refine T_g7 gX7_74 (cell_89 _ _) rfl dX7_liesOver_6 ?_
    rw [h1]
    refine T_nge_t 42 dX7_liesOver_9 (by decide) (by omega) (by omega) (by omega) ?_
    refine T_il2 dX7_liesOver_42 ?_
    refine T_iret rfl dX7_liesOver_43 ?_
    exact ⟨rfl, rfl, rfl⟩
theorem lv_lie (l : List Int32) (t : Int32) : ∀ n k c, iter (lvS l t) n k (nI c) = nI (iter (lieS l t) n k c) := by
  intro n
  induction n with
  | zero => intro k c; rfl
  | succ n ih =>
    intro k c
    rw [iter, iter, ← ih (k + 1)]
    congr 1
    rw [lvS, lieS]
    split
    · exact nI_inc c
    · rfl
theorem lie_rest {l : List Int32} {t : Int32} : ∀ m n k c, (∀ q, k + n ≤ q → q < k + n + m → hasI (l.getD q 0) t = false) → iter (lieS l t) (n + m) k c = iter (lieS l t) n k c := by
  intro m
  induction m with
  | zero => intro n k c _; rfl
  | succ m ih =>
    intro n k c h
    rw [show n + (m + 1) = (n + m) + 1 by omega, iter_succ, ih n k c (fun q h1 h2 => h q h1 (by omega)), lieS, if_neg (by rw [h (k + (n + m)) (by omega) (by omega)]; decide)]
