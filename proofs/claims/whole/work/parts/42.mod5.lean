def abS (l : List Int32) : Nat → Int32 → Int32 := fun q s => if hasI s (nI q) = true then s ||| l.getD q 0 else s
def abI (l : List Int32) (k : Nat) : Int32 := iter (fun _ s => iter (abS l) 8 0 s) 8 0 (l.getD k 0)
theorem m_isAbove (d : Nat) (hd : 1 ≤ d) (F : FT) (G : GT) (a : Nat) (ha : isI a = true) (hg : gLen a = 8) (x : Int32) (k : Nat) (hk : k < 8) : Kp DX7_isAbove d [.ref a, .int x, .int (nI k)] F G (some (.int (bI (hasI (abI (G a) k) x)))) := by
  refine Kc.ofT [some (.ref a), some (.int x), some (.int (nI k)), none, none, none] pn_X7 (Nat.le_of_ble_eq_true rfl) rfl ?_
  refine T_al0 dX7_isAbove_0 ?_
  refine T_il2 dX7_isAbove_1 ?_
  refine T_aldN (by assumption) (by rw [hg]; exact hk) dX7_isAbove_2 ?_
  refine T_is3 dX7_isAbove_3 rfl ?_
  refine T_iconst (v := nI 0) dX7_isAbove_4 rfl ?_
  refine T_is4 dX7_isAbove_5 rfl ?_
  suffices h : ∀ (m r : Nat) (s : Int32) (o : Option Value), r + m = 8 → T DX7_isAbove d 7 [some (.ref a), some (.int x), some (.int (nI k)), some (.int s), some (.int (nI r)), o] [] F G (fun v F' G' => v = some (.int (bI (hasI (iter (fun _ s => iter (abS (G a)) 8 0 s) m r s) x))) ∧ F' = F ∧ G' = G) from h 8 0 _ none rfl
  intro m
  induction m with
  | zero =>
    intro r s o hr
    refine T_il4 dX7_isAbove_7 ?_
    refine T_bipush (v := nI 8) dX7_isAbove_9 (by decide +kernel) ?_
    refine T_nge_t 56 dX7_isAbove_11 (by decide) (by omega) (by omega) (by omega) ?_
    refine T_il3 dX7_isAbove_56 ?_
    refine T_il1 dX7_isAbove_57 ?_
    refine T_pS2 lX7_124 (m_has _ _ _ _ _) (by omega) (Nat.le_of_ble_eq_true rfl) dX7_isAbove_58 ?_
    refine T_bret rfl dX7_isAbove_61 ?_
    exact ⟨rfl, rfl, rfl⟩
  | succ m ih =>
    intro r s o hr
    rw [iter]
    refine T_il4 dX7_isAbove_7 ?_
    refine T_bipush (v := nI 8) dX7_isAbove_9 (by decide +kernel) ?_
    refine T_nge_f 56 dX7_isAbove_11 (by decide) (by omega) (by omega) (by omega) ?_
    refine T_iconst (v := nI 0) dX7_isAbove_14 rfl ?_
    refine T_is5 dX7_isAbove_15 rfl ?_
    refine for_up (abS (G a)) 8 (fun q y => T DX7_isAbove d 17 [some (.ref a), some (.int x), some (.int (nI k)), some (.int y), some (.int (nI r)), some (.int (nI q))] [] F G _) ?_ 8 0 s rfl ?_
    · intro q y hq h
      refine T_il5 dX7_isAbove_17 ?_
      refine T_bipush (v := nI 8) dX7_isAbove_19 (by decide +kernel) ?_
      refine T_nge_f 50 dX7_isAbove_21 (by decide) (by omega) (by omega) (by omega) ?_
      refine T_il3 dX7_isAbove_24 ?_
      refine T_il3 dX7_isAbove_25 ?_
      refine T_il5 dX7_isAbove_26 ?_
      refine T_pS2 lX7_124 (m_has _ _ _ _ _) (by omega) (Nat.le_of_ble_eq_true rfl) dX7_isAbove_28 ?_
      refine T_beq 41 dX7_isAbove_31 (by decide) (fun b3 => ?_) (fun b3 => ?_)
      · rw [abS, if_neg (by rw [b3]; decide)] at h
        refine T_iconst (v := nI 0) dX7_isAbove_41 rfl ?_
        refine T_ior dX7_isAbove_42 ?_
        rw [or_0]
        refine T_is3 dX7_isAbove_43 rfl ?_
        refine T_ii5 dX7_isAbove_44 (by first | exact nI_inc _ | exact nI_dec _ | rfl) rfl ?_
        refine T_goto 17 dX7_isAbove_47 (by decide) ?_
        exact h
      · rw [abS, if_pos b3] at h
        refine T_al0 dX7_isAbove_34 ?_
        refine T_il5 dX7_isAbove_35 ?_
        refine T_aldN (by assumption) (by rw [hg]; exact hq) dX7_isAbove_37 ?_
        refine T_goto 42 dX7_isAbove_38 (by decide) ?_
        refine T_ior dX7_isAbove_42 ?_
        refine T_is3 dX7_isAbove_43 rfl ?_
        refine T_ii5 dX7_isAbove_44 (by first | exact nI_inc _ | exact nI_dec _ | rfl) rfl ?_
        refine T_goto 17 dX7_isAbove_47 (by decide) ?_
        exact h
    · refine T_il5 dX7_isAbove_17 ?_
      refine T_bipush (v := nI 8) dX7_isAbove_19 (by decide +kernel) ?_
      refine T_nge_t 50 dX7_isAbove_21 (by decide) (by omega) (by omega) (by omega) ?_
      refine T_ii4 dX7_isAbove_50 (by first | exact nI_inc _ | exact nI_dec _ | rfl) rfl ?_
      refine T_goto 7 dX7_isAbove_53 (by decide) ?_
      exact ih (r + 1) _ _ (by omega)
theorem m_areTwo (d : Nat) (hd : 2 ≤ d) (F : FT) (G : GT) (n : Nat) (hF : F 89 2 = nI n) (hn : n ≤ 8) (x y : Int32) : Kp DX7_areTwo d [.ref 89, .int x, .int y] F G (some (.int (bI (knB n x && knB n y && decide (¬ x = y))))) := by
  refine Kc.ofT [some (.ref 89), some (.int x), some (.int y)] pn_X7 (Nat.le_of_ble_eq_true rfl) rfl ?_
  have no : (knB n x && knB n y && decide (¬ x = y)) = false → T DX7_areTwo d 25 [some (.ref 89), some (.int x), some (.int y)] [] F G (fun v F' G' => v = some (.int (bI (knB n x && knB n y && decide (¬ x = y)))) ∧ F' = F ∧ G' = G) := by
    intro hz
    refine T_iconst (v := nI 0) dX7_areTwo_25 rfl ?_
    refine T_bret0 rfl dX7_areTwo_26 ?_
    exact ⟨by rw [hz], rfl, rfl⟩
  refine T_al0 dX7_areTwo_0 ?_
  refine T_il1 dX7_areTwo_1 ?_
  refine T_pV1 lX7_172 rfl (by decide) (cell_89 _ _) (m_isThread _ (by omega) _ _ _ (by assumption) (by assumption) _) (by omega) (Nat.le_of_ble_eq_true rfl) dX7_areTwo_2 ?_
  refine T_beq 25 dX7_areTwo_5 (by decide) (fun b1 => ?_) (fun b1 => ?_)
  · exact no (by rw [b1]; rfl)
  · refine T_al0 dX7_areTwo_8 ?_
    refine T_il2 dX7_areTwo_9 ?_
    refine T_pV1 lX7_172 rfl (by decide) (cell_89 _ _) (m_isThread _ (by omega) _ _ _ (by assumption) (by assumption) _) (by omega) (Nat.le_of_ble_eq_true rfl) dX7_areTwo_10 ?_
    refine T_beq 25 dX7_areTwo_13 (by decide) (fun b2 => ?_) (fun b2 => ?_)
    · exact no (by rw [b1, b2]; rfl)
    · refine T_il1 dX7_areTwo_16 ?_
      refine T_il2 dX7_areTwo_17 ?_
      refine T_icmp_eq 25 dX7_areTwo_18 (by decide) (fun b3 => ?_) (fun b3 => ?_)
      · exact no (by rw [b1, b2, show decide (¬ x = y) = false from decide_eq_false (fun h => h b3)]; rfl)
      · refine T_iconst (v := nI 1) dX7_areTwo_21 rfl ?_
        refine T_goto 26 dX7_areTwo_22 (by decide) ?_
        refine T_bret1 rfl dX7_areTwo_26 ?_
        exact ⟨by rw [b1, b2, show decide (¬ x = y) = true from decide_eq_true b3]; rfl, rfl, rfl⟩
