/-! the reference's rows of looms: 42 ints each -/
def cpS (j : Nat) (st : List Int32) : Nat → List Int32 → List Int32 := fun k l => l.set (j + k) (st.getD k 0)
def cpR (o : Nat) (src : List Int32) : Nat → List Int32 → List Int32 := fun k l => l.set k (src.getD (o + k) 0)
def shS : Nat → List Int32 → List Int32 := fun k l => l.set k (l.getD (k + 42) 0)
def noteL (u : Nat) (st l : List Int32) : List Int32 := if u = 8 then iter (cpS (42 * 7) st) 42 0 (iter shS 294 0 l) else iter (cpS (42 * u) st) 42 0 l
theorem m_note (d : Nat) (F : FT) (G : GT) (u : Nat) (hF : F 89 23 = nI u) (hu : u ≤ 8) : Kc DX7_note d [.ref 89] F G (fun v F' G' => v = none ∧ F' = u2 F 89 23 (nI (if u = 8 then 8 else u + 1)) ∧ G' = u1 G 102 (noteL u (G 95) (G 102))) := by
  have cp : ∀ (F : FT) (G : GT) (u : Nat) (o : Option Value), F 89 23 = nI u → u < 8 → T DX7_note d 49 [some (.ref 89), o] [] F G (fun v F' G' => v = none ∧ F' = u2 F 89 23 (nI (u + 1)) ∧ G' = u1 G 102 (iter (cpS (42 * u) (G 95)) 42 0 (G 102))) := by
    intro F G u o hF hu
    refine T_iconst (v := nI 0) dX7_note_49 rfl ?_
    refine T_is1 dX7_note_50 rfl ?_
    refine T_G (u1_id G 102).symm ?_
    refine for_up (cpS (42 * u) (G 95)) 42 (fun k l => T DX7_note d 51 [some (.ref 89), some (.int (nI k))] [] F (u1 G 102 l) _) ?_ 42 0 (G 102) rfl ?_
    · intro k l hk h
      refine T_il1 dX7_note_51 ?_
      refine T_bipush (v := nI 42) dX7_note_52 (by decide +kernel) ?_
      refine T_nge_f 83 dX7_note_54 (by decide) (by omega) (by omega) (by omega) ?_
      refine T_al0 dX7_note_57 ?_
      refine T_g7 gX7_46 (cell_89 _ _) rfl dX7_note_58 ?_
      refine T_bipush (v := nI 42) dX7_note_61 (by decide +kernel) ?_
      refine T_al0 dX7_note_63 ?_
      refine T_g7 gX7_166 (cell_89 _ _) rfl dX7_note_64 ?_
      rw [hF]
      first | refine T_imulN dX7_note_67 ?_ | refine T_imul dX7_note_67 ?_
      refine T_il1 dX7_note_68 ?_
      first | refine T_iaddN dX7_note_69 ?_ | refine T_iadd dX7_note_69 ?_
      refine T_al0 dX7_note_70 ?_
      refine T_g7 gX7_25 (cell_89 _ _) rfl dX7_note_71 ?_
      refine T_il1 dX7_note_74 ?_
      refine T_aldN rfl (show _ < 42 by omega) dX7_note_75 ?_
      rw [u1_n G _ (by decide)]
      refine T_astN (a := 102) rfl (show 42 * u + k < 336 by omega) dX7_note_76 ?_
      rw [u1_s, u1_u1]
      refine T_ii1 dX7_note_77 (by first | exact nI_inc _ | exact nI_dec _ | rfl) rfl ?_
      refine T_goto 51 dX7_note_80 (by decide) ?_
      exact h
    · refine T_il1 dX7_note_51 ?_
      refine T_bipush (v := nI 42) dX7_note_52 (by decide +kernel) ?_
      refine T_nge_t 83 dX7_note_54 (by decide) (by omega) (by omega) (by omega) ?_
      refine T_al0 dX7_note_83 ?_
      refine T_dup dX7_note_84 rfl ?_
      refine T_g7 gX7_166 (cell_89 _ _) rfl dX7_note_85 ?_
      rw [hF]
      refine T_iconst (v := nI 1) dX7_note_88 rfl ?_
      first | refine T_iaddN dX7_note_89 ?_ | refine T_iadd dX7_note_89 ?_
      refine T_put7_23 pX7_166 dX7_note_90 ?_
      refine T_vret rfl dX7_note_93 ?_
      exact ⟨rfl, rfl, rfl⟩
  refine Kc.ofT [some (.ref 89), none] pn_X7 (Nat.le_of_ble_eq_true rfl) rfl ?_
  refine T_al0 dX7_note_0 ?_
  refine T_g7 gX7_166 (cell_89 _ _) rfl dX7_note_1 ?_
  rw [hF]
  refine T_bipush (v := nI 8) dX7_note_4 (by decide +kernel) ?_
  refine T_nne 49 dX7_note_6 (by decide) (by omega) (by omega) (fun h1 => ?_) (fun h1 => ?_)
  · rw [if_neg h1, noteL, if_neg h1]
    exact cp F G u none hF (by omega)
  · rw [if_pos h1, noteL, if_pos h1]
    subst h1
    refine T_iconst (v := nI 0) dX7_note_9 rfl ?_
    refine T_is1 dX7_note_10 rfl ?_
    refine T_G (u1_id G 102).symm ?_
    refine for_up shS 294 (fun k l => T DX7_note d 11 [some (.ref 89), some (.int (nI k))] [] F (u1 G 102 l) _) ?_ 294 0 (G 102) rfl ?_
    · intro k l hk h
      refine T_il1 dX7_note_11 ?_
      refine T_sipush (v := nI 294) dX7_note_12 (by decide +kernel) ?_
      refine T_nge_f 39 dX7_note_15 (by decide) (by omega) (by omega) (by omega) ?_
      refine T_al0 dX7_note_18 ?_
      refine T_g7 gX7_46 (cell_89 _ _) rfl dX7_note_19 ?_
      refine T_il1 dX7_note_22 ?_
      refine T_al0 dX7_note_23 ?_
      refine T_g7 gX7_46 (cell_89 _ _) rfl dX7_note_24 ?_
      refine T_il1 dX7_note_27 ?_
      refine T_bipush (v := nI 42) dX7_note_28 (by decide +kernel) ?_
      first | refine T_iaddN dX7_note_30 ?_ | refine T_iadd dX7_note_30 ?_
      refine T_aldN rfl (show _ < 336 by omega) dX7_note_31 ?_
      rw [u1_s]
      refine T_astN (a := 102) rfl (show k < 336 by omega) dX7_note_32 ?_
      rw [u1_s, u1_u1]
      refine T_ii1 dX7_note_33 (by first | exact nI_inc _ | exact nI_dec _ | rfl) rfl ?_
      refine T_goto 11 dX7_note_36 (by decide) ?_
      exact h
    · refine T_il1 dX7_note_11 ?_
      refine T_sipush (v := nI 294) dX7_note_12 (by decide +kernel) ?_
      refine T_nge_t 39 dX7_note_15 (by decide) (by omega) (by omega) (by omega) ?_
      refine T_al0 dX7_note_39 ?_
      refine T_dup dX7_note_40 rfl ?_
      refine T_g7 gX7_166 (cell_89 _ _) rfl dX7_note_41 ?_
      rw [hF]
      refine T_iconst (v := nI 1) dX7_note_44 rfl ?_
      refine T_isubN dX7_note_45 (by omega) ?_
      refine T_put7_23 pX7_166 dX7_note_46 ?_
      have h := cp (u2 F 89 23 (nI (8 - 1))) (u1 G 102 (iter shS 294 0 (G 102))) 7 (some (.int (nI 294))) (u2_s _ _ _ _) (by decide)
      rw [u2_u2, u1_s, u1_u1, u1_n G _ (by decide)] at h
      exact h
theorem m_asTold (d : Nat) (F : FT) (G : GT) : Kc DX7_asTold d [.ref 89] F G (fun v F' G' => v = none ∧ F' = F ∧ G' = u1 G 104 (G 93)) := by
  refine Kc.ofT [some (.ref 89), none] pn_X7 (Nat.le_of_ble_eq_true rfl) rfl ?_
  refine T_len (fun hlen => ?_)
  refine T_iconst (v := nI 0) dX7_asTold_0 rfl ?_
  refine T_is1 dX7_asTold_1 rfl ?_
  refine T_G (u1_id G 104).symm ?_
  refine for_up (setS (G 93)) 6 (fun k l => T DX7_asTold d 2 [some (.ref 89), some (.int (nI k))] [] F (u1 G 104 l) _) ?_ 6 0 (G 104) rfl ?_
  · intro k l hk h
    refine T_il1 dX7_asTold_2 ?_
    refine T_bipush (v := nI 6) dX7_asTold_3 (by decide +kernel) ?_
    refine T_nge_f 26 dX7_asTold_5 (by decide) (by omega) (by omega) (by omega) ?_
    refine T_al0 dX7_asTold_8 ?_
    refine T_g7 gX7_52 (cell_89 _ _) rfl dX7_asTold_9 ?_
    refine T_il1 dX7_asTold_12 ?_
    refine T_al0 dX7_asTold_13 ?_
    refine T_g7 gX7_19 (cell_89 _ _) rfl dX7_asTold_14 ?_
    refine T_il1 dX7_asTold_17 ?_
    refine T_aldN rfl (show _ < 6 by omega) dX7_asTold_18 ?_
    rw [u1_n G _ (by decide)]
    refine T_astN (a := 104) rfl (show k < 6 by omega) dX7_asTold_19 ?_
    rw [u1_s, u1_u1]
    refine T_ii1 dX7_asTold_20 (by first | exact nI_inc _ | exact nI_dec _ | rfl) rfl ?_
    refine T_goto 2 dX7_asTold_23 (by decide) ?_
    exact h
  · refine T_il1 dX7_asTold_2 ?_
    refine T_bipush (v := nI 6) dX7_asTold_3 (by decide +kernel) ?_
    refine T_nge_t 26 dX7_asTold_5 (by decide) (by omega) (by omega) (by omega) ?_
    refine T_vret rfl dX7_asTold_26 ?_
    have e : iter (setS (G 93)) 6 0 (G 104) = G 93 := by
      rw [iter_set (G 93) 6 0 (G 104) (hlen 104) (hlen 93)]; rfl
    rw [e]
    exact ⟨rfl, rfl, rfl⟩
theorem m_undoR (d : Nat) (F : FT) (G : GT) (u : Nat) (hF : F 89 23 = nI (u + 1)) (hu : u < 8) : Kc DX7_undo d [.ref 89] F G (fun v F' G' => v = some (.int (nI u)) ∧ F' = u2 F 89 23 (nI u) ∧ G' = u1 G 95 (iter (cpR (42 * u) (G 102)) 42 0 (G 95))) := by
  refine Kc.ofT [some (.ref 89), none] pn_X7 (Nat.le_of_ble_eq_true rfl) rfl ?_
  refine T_al0 dX7_undo_0 ?_
  refine T_g7 gX7_166 (cell_89 _ _) rfl dX7_undo_1 ?_
  rw [hF]
  refine T_if_ne_t 10 dX7_undo_4 (by decide) (nI_ne0 (by omega) (by omega)) ?_
  refine T_al0 dX7_undo_10 ?_
  refine T_dup dX7_undo_11 rfl ?_
  refine T_g7 gX7_166 (cell_89 _ _) rfl dX7_undo_12 ?_
  rw [hF]
  refine T_iconst (v := nI 1) dX7_undo_15 rfl ?_
  refine T_isubN dX7_undo_16 (by omega) ?_
  refine T_put7_23 pX7_166 dX7_undo_17 ?_
  refine T_iconst (v := nI 0) dX7_undo_20 rfl ?_
  refine T_is1 dX7_undo_21 rfl ?_
  rw [Nat.add_sub_cancel]
  refine T_G (u1_id G 95).symm ?_
  refine for_up (cpR (42 * u) (G 102)) 42 (fun k l => T DX7_undo d 22 [some (.ref 89), some (.int (nI k))] [] (u2 F 89 23 (nI u)) (u1 G 95 l) _) ?_ 42 0 (G 95) rfl ?_
  · intro k l hk h
    refine T_il1 dX7_undo_22 ?_
    refine T_bipush (v := nI 42) dX7_undo_23 (by decide +kernel) ?_
    refine T_nge_f 54 dX7_undo_25 (by decide) (by omega) (by omega) (by omega) ?_
    refine T_al0 dX7_undo_28 ?_
    refine T_g7 gX7_25 (cell_89 _ _) rfl dX7_undo_29 ?_
    refine T_il1 dX7_undo_32 ?_
    refine T_al0 dX7_undo_33 ?_
    refine T_g7 gX7_46 (cell_89 _ _) rfl dX7_undo_34 ?_
    refine T_bipush (v := nI 42) dX7_undo_37 (by decide +kernel) ?_
    refine T_al0 dX7_undo_39 ?_
    refine T_g7 gX7_166 (cell_89 _ _) rfl dX7_undo_40 ?_
    rw [u2_s]
    first | refine T_imulN dX7_undo_43 ?_ | refine T_imul dX7_undo_43 ?_
    refine T_il1 dX7_undo_44 ?_
    first | refine T_iaddN dX7_undo_45 ?_ | refine T_iadd dX7_undo_45 ?_
    refine T_aldN rfl (show _ < 336 by omega) dX7_undo_46 ?_
    rw [u1_n G _ (by decide)]
    refine T_astN (a := 95) rfl (show k < 42 by omega) dX7_undo_47 ?_
    rw [u1_s, u1_u1]
    refine T_ii1 dX7_undo_48 (by first | exact nI_inc _ | exact nI_dec _ | rfl) rfl ?_
    refine T_goto 22 dX7_undo_51 (by decide) ?_
    exact h
  · refine T_il1 dX7_undo_22 ?_
    refine T_bipush (v := nI 42) dX7_undo_23 (by decide +kernel) ?_
    refine T_nge_t 54 dX7_undo_25 (by decide) (by omega) (by omega) (by omega) ?_
    refine T_al0 dX7_undo_54 ?_
    refine T_g7 gX7_166 (cell_89 _ _) rfl dX7_undo_55 ?_
    rw [u2_s]
    refine T_iret rfl dX7_undo_58 ?_
    exact ⟨rfl, rfl, rfl⟩
