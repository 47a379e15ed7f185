def digS (tx : List Int32) : Nat → Int32 → Int32 := fun i v => nI 10 * v + tx.getD i 0 - nI 48
def numV (tx : List Int32) (b e : Nat) : Int32 := iter (digS tx) (e - b) b (nI 0)
def numI (tx : List Int32) (n b e : Nat) (lo hi : Int32) : Int32 := if n ≤ b ∨ 2 < e - b ∨ ¬ srt (tx.getD b 0) = 2 then -1 else if numV tx b e < lo ∨ hi < numV tx b e then -1 else numV tx b e
theorem c_number (d : Nat) (hd : 1 ≤ d) (F : FT) (G : GT) (tx : List Int32) (n b e cl : Nat) (te : TeS) (hn : n ≤ 160) (hF : F 1 1 = nI n) (hG : G 2 = tx) (he : e ≤ n) (hb : b ≤ e) (lo hi : Int32) : Kp DX5_number d [.ref 1, .int lo, .int hi] (rF F b e cl te) (rG G te) (some (.int (numI tx n b e lo hi))) := by
  refine Kc.ofT [some (.ref 1), some (.int lo), some (.int hi), none, none] pn_X5 (Nat.le_of_ble_eq_true rfl) rfl ?_
  have no : (n ≤ b ∨ 2 < e - b ∨ ¬ srt (tx.getD b 0) = 2) → T DX5_number d 40 [some (.ref 1), some (.int lo), some (.int hi), none, none] [] (rF F b e cl te) (rG G te) (fun v F' G' => v = some (.int (numI tx n b e lo hi)) ∧ F' = rF F b e cl te ∧ G' = rG G te) := by
    intro hc
    refine T_iconst (v := -1) dX5_number_40 rfl ?_
    refine T_iret rfl dX5_number_41 ?_
    exact ⟨by rw [numI, if_pos hc], rfl, rfl⟩
  have hs3 : srt (tx.getD b 0) < 2 ^ 31 := by unfold srt; (repeat' split) <;> omega
  refine T_al0 dX5_number_0 ?_
  refine T_g5 gX5_32 (cell_1 _ _) rfl dX5_number_1 ?_
  rw [rF_13]
  refine T_al0 dX5_number_4 ?_
  refine T_g5 gX5_15 (cell_1 _ _) rfl dX5_number_5 ?_
  rw [rF_11, hF]
  refine T_nge 40 dX5_number_8 (by decide) (by omega) (by omega) (fun h1 => ?_) (fun h1 => ?_)
  · exact no (Or.inl h1)
  · refine T_al0 dX5_number_11 ?_
    refine T_g5 gX5_22 (cell_1 _ _) rfl dX5_number_12 ?_
    rw [rF_14]
    refine T_al0 dX5_number_15 ?_
    refine T_g5 gX5_32 (cell_1 _ _) rfl dX5_number_16 ?_
    rw [rF_13]
    refine T_isubN dX5_number_19 hb ?_
    refine T_iconst (v := nI 2) dX5_number_20 rfl ?_
    refine T_ngt 40 dX5_number_21 (by decide) (by omega) (by omega) (fun h2 => ?_) (fun h2 => ?_)
    · exact no (Or.inr (Or.inl h2))
    · refine T_al0 dX5_number_24 ?_
      refine T_g5 gX5_9 (cell_1 _ _) rfl dX5_number_25 ?_
      refine T_al0 dX5_number_28 ?_
      refine T_g5 gX5_32 (cell_1 _ _) rfl dX5_number_29 ?_
      rw [rF_13]
      refine T_aldN rfl (show _ < 160 by omega) dX5_number_32 ?_
      rw [rG_2, hG]
      refine T_pS1 lX5_96 (c_sortOf _ _ _ _) (by omega) (Nat.le_of_ble_eq_true rfl) dX5_number_33 ?_
      refine T_iconst (v := nI 2) dX5_number_36 rfl ?_
      refine T_neq 42 dX5_number_37 (by decide) (by omega) (by omega) (fun h3 => ?_) (fun h3 => ?_)
      · have hc : ¬ (n ≤ b ∨ 2 < e - b ∨ ¬ srt (tx.getD b 0) = 2) := by omega
        refine T_iconst (v := nI 0) dX5_number_42 rfl ?_
        refine T_is3 dX5_number_43 rfl ?_
        refine T_al0 dX5_number_44 ?_
        refine T_g5 gX5_32 (cell_1 _ _) rfl dX5_number_45 ?_
        rw [rF_13]
        refine T_is4 dX5_number_48 rfl ?_
        suffices h : ∀ f k (v : Int32), k + f = e → T DX5_number d 50 [some (.ref 1), some (.int lo), some (.int hi), some (.int v), some (.int (nI k))] [] (rF F b e cl te) (rG G te) (fun w F' G' => w = some (.int (if iter (digS tx) f k v < lo ∨ hi < iter (digS tx) f k v then -1 else iter (digS tx) f k v)) ∧ F' = rF F b e cl te ∧ G' = rG G te) by
          have h := h (e - b) b (nI 0) (by omega)
          rw [numI, if_neg hc]
          exact h
        intro f
        induction f with
        | zero =>
          intro k v hk
          have e0 : iter (digS tx) 0 k v = v := rfl
          rw [e0]
          refine T_il4 dX5_number_50 ?_
          refine T_al0 dX5_number_52 ?_
          refine T_g5 gX5_22 (cell_1 _ _) rfl dX5_number_53 ?_
          rw [rF_14]
          refine T_nge_t 81 dX5_number_56 (by decide) (by omega) (by omega) (by omega) ?_
          refine T_il3 dX5_number_81 ?_
          refine T_il1 dX5_number_82 ?_
          refine T_icmp_lt 91 dX5_number_83 (by decide) (fun h4 => ?_) (fun h4 => ?_)
          · refine T_iconst (v := -1) dX5_number_91 rfl ?_
            refine T_goto 96 dX5_number_92 (by decide) ?_
            refine T_iret rfl dX5_number_96 ?_
            exact ⟨by rw [if_pos (Or.inl h4)], rfl, rfl⟩
          · refine T_il3 dX5_number_86 ?_
            refine T_il2 dX5_number_87 ?_
            refine T_icmp_le 95 dX5_number_88 (by decide) (fun h5 => ?_) (fun h5 => ?_)
            · refine T_il3 dX5_number_95 ?_
              refine T_iret rfl dX5_number_96 ?_
              exact ⟨by rw [if_neg (fun z => z.elim h4 (Int32.not_lt.mpr h5))], rfl, rfl⟩
            · refine T_iconst (v := -1) dX5_number_91 rfl ?_
              refine T_goto 96 dX5_number_92 (by decide) ?_
              refine T_iret rfl dX5_number_96 ?_
              exact ⟨by rw [if_pos (Or.inr (Int32.not_le.mp h5))], rfl, rfl⟩
        | succ f ih =>
          intro k v hk
          refine T_il4 dX5_number_50 ?_
          refine T_al0 dX5_number_52 ?_
          refine T_g5 gX5_22 (cell_1 _ _) rfl dX5_number_53 ?_
          rw [rF_14]
          refine T_nge_f 81 dX5_number_56 (by decide) (by omega) (by omega) (by omega) ?_
          refine T_bipush (v := nI 10) dX5_number_59 (by decide +kernel) ?_
          refine T_il3 dX5_number_61 ?_
          refine T_imul dX5_number_62 ?_
          refine T_al0 dX5_number_63 ?_
          refine T_g5 gX5_9 (cell_1 _ _) rfl dX5_number_64 ?_
          refine T_il4 dX5_number_67 ?_
          refine T_aldN rfl (show _ < 160 by omega) dX5_number_69 ?_
          rw [rG_2, hG]
          refine T_iadd dX5_number_70 ?_
          refine T_bipush (v := nI 48) dX5_number_71 (by decide +kernel) ?_
          refine T_isub dX5_number_73 ?_
          refine T_is3 dX5_number_74 rfl ?_
          refine T_ii4 dX5_number_75 (by first | exact nI_inc _ | exact nI_dec _ | rfl) rfl ?_
          refine T_goto 50 dX5_number_78 (by decide) ?_
          exact ih (k + 1) _ (by omega)
      · exact no (Or.inr (Or.inr h3))
def eqW (tx : List Int32) : Nat → List Int32 → Bool
  | _, [] => true
  | b, c :: r => decide (tx.getD b 0 = c) && eqW tx (b + 1) r
def isWB (tx : List Int32) (b e : Nat) (w : List Int32) : Bool := decide (e - b = w.length) && eqW tx b w
theorem c_isWord (d : Nat) (hd : 4 ≤ d) (F : FT) (G : GT) (tx : List Int32) (n b e cl : Nat) (te : TeS) (hn : n ≤ 160) (hF : F 1 1 = nI n) (hG : G 2 = tx) (he : e ≤ n) (hb : b ≤ e) (i : Nat) (hi : i < 10) : Kp DX5_isWord d [.ref 1, .ref (1000 + i)] (rF F b e cl te) (rG G te) (some (.int (bI (isWB tx b e (txB.getD i []))))) := by
  obtain ⟨t1, t2⟩ := tx_len i hi
  refine Kc.ofT [some (.ref 1), some (.ref (1000 + i)), none] pn_X5 (Nat.le_of_ble_eq_true rfl) rfl ?_
  refine T_al0 dX5_isWord_0 ?_
  refine T_g5 gX5_22 (cell_1 _ _) rfl dX5_isWord_1 ?_
  rw [rF_14]
  refine T_al0 dX5_isWord_4 ?_
  refine T_g5 gX5_32 (cell_1 _ _) rfl dX5_isWord_5 ?_
  rw [rF_13]
  refine T_isubN dX5_isWord_8 hb ?_
  refine T_al1 dX5_isWord_9 ?_
  refine T_pU0 lX5_122 rfl hi (c_slength _ (by omega) _ _ i hi) (by omega) (Nat.le_of_ble_eq_true rfl) dX5_isWord_10 ?_
  refine T_neq 18 dX5_isWord_13 (by decide) (by omega) (by omega) (fun h1 => ?_) (fun h1 => ?_)
  · have hd1 : decide (e - b = (txB.getD i []).length) = true := decide_eq_true (by omega)
    refine T_iconst (v := nI 0) dX5_isWord_18 rfl ?_
    refine T_is2 dX5_isWord_19 rfl ?_
    suffices h : ∀ (r : List Int32) (k : Nat), (txB.getD i []).drop k = r → k ≤ txN.getD i 0 → T DX5_isWord d 20 [some (.ref 1), some (.ref (1000 + i)), some (.int (nI k))] [] (rF F b e cl te) (rG G te) (fun v F' G' => v = some (.int (bI (eqW tx (b + k) r))) ∧ F' = rF F b e cl te ∧ G' = rG G te) by
      have h := h _ 0 rfl (by omega)
      rw [isWB, hd1, Bool.true_and]
      exact h
    intro r
    induction r with
    | nil =>
      intro k hk hk2
      have : (txB.getD i []).length ≤ k := List.drop_eq_nil_iff.mp hk
      refine T_il2 dX5_isWord_20 ?_
      refine T_al1 dX5_isWord_21 ?_
      refine T_pU0 lX5_122 rfl hi (c_slength _ (by omega) _ _ i hi) (by omega) (Nat.le_of_ble_eq_true rfl) dX5_isWord_22 ?_
      refine T_nge_t 55 dX5_isWord_25 (by decide) (by omega) (by omega) (by omega) ?_
      refine T_iconst (v := nI 1) dX5_isWord_55 rfl ?_
      refine T_bret1 rfl dX5_isWord_56 ?_
      exact ⟨rfl, rfl, rfl⟩
    | cons c r ih =>
      intro k hk hk2
      have hlt : k < (txB.getD i []).length := by
        rcases Nat.lt_or_ge k (txB.getD i []).length with q | q
        · exact q
        · rw [List.drop_eq_nil_of_le q] at hk; cases hk
      have hc : (txB.getD i []).getD k 0 = c := by
        rw [List.drop_eq_getElem_cons hlt] at hk
        rw [List.getD_eq_getElem?_getD, List.getElem?_eq_getElem hlt]
        exact (List.cons.inj hk).1
      have hr : (txB.getD i []).drop (k + 1) = r := by
        rw [List.drop_eq_getElem_cons hlt] at hk
        exact (List.cons.inj hk).2
      refine T_il2 dX5_isWord_20 ?_
      refine T_al1 dX5_isWord_21 ?_
      refine T_pU0 lX5_122 rfl hi (c_slength _ (by omega) _ _ i hi) (by omega) (Nat.le_of_ble_eq_true rfl) dX5_isWord_22 ?_
      refine T_nge_f 55 dX5_isWord_25 (by decide) (by omega) (by omega) (by omega) ?_
      refine T_al0 dX5_isWord_28 ?_
      refine T_g5 gX5_9 (cell_1 _ _) rfl dX5_isWord_29 ?_
      refine T_al0 dX5_isWord_32 ?_
      refine T_g5 gX5_32 (cell_1 _ _) rfl dX5_isWord_33 ?_
      rw [rF_13]
      refine T_il2 dX5_isWord_36 ?_
      first | refine T_iaddN dX5_isWord_37 ?_ | refine T_iadd dX5_isWord_37 ?_
      refine T_aldN rfl (show _ < 160 by omega) dX5_isWord_38 ?_
      rw [rG_2, hG]
      refine T_al1 dX5_isWord_39 ?_
      refine T_il2 dX5_isWord_40 ?_
      refine T_pU1 lX5_126 rfl hi (c_charAt _ (by omega) _ _ i k hi (by omega)) (by omega) (Nat.le_of_ble_eq_true rfl) dX5_isWord_41 ?_
      rw [hc, eqW]
      refine T_icmp_eq 49 dX5_isWord_44 (by decide) (fun h2 => ?_) (fun h2 => ?_)
      · refine T_ii2 dX5_isWord_49 (by first | exact nI_inc _ | exact nI_dec _ | rfl) rfl ?_
        refine T_goto 20 dX5_isWord_52 (by decide) ?_
        rw [decide_eq_true h2, Bool.true_and]
        exact ih (k + 1) hr (by omega)
      · refine T_iconst (v := nI 0) dX5_isWord_47 rfl ?_
        refine T_bret0 rfl dX5_isWord_48 ?_
        exact ⟨by rw [decide_eq_false h2, Bool.false_and], rfl, rfl⟩
  · refine T_iconst (v := nI 0) dX5_isWord_16 rfl ?_
    refine T_bret0 rfl dX5_isWord_17 ?_
    exact ⟨by rw [isWB, decide_eq_false (by omega), Bool.false_and], rfl, rfl⟩
def wIs (tx : List Int32) (b e i : Nat) : Bool := isWB tx b e (txB.getD i [])
def wordI (tx : List Int32) (b e : Nat) : Int32 := if wIs tx b e 0 = true then nI 0 else if wIs tx b e 1 = true then nI 1 else if wIs tx b e 2 = true then nI 2 else if wIs tx b e 3 = true then nI 3 else if wIs tx b e 4 = true then nI 4 else if wIs tx b e 5 = true then nI 5 else if wIs tx b e 6 = true then nI 6 else if wIs tx b e 7 = true then nI 7 else if wIs tx b e 8 = true then nI 8 else if wIs tx b e 9 = true then nI 9 else -1
theorem c_word (d : Nat) (hd : 5 ≤ d) (F : FT) (G : GT) (tx : List Int32) (n b e cl : Nat) (te : TeS) (hn : n ≤ 160) (hF : F 1 1 = nI n) (hG : G 2 = tx) (he : e ≤ n) (hb : b ≤ e) : Kp DX5_word d [.ref 1] (rF F b e cl te) (rG G te) (some (.int (wordI tx b e))) := by
  have cw : ∀ i, i < 10 → Kp DX5_isWord (d - 1) [.ref 1, .ref (1000 + i)] (rF F b e cl te) (rG G te) (some (.int (bI (wIs tx b e i)))) := fun i hi => c_isWord _ (by omega) F G tx n b e cl te hn hF hG he hb i hi
  refine Kc.ofT [some (.ref 1)] pn_X5 (Nat.le_of_ble_eq_true rfl) rfl ?_
  refine T_al0 dX5_word_0 ?_
  refine T_ldcS (i := 0) rfl rfl dX5_word_1 ?_
  refine T_pV1 lX5_101 rfl (by decide) (cell_1 _ _) (cw 0 (by decide)) (by omega) (Nat.le_of_ble_eq_true rfl) dX5_word_3 ?_
  refine T_beq 11 dX5_word_6 (by decide) (fun h0 => ?_) (fun h0 => ?_)
  rotate_left
  · refine T_iconst (v := nI 0) dX5_word_9 rfl ?_
    refine T_iret rfl dX5_word_10 ?_
    exact ⟨by simp only [wordI, h0, Bool.false_eq_true, if_false, if_true], rfl, rfl⟩
  refine T_al0 dX5_word_11 ?_
  refine T_ldcS (i := 1) rfl rfl dX5_word_12 ?_
  refine T_pV1 lX5_101 rfl (by decide) (cell_1 _ _) (cw 1 (by decide)) (by omega) (Nat.le_of_ble_eq_true rfl) dX5_word_14 ?_
  refine T_beq 22 dX5_word_17 (by decide) (fun h1 => ?_) (fun h1 => ?_)
  rotate_left
  · refine T_iconst (v := nI 1) dX5_word_20 rfl ?_
    refine T_iret rfl dX5_word_21 ?_
    exact ⟨by simp only [wordI, h0, h1, Bool.false_eq_true, if_false, if_true], rfl, rfl⟩
  refine T_al0 dX5_word_22 ?_
  refine T_ldcS (i := 2) rfl rfl dX5_word_23 ?_
  refine T_pV1 lX5_101 rfl (by decide) (cell_1 _ _) (cw 2 (by decide)) (by omega) (Nat.le_of_ble_eq_true rfl) dX5_word_25 ?_
  refine T_beq 33 dX5_word_28 (by decide) (fun h2 => ?_) (fun h2 => ?_)
  rotate_left
  · refine T_iconst (v := nI 2) dX5_word_31 rfl ?_
    refine T_iret rfl dX5_word_32 ?_
    exact ⟨by simp only [wordI, h0, h1, h2, Bool.false_eq_true, if_false, if_true], rfl, rfl⟩
  refine T_al0 dX5_word_33 ?_
  refine T_ldcS (i := 3) rfl rfl dX5_word_34 ?_
  refine T_pV1 lX5_101 rfl (by decide) (cell_1 _ _) (cw 3 (by decide)) (by omega) (Nat.le_of_ble_eq_true rfl) dX5_word_36 ?_
  refine T_beq 44 dX5_word_39 (by decide) (fun h3 => ?_) (fun h3 => ?_)
  rotate_left
  · refine T_iconst (v := nI 3) dX5_word_42 rfl ?_
    refine T_iret rfl dX5_word_43 ?_
    exact ⟨by simp only [wordI, h0, h1, h2, h3, Bool.false_eq_true, if_false, if_true], rfl, rfl⟩
  refine T_al0 dX5_word_44 ?_
  refine T_ldcS (i := 4) rfl rfl dX5_word_45 ?_
  refine T_pV1 lX5_101 rfl (by decide) (cell_1 _ _) (cw 4 (by decide)) (by omega) (Nat.le_of_ble_eq_true rfl) dX5_word_47 ?_
  refine T_beq 55 dX5_word_50 (by decide) (fun h4 => ?_) (fun h4 => ?_)
  rotate_left
  · refine T_iconst (v := nI 4) dX5_word_53 rfl ?_
    refine T_iret rfl dX5_word_54 ?_
    exact ⟨by simp only [wordI, h0, h1, h2, h3, h4, Bool.false_eq_true, if_false, if_true], rfl, rfl⟩
  refine T_al0 dX5_word_55 ?_
  refine T_ldcS (i := 5) rfl rfl dX5_word_56 ?_
  refine T_pV1 lX5_101 rfl (by decide) (cell_1 _ _) (cw 5 (by decide)) (by omega) (Nat.le_of_ble_eq_true rfl) dX5_word_58 ?_
  refine T_beq 66 dX5_word_61 (by decide) (fun h5 => ?_) (fun h5 => ?_)
  rotate_left
  · refine T_iconst (v := nI 5) dX5_word_64 rfl ?_
    refine T_iret rfl dX5_word_65 ?_
    exact ⟨by simp only [wordI, h0, h1, h2, h3, h4, h5, Bool.false_eq_true, if_false, if_true], rfl, rfl⟩
  refine T_al0 dX5_word_66 ?_
  refine T_ldcS (i := 6) rfl rfl dX5_word_67 ?_
  refine T_pV1 lX5_101 rfl (by decide) (cell_1 _ _) (cw 6 (by decide)) (by omega) (Nat.le_of_ble_eq_true rfl) dX5_word_69 ?_
  refine T_beq 78 dX5_word_72 (by decide) (fun h6 => ?_) (fun h6 => ?_)
  rotate_left
  · refine T_bipush (v := nI 6) dX5_word_75 (by decide +kernel) ?_
    refine T_iret rfl dX5_word_77 ?_
    exact ⟨by simp only [wordI, h0, h1, h2, h3, h4, h5, h6, Bool.false_eq_true, if_false, if_true], rfl, rfl⟩
  refine T_al0 dX5_word_78 ?_
  refine T_ldcS (i := 7) rfl rfl dX5_word_79 ?_
  refine T_pV1 lX5_101 rfl (by decide) (cell_1 _ _) (cw 7 (by decide)) (by omega) (Nat.le_of_ble_eq_true rfl) dX5_word_81 ?_
  refine T_beq 90 dX5_word_84 (by decide) (fun h7 => ?_) (fun h7 => ?_)
  rotate_left
  · refine T_bipush (v := nI 7) dX5_word_87 (by decide +kernel) ?_
    refine T_iret rfl dX5_word_89 ?_
    exact ⟨by simp only [wordI, h0, h1, h2, h3, h4, h5, h6, h7, Bool.false_eq_true, if_false, if_true], rfl, rfl⟩
  refine T_al0 dX5_word_90 ?_
  refine T_ldcS (i := 8) rfl rfl dX5_word_91 ?_
  refine T_pV1 lX5_101 rfl (by decide) (cell_1 _ _) (cw 8 (by decide)) (by omega) (Nat.le_of_ble_eq_true rfl) dX5_word_93 ?_
  refine T_beq 102 dX5_word_96 (by decide) (fun h8 => ?_) (fun h8 => ?_)
  rotate_left
  · refine T_bipush (v := nI 8) dX5_word_99 (by decide +kernel) ?_
    refine T_iret rfl dX5_word_101 ?_
    exact ⟨by simp only [wordI, h0, h1, h2, h3, h4, h5, h6, h7, h8, Bool.false_eq_true, if_false, if_true], rfl, rfl⟩
  refine T_al0 dX5_word_102 ?_
  refine T_ldcS (i := 9) rfl rfl dX5_word_103 ?_
  refine T_pV1 lX5_101 rfl (by decide) (cell_1 _ _) (cw 9 (by decide)) (by omega) (Nat.le_of_ble_eq_true rfl) dX5_word_105 ?_
  refine T_beq 116 dX5_word_108 (by decide) (fun h9 => ?_) (fun h9 => ?_)
  rotate_left
  · refine T_bipush (v := nI 9) dX5_word_111 (by decide +kernel) ?_
    refine T_goto 117 dX5_word_113 (by decide) ?_
    refine T_iret rfl dX5_word_117 ?_
    exact ⟨by simp only [wordI, h0, h1, h2, h3, h4, h5, h6, h7, h8, h9, Bool.false_eq_true, if_false, if_true], rfl, rfl⟩
  refine T_iconst (v := -1) dX5_word_116 rfl ?_
  refine T_iret rfl dX5_word_117 ?_
  exact ⟨by simp only [wordI, h0, h1, h2, h3, h4, h5, h6, h7, h8, h9, Bool.false_eq_true, if_false], rfl, rfl⟩
