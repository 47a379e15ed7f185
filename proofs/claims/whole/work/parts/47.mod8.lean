theorem all_n : ∀ n, n < 9 → bitI (nI n) - nI 1 = nI (2 ^ n - 1) := by decide +kernel
theorem in_all {n : Nat} (hn : n ≤ 8) (s : Int32) : inL s.toInt64 0 (bitI (nI n) - nI 1).toInt64 = decide (s &&& ((bitI (nI n) - nI 1) ^^^ (-1)) = 0) := by
  have hp : 2 ^ n ≤ 2 ^ 8 := Nat.pow_le_pow_right (by decide) hn
  have hp0 : 0 < 2 ^ n := Nat.two_pow_pos n
  have mk : ∀ i, ((2 ^ n - 1) ^^^ (2 ^ 32 - 1)).testBit i = (decide (i < n) ^^ decide (i < 32)) := fun i => by
    rw [Nat.testBit_xor, Nat.testBit_two_pow_sub_one, Nat.testBit_two_pow_sub_one]
  rw [all_n n (by omega), show (0 : Int64) = (0 : Int32).toInt64 by decide +kernel, in_I, decide_eq_decide]
  constructor
  · intro ⟨h1, h2⟩
    obtain ⟨j, hj, rfl⟩ := nI_of (Int32.not_lt.mpr h1)
    have hj2 := (nI_leI hj (by omega)).mp h2
    have hz : j &&& ((2 ^ n - 1) ^^^ (2 ^ 32 - 1)) = 0 := by
      apply Nat.eq_of_testBit_eq
      intro i
      rw [Nat.testBit_and, mk i, Nat.zero_testBit]
      rcases Nat.lt_or_ge i n with q | q
      · rw [decide_eq_true q, decide_eq_true (show i < 32 by omega)]; simp
      · have h5 : 2 ^ n ≤ 2 ^ i := Nat.pow_le_pow_right (by decide) q
        rw [Nat.testBit_lt_two_pow (show j < 2 ^ i by omega)]; rfl
    rw [nI_dif, hz, nI_0]
  · intro h
    have hk : s.toBitVec.toNat < 2 ^ 32 := s.toBitVec.isLt
    rw [nI_any s, nI_dif] at h
    have hz : s.toBitVec.toNat &&& ((2 ^ n - 1) ^^^ (2 ^ 32 - 1)) = 0 := by
      have hle := Nat.and_le_left (n := s.toBitVec.toNat) (m := (2 ^ n - 1) ^^^ (2 ^ 32 - 1))
      have := congrArg (fun z : Int32 => z.toBitVec.toNat) h
      exact (pk_tn (by omega)).symm.trans this
    have hlt : s.toBitVec.toNat < 2 ^ n := by
      apply Nat.lt_pow_two_of_testBit
      intro i hi
      rcases Nat.lt_or_ge i 32 with q | q
      · have := congrArg (fun z => z.testBit i) hz
        simp only [Nat.testBit_and, Nat.zero_testBit, mk i] at this
        rw [decide_eq_false (show ¬ i < n by omega), decide_eq_true q] at this
        simpa using this
      · exact Nat.testBit_lt_two_pow (Nat.lt_of_lt_of_le hk (Nat.pow_le_pow_right (by decide) q))
    rw [nI_any s]
    exact ⟨nI_pos' (by omega), nI_le (by omega) (by omega)⟩
theorem m_whose (d : Nat) (hd : 20 ≤ d) (F : FT) (G : GT) (a : AS) (hM : MR a F G) (hI : InvA a) (s : Int32) : Kp DX7_whose d [.ref 89, .int s] F G (some (.int (r_whose a s))) := by
  obtain ⟨⟨e2, -⟩, -⟩ := id hM
  have hn : aN a ≤ 8 := hI.1.1.1
  refine Kc.ofT [some (.ref 89), some (.int s), none, none] pn_X7 (Nat.le_of_ble_eq_true rfl) rfl ?_
  refine T_il1 dX7_whose_0 ?_
  refine T_i2l dX7_whose_1 ?_
  refine T_lconst (v := 0) dX7_whose_2 (by decide +kernel) ?_
  refine T_iconst (v := nI 1) dX7_whose_3 rfl ?_
  refine T_al0 dX7_whose_4 ?_
  refine T_g7 gX7_74 (cell_89 _ _) rfl dX7_whose_5 ?_
  rw [e2]
  refine T_ishl dX7_whose_8 ?_
  refine T_iconst (v := nI 1) dX7_whose_9 rfl ?_
  refine T_isub dX7_whose_10 ?_
  refine T_i2l dX7_whose_11 ?_
  refine T_L (L' := [some (.ref 89), some (.int s), none, none]) rfl ?_
  refine T_pS3 lX7_78 (m_in _ _ _ _ _ _) (by omega) (Nat.le_of_ble_eq_true rfl) dX7_whose_12 ?_
  rw [show nI 1 <<< (nI (aN a) &&& 31) = bitI (nI (aN a)) from rfl, in_all hn]
  refine T_bne 21 dX7_whose_15 (by decide) (fun h1 => ?_) (fun h1 => ?_)
  · have h1 := of_decide_eq_true h1
    refine T_iconst (v := nI 0) dX7_whose_21 rfl ?_
    refine T_is2 dX7_whose_22 rfl ?_
    refine T_iconst (v := nI 0) dX7_whose_23 rfl ?_
    refine T_is3 dX7_whose_24 rfl ?_
    refine for_up (whoS a s) (aN a) (fun k y => T DX7_whose d 25 [some (.ref 89), some (.int s), some (.int y), some (.int (nI k))] [] F G _) ?_ (aN a) 0 (nI 0) (by omega) ?_
    · intro k y hk h
      refine T_il3 dX7_whose_25 ?_
      refine T_al0 dX7_whose_26 ?_
      refine T_g7 gX7_74 (cell_89 _ _) rfl dX7_whose_27 ?_
      rw [e2]
      refine T_nge_f 58 dX7_whose_30 (by decide) (by omega) (by omega) (by omega) ?_
      refine T_il2 dX7_whose_33 ?_
      refine T_al0 dX7_whose_34 ?_
      refine T_il3 dX7_whose_35 ?_
      refine T_pV1 lX7_186 rfl (by decide) (cell_89 _ _) (m_fallA _ (by omega) F G a hM hI k hk) (by omega) (Nat.le_of_ble_eq_true rfl) dX7_whose_36 ?_
      refine T_il1 dX7_whose_39 ?_
      refine T_icmp_ne 49 dX7_whose_40 (by decide) (fun h2 => ?_) (fun h2 => ?_)
      · rw [whoS, if_neg h2] at h
        refine T_iconst (v := nI 0) dX7_whose_49 rfl ?_
        refine T_ior dX7_whose_50 ?_
        rw [or_0]
        refine T_is2 dX7_whose_51 rfl ?_
        refine T_ii3 dX7_whose_52 (by first | exact nI_inc _ | exact nI_dec _ | rfl) rfl ?_
        refine T_goto 25 dX7_whose_55 (by decide) ?_
        exact h
      · rw [whoS, if_pos h2] at h
        refine T_iconst (v := nI 1) dX7_whose_43 rfl ?_
        refine T_il3 dX7_whose_44 ?_
        refine T_ishl dX7_whose_45 ?_
        refine T_goto 50 dX7_whose_46 (by decide) ?_
        refine T_ior dX7_whose_50 ?_
        refine T_is2 dX7_whose_51 rfl ?_
        refine T_ii3 dX7_whose_52 (by first | exact nI_inc _ | exact nI_dec _ | rfl) rfl ?_
        refine T_goto 25 dX7_whose_55 (by decide) ?_
        exact h
    · refine T_il3 dX7_whose_25 ?_
      refine T_al0 dX7_whose_26 ?_
      refine T_g7 gX7_74 (cell_89 _ _) rfl dX7_whose_27 ?_
      rw [e2]
      refine T_nge_t 58 dX7_whose_30 (by decide) (by omega) (by omega) (by omega) ?_
      refine T_il2 dX7_whose_58 ?_
      refine T_iret rfl dX7_whose_59 ?_
      exact ⟨by rw [r_whose, if_pos h1], rfl, rfl⟩
  · have h1 := of_decide_eq_false h1
    refine T_bipush (v := -2) dX7_whose_18 (by decide +kernel) ?_
    refine T_iret rfl dX7_whose_20 ?_
    exact ⟨by rw [r_whose, if_neg h1], rfl, rfl⟩
theorem m_fourth (d : Nat) (hd : 20 ≤ d) (F : FT) (G : GT) (a : AS) (hM : MR a F G) (hI : InvA a) (w : Int32) : Kp DX7_fourth d [.ref 89, .int w] F G (some (.int (r_fourth a w))) := by
  obtain ⟨⟨e2, -⟩, -⟩ := id hM
  have hn : aN a ≤ 8 := hI.1.1.1
  refine Kc.ofT [some (.ref 89), some (.int w), none, none, none, none] pn_X7 (Nat.le_of_ble_eq_true rfl) rfl ?_
  refine T_il1 dX7_fourth_0 ?_
  refine T_i2l dX7_fourth_1 ?_
  refine T_lconst (v := 0) dX7_fourth_2 (by decide +kernel) ?_
  refine T_lconst (v := 1) dX7_fourth_3 (by decide +kernel) ?_
  refine T_pS3 lX7_78 (m_in _ _ _ _ _ _) (by omega) (Nat.le_of_ble_eq_true rfl) dX7_fourth_4 ?_
  rw [in_c (lo := 0) (hi := nI 1) (by decide +kernel) (by decide +kernel)]
  refine T_bne 13 dX7_fourth_7 (by decide) (fun h1 => ?_) (fun h1 => ?_)
  · have h1 := nt_t h1
    refine T_iconst (v := -1) dX7_fourth_13 rfl ?_
    refine T_is2 dX7_fourth_14 rfl ?_
    refine T_iconst (v := -1) dX7_fourth_15 rfl ?_
    refine T_is3 dX7_fourth_16 rfl ?_
    refine T_iconst (v := nI 0) dX7_fourth_17 rfl ?_
    refine T_is4 dX7_fourth_18 rfl ?_
    suffices hloop : ∀ o : Option Value, T DX7_fourth d 20 [some (.ref 89), some (.int w), some (.int (-1)), some (.int (-1)), some (.int (nI 0)), o] [] F G (fun v F' G' => v = some (.int (r_fourth a w)) ∧ F' = F ∧ G' = G) from hloop none
    refine for_inv (fouS a) (aN a) (fun k y => ∀ o : Option Value, T DX7_fourth d 20 [some (.ref 89), some (.int w), some (.int y.1), some (.int y.2), some (.int (nI k)), o] [] F G _) (fun _ y => y.1 = -1 ∨ ∃ i, i < 8 ∧ y.1 = nI i) (fun k y hk hy => ?_) ?_ (aN a) 0 (-1, -1) (by omega) (Or.inl rfl) ?_
    · unfold fouS
      split
      · exact Or.inr ⟨k, by omega, rfl⟩
      · exact hy
    · intro k y hk hy h o
      refine T_il4 dX7_fourth_20 ?_
      refine T_al0 dX7_fourth_22 ?_
      refine T_g7 gX7_74 (cell_89 _ _) rfl dX7_fourth_23 ?_
      rw [e2]
      refine T_nge_f 72 dX7_fourth_26 (by decide) (by omega) (by omega) (by omega) ?_
      refine T_al0 dX7_fourth_29 ?_
      refine T_il4 dX7_fourth_30 ?_
      refine T_pV1 lX7_186 rfl (by decide) (cell_89 _ _) (m_fallA _ (by omega) F G a hM hI k hk) (by omega) (Nat.le_of_ble_eq_true rfl) dX7_fourth_32 ?_
      refine T_is5 dX7_fourth_35 rfl ?_
      have cL := m_lossA (d - 1) (by omega) F G a hM hI k hk
      have keep : ¬ (¬ fallA a k = 0 ∧ (y.1 = -1 ∨ lossA a k < y.2)) → T DX7_fourth d 66 [some (.ref 89), some (.int w), some (.int y.1), some (.int y.2), some (.int (nI k)), some (.int (fallA a k))] [] F G (fun v F' G' => v = some (.int (r_fourth a w)) ∧ F' = F ∧ G' = G) := by
        intro hc
        rw [fouS, if_neg hc] at h
        refine T_ii4 dX7_fourth_66 (by first | exact nI_inc _ | exact nI_dec _ | rfl) rfl ?_
        refine T_goto 20 dX7_fourth_69 (by decide) ?_
        exact h _
      have new : (¬ fallA a k = 0 ∧ (y.1 = -1 ∨ lossA a k < y.2)) → T DX7_fourth d 56 [some (.ref 89), some (.int w), some (.int y.1), some (.int y.2), some (.int (nI k)), some (.int (fallA a k))] [] F G (fun v F' G' => v = some (.int (r_fourth a w)) ∧ F' = F ∧ G' = G) := by
        intro hc
        rw [fouS, if_pos hc] at h
        refine T_il4 dX7_fourth_56 ?_
        refine T_is2 dX7_fourth_58 rfl ?_
        refine T_al0 dX7_fourth_59 ?_
        refine T_il5 dX7_fourth_60 ?_
        refine T_pV1 lX7_189 rfl (by decide) (cell_89 _ _) cL (by omega) (Nat.le_of_ble_eq_true rfl) dX7_fourth_62 ?_
        refine T_is3 dX7_fourth_65 rfl ?_
        refine T_ii4 dX7_fourth_66 (by first | exact nI_inc _ | exact nI_dec _ | rfl) rfl ?_
        refine T_goto 20 dX7_fourth_69 (by decide) ?_
        exact h _
      refine T_il5 dX7_fourth_37 ?_
      refine T_if_eq 66 dX7_fourth_39 (by decide) (fun h2 => ?_) (fun h2 => ?_)
      · exact keep (fun z => z.1 h2)
      · refine T_il2 dX7_fourth_42 ?_
        refine T_if_lt 56 dX7_fourth_43 (by decide) (fun h3 => ?_) (fun h3 => ?_)
        · rcases hy with e | ⟨i, hi, e⟩
          · exact new ⟨h2, Or.inl e⟩
          · rw [e] at h3
            exact absurd h3 (nI_pos (by omega))
        · have hne : ¬ y.1 = -1 := fun e => h3 (by rw [e]; decide)
          refine T_al0 dX7_fourth_46 ?_
          refine T_il5 dX7_fourth_47 ?_
          refine T_pV1 lX7_189 rfl (by decide) (cell_89 _ _) cL (by omega) (Nat.le_of_ble_eq_true rfl) dX7_fourth_49 ?_
          refine T_il3 dX7_fourth_52 ?_
          refine T_icmp_ge 66 dX7_fourth_53 (by decide) (fun h4 => ?_) (fun h4 => ?_)
          · exact keep (fun z => z.2.elim hne (Int32.not_lt.mpr h4))
          · exact new ⟨h2, Or.inr (Int32.not_le.mp h4)⟩
    · intro _ o
      refine T_il4 dX7_fourth_20 ?_
      refine T_al0 dX7_fourth_22 ?_
      refine T_g7 gX7_74 (cell_89 _ _) rfl dX7_fourth_23 ?_
      rw [e2]
      refine T_nge_t 72 dX7_fourth_26 (by decide) (by omega) (by omega) (by omega) ?_
      refine T_il1 dX7_fourth_72 ?_
      refine T_if_ne 80 dX7_fourth_73 (by decide) (fun h2 => ?_) (fun h2 => ?_)
      · refine T_il3 dX7_fourth_80 ?_
        refine T_iret rfl dX7_fourth_81 ?_
        exact ⟨by rw [r_fourth, if_neg h1, if_neg h2], rfl, rfl⟩
      · refine T_il2 dX7_fourth_76 ?_
        refine T_goto 81 dX7_fourth_77 (by decide) ?_
        refine T_iret rfl dX7_fourth_81 ?_
        exact ⟨by rw [r_fourth, if_neg h1, if_pos h2], rfl, rfl⟩
  · have h1 := nt_f h1
    refine T_bipush (v := -3) dX7_fourth_10 (by decide +kernel) ?_
    refine T_iret rfl dX7_fourth_12 ?_
    exact ⟨by rw [r_fourth, if_pos h1], rfl, rfl⟩
theorem pop_z : pop8 (sv 0) = 0 := by decide +kernel
theorem bit_rest {l : List Int32} {n : Nat} (hz : ∀ q, n ≤ q → q < 8 → l.getD q 0 = 0) : ∀ m, n + m ≤ 8 → iter (bitS l) (n + m) 0 0 = iter (bitS l) n 0 0 := by
  intro m
  induction m with
  | zero => intro _; rfl
  | succ m ih =>
    intro h
    rw [show n + (m + 1) = (n + m) + 1 by omega, iter_succ, ih (by omega), bitS, Nat.zero_add, hz (n + m) (by omega) (by omega), pop_z]
    rfl
def cnS (kn ov : List Int32) : Nat → Nat × Nat → Nat × Nat := fun k p => (bitS kn k p.1, bitS ov k p.2)
theorem cnS_it (kn ov : List Int32) : ∀ n k p, iter (cnS kn ov) n k p = (iter (bitS kn) n k p.1, iter (bitS ov) n k p.2) := by
  intro n
  induction n with
  | zero => intro k p; rfl
  | succ n ih => intro k p; rw [iter, ih]; rfl
theorem m_count (d : Nat) (hd : 20 ≤ d) (F : FT) (G : GT) (a : AS) (hM : MR a F G) (hI : InvA a) (w : Int32) : Kp DX7_count d [.ref 89, .int w] F G (some (.int (r_count a w))) := by
  obtain ⟨⟨e2, e5, e9, e23⟩, -, ⟨g95, -⟩, -⟩ := id hM
  have hn : aN a ≤ 8 := hI.1.1.1
  obtain ⟨l1, l2, l3, l4⟩ := hI.2.2.1.1
  obtain ⟨ho, hk, -, -⟩ := hI.2.2.1.2.1
  have hz := hI.2.2.1.2.2.1
  refine Kc.ofT [some (.ref 89), some (.int w), none, none, none] pn_X7 (Nat.le_of_ble_eq_true rfl) rfl ?_
  refine T_iconst (v := nI 0) dX7_count_0 rfl ?_
  refine T_is2 dX7_count_1 rfl ?_
  refine T_iconst (v := nI 0) dX7_count_2 rfl ?_
  refine T_is3 dX7_count_3 rfl ?_
  refine T_iconst (v := nI 0) dX7_count_4 rfl ?_
  refine T_is4 dX7_count_5 rfl ?_
  refine for_up (cnS (lKn (aNow a)) (lOv (aNow a))) (aN a) (fun k y => T DX7_count d 7 [some (.ref 89), some (.int w), some (.int (nI y.1)), some (.int (nI y.2)), some (.int (nI k))] [] F G _) ?_ (aN a) 0 (0, 0) (by omega) ?_
  · intro k y hkn h
    obtain ⟨m1, hm1, em1⟩ := hk k
    obtain ⟨m2, hm2, em2⟩ := ho k
    rw [cnS, bitS, bitS, em1, em2, sv_nI (by omega), sv_nI (by omega)] at h
    refine T_il4 dX7_count_7 ?_
    refine T_al0 dX7_count_9 ?_
    refine T_g7 gX7_74 (cell_89 _ _) rfl dX7_count_10 ?_
    rw [e2]
    refine T_nge_f 54 dX7_count_13 (by decide) (by omega) (by omega) (by omega) ?_
    refine T_il2 dX7_count_16 ?_
    refine T_al0 dX7_count_17 ?_
    refine T_g7 gX7_25 (cell_89 _ _) rfl dX7_count_18 ?_
    refine T_bipush (v := nI 32) dX7_count_21 (by decide +kernel) ?_
    refine T_il4 dX7_count_23 ?_
    first | refine T_iaddN dX7_count_25 ?_ | refine T_iadd dX7_count_25 ?_
    refine T_aldN rfl (show _ < 42 by omega) dX7_count_26 ?_
    rw [g95, enc_kn l1 l2 l3 l4 (by omega), em1]
    refine T_pS1 lX7_198 (m_ones _ _ _ _ (by assumption)) (by omega) (Nat.le_of_ble_eq_true rfl) dX7_count_27 ?_
    first | refine T_iaddN dX7_count_30 ?_ | refine T_iadd dX7_count_30 ?_
    refine T_is2 dX7_count_31 rfl ?_
    refine T_il3 dX7_count_32 ?_
    refine T_al0 dX7_count_33 ?_
    refine T_g7 gX7_25 (cell_89 _ _) rfl dX7_count_34 ?_
    refine T_bipush (v := nI 24) dX7_count_37 (by decide +kernel) ?_
    refine T_il4 dX7_count_39 ?_
    first | refine T_iaddN dX7_count_41 ?_ | refine T_iadd dX7_count_41 ?_
    refine T_aldN rfl (show _ < 42 by omega) dX7_count_42 ?_
    rw [g95, enc_ov l1 l2 l3 (by omega), em2]
    refine T_pS1 lX7_198 (m_ones _ _ _ _ (by assumption)) (by omega) (Nat.le_of_ble_eq_true rfl) dX7_count_43 ?_
    first | refine T_iaddN dX7_count_46 ?_ | refine T_iadd dX7_count_46 ?_
    refine T_is3 dX7_count_47 rfl ?_
    refine T_ii4 dX7_count_48 (by first | exact nI_inc _ | exact nI_dec _ | rfl) rfl ?_
    refine T_goto 7 dX7_count_51 (by decide) ?_
    exact h
  · rw [cnS_it]
    have f1 : iter (bitS (lKn (aNow a))) 8 0 0 = iter (bitS (lKn (aNow a))) (aN a) 0 0 := by
      have := bit_rest (fun q h1 h2 => (hz q h1 h2).2) (8 - aN a) (by omega)
      rw [show aN a + (8 - aN a) = 8 by omega] at this
      exact this
    have f2 : iter (bitS (lOv (aNow a))) 8 0 0 = iter (bitS (lOv (aNow a))) (aN a) 0 0 := by
      have := bit_rest (fun q h1 h2 => (hz q h1 h2).1) (8 - aN a) (by omega)
      rw [show aN a + (8 - aN a) = 8 by omega] at this
      exact this
    rw [← f1, ← f2]
    refine T_il4 dX7_count_7 ?_
    refine T_al0 dX7_count_9 ?_
    refine T_g7 gX7_74 (cell_89 _ _) rfl dX7_count_10 ?_
    rw [e2]
    refine T_nge_t 54 dX7_count_13 (by decide) (by omega) (by omega) (by omega) ?_
    refine T_il1 dX7_count_54 ?_
    cases hw : swN 8 w with
    | none =>
      refine T_tableOut 151 dX7_count_55 (sw_out (by decide) hw) (by decide) ?_
      refine T_bipush (v := -3) dX7_count_151 (by decide +kernel) ?_
      refine T_iret rfl dX7_count_153 ?_
      exact ⟨by rw [r_count, hw], rfl, rfl⟩
    | some j =>
      obtain ⟨hj, rfl⟩ := sw_in (by decide) hw
      match j, hj with
      | 0, _ =>
        refine T_tableIn 104 dX7_count_55 (by decide +kernel) (by decide +kernel) (off := 49) (by decide +kernel) (by decide) ?_
        refine T_al0 dX7_count_104 ?_
        refine T_g7 gX7_74 (cell_89 _ _) rfl dX7_count_105 ?_
        refine T_iret rfl dX7_count_108 ?_
        exact ⟨by rw [r_count, hw, e2]; rfl, rfl, rfl⟩
      | 1, _ =>
        refine T_tableIn 109 dX7_count_55 (by decide +kernel) (by decide +kernel) (off := 54) (by decide +kernel) (by decide) ?_
        refine T_al0 dX7_count_109 ?_
        refine T_g7 gX7_156 (cell_89 _ _) rfl dX7_count_110 ?_
        refine T_iret rfl dX7_count_113 ?_
        exact ⟨by rw [r_count, hw, e5]; rfl, rfl, rfl⟩
      | 2, _ =>
        refine T_tableIn 114 dX7_count_55 (by decide +kernel) (by decide +kernel) (off := 59) (by decide +kernel) (by decide) ?_
        refine T_al0 dX7_count_114 ?_
        refine T_g7 gX7_25 (cell_89 _ _) rfl dX7_count_115 ?_
        refine T_bipush (v := nI 40) dX7_count_118 (by decide +kernel) ?_
        refine T_aldN rfl (show _ < 42 by omega) dX7_count_120 ?_
        refine T_iret rfl dX7_count_121 ?_
        exact ⟨by rw [r_count, hw, g95, (enc_day l1 l2 l3 l4).1]; rfl, rfl, rfl⟩
      | 3, _ =>
        refine T_tableIn 122 dX7_count_55 (by decide +kernel) (by decide +kernel) (off := 67) (by decide +kernel) (by decide) ?_
        refine T_al0 dX7_count_122 ?_
        refine T_pV0 lX7_180 rfl (by decide) (cell_89 _ _) (m_wholesA _ (by omega) F G a hM hI) (by omega) (Nat.le_of_ble_eq_true rfl) dX7_count_123 ?_
        refine T_iret rfl dX7_count_126 ?_
        exact ⟨by rw [r_count, hw]; rfl, rfl, rfl⟩
      | 4, _ =>
        refine T_tableIn 127 dX7_count_55 (by decide +kernel) (by decide +kernel) (off := 72) (by decide +kernel) (by decide) ?_
        refine T_al0 dX7_count_127 ?_
        refine T_g7 gX7_25 (cell_89 _ _) rfl dX7_count_128 ?_
        refine T_bipush (v := nI 41) dX7_count_131 (by decide +kernel) ?_
        refine T_aldN rfl (show _ < 42 by omega) dX7_count_133 ?_
        refine T_iret rfl dX7_count_134 ?_
        exact ⟨by rw [r_count, hw, g95, (enc_day l1 l2 l3 l4).2]; rfl, rfl, rfl⟩
      | 5, _ =>
        refine T_tableIn 135 dX7_count_55 (by decide +kernel) (by decide +kernel) (off := 80) (by decide +kernel) (by decide) ?_
        refine T_il2 dX7_count_135 ?_
        refine T_iconst (v := nI 2) dX7_count_136 rfl ?_
        refine T_idiv dX7_count_137 (by decide) ?_
        refine T_iret rfl dX7_count_138 ?_
        exact ⟨by rw [r_count, hw]; rfl, rfl, rfl⟩
      | 6, _ =>
        refine T_tableIn 139 dX7_count_55 (by decide +kernel) (by decide +kernel) (off := 84) (by decide +kernel) (by decide) ?_
        refine T_il3 dX7_count_139 ?_
        refine T_iret rfl dX7_count_140 ?_
        exact ⟨by rw [r_count, hw]; rfl, rfl, rfl⟩
      | 7, _ =>
        refine T_tableIn 141 dX7_count_55 (by decide +kernel) (by decide +kernel) (off := 86) (by decide +kernel) (by decide) ?_
        refine T_al0 dX7_count_141 ?_
        refine T_g7 gX7_166 (cell_89 _ _) rfl dX7_count_142 ?_
        refine T_iret rfl dX7_count_145 ?_
        exact ⟨by rw [r_count, hw, e23]; rfl, rfl, rfl⟩
      | 8, _ =>
        refine T_tableIn 146 dX7_count_55 (by decide +kernel) (by decide +kernel) (off := 91) (by decide +kernel) (by decide) ?_
        refine T_al0 dX7_count_146 ?_
        refine T_g7 gX7_84 (cell_89 _ _) rfl dX7_count_147 ?_
        refine T_iret rfl dX7_count_150 ?_
        exact ⟨by rw [r_count, hw, e9]; rfl, rfl, rfl⟩
      | j + 9, hj => exact absurd hj (by omega)
theorem m_write (d : Nat) (hd : 20 ≤ d) (F : FT) (G : GT) (a : AS) (hM : MR a F G) (hI : InvA a) (x : Int32) : Kc DX7_write d [.ref 89, .int x] F G (MP (s_write a x) F G) := by
  obtain ⟨⟨e2, e5, e9, e23⟩, hg, ⟨g95, g96⟩, hP, hK⟩ := id hM
  have hl : aLen a ≤ 160 := hI.2.1.2
  refine Kc.ofT [some (.ref 89), some (.int x)] pn_X7 (Nat.le_of_ble_eq_true rfl) rfl ?_
  refine T_il1 dX7_write_0 ?_
  refine T_i2l dX7_write_1 ?_
  refine T_lconst (v := 0) dX7_write_2 (by decide +kernel) ?_
  refine T_ldc2 kX7_82 dX7_write_3 ?_
  refine T_pS3 lX7_78 (m_in _ _ _ _ _ _) (by omega) (Nat.le_of_ble_eq_true rfl) dX7_write_6 ?_
  rw [in_c (lo := 0) (hi := nI 255) (by decide +kernel) (by decide +kernel)]
  refine T_bne 15 dX7_write_9 (by decide) (fun h1 => ?_) (fun h1 => ?_)
  · have h1 := nt_t h1
    refine T_al0 dX7_write_15 ?_
    refine T_g7 gX7_84 (cell_89 _ _) rfl dX7_write_16 ?_
    rw [e9]
    refine T_sipush (v := nI 160) dX7_write_19 (by decide +kernel) ?_
    refine T_nne 28 dX7_write_22 (by decide) (by omega) (by omega) (fun h2 => ?_) (fun h2 => ?_)
    · refine T_al0 dX7_write_28 ?_
      refine T_g7 gX7_28 (cell_89 _ _) rfl dX7_write_29 ?_
      refine T_al0 dX7_write_32 ?_
      refine T_g7 gX7_84 (cell_89 _ _) rfl dX7_write_33 ?_
      rw [e9]
      refine T_il1 dX7_write_36 ?_
      refine T_astN rfl (show _ < 160 by omega) dX7_write_37 ?_
      refine T_al0 dX7_write_38 ?_
      refine T_dup dX7_write_39 rfl ?_
      refine T_g7 gX7_84 (cell_89 _ _) rfl dX7_write_40 ?_
      rw [e9]
      refine T_iconst (v := nI 1) dX7_write_43 rfl ?_
      first | refine T_iaddN dX7_write_44 ?_ | refine T_iadd dX7_write_44 ?_
      refine T_put7_9 pX7_84 dX7_write_45 ?_
      refine T_al0 dX7_write_48 ?_
      refine T_g7 gX7_84 (cell_89 _ _) rfl dX7_write_49 ?_
      rw [u2_s]
      refine T_iret rfl dX7_write_52 ?_
      rw [s_write, if_neg h1, if_pos (by omega)]
      refine ⟨rfl, ⟨⟨?_, ?_, u2_s _ _ _ _, ?_⟩, hg, ⟨g95, ?_⟩, hP, hK⟩, FrX.rf.u2.u1 (by decide)⟩
      · rw [u2_f _ _ (by decide)]; exact e2
      · rw [u2_f _ _ (by decide)]; exact e5
      · rw [u2_f _ _ (by decide)]; exact e23
      · rw [u1_s, g96]
    · refine T_bipush (v := -5) dX7_write_25 (by decide +kernel) ?_
      refine T_iret rfl dX7_write_27 ?_
      rw [s_write, if_neg h1, if_neg (by omega)]
      exact MP.rf hM
  · have h1 := nt_f h1
    refine T_bipush (v := -3) dX7_write_12 (by decide +kernel) ?_
    refine T_iret rfl dX7_write_14 ?_
    rw [s_write, if_pos h1]
    exact MP.rf hM
theorem m_erase (d : Nat) (F : FT) (G : GT) (a : AS) (hM : MR a F G) : Kc DX7_erase d [.ref 89] F G (MP (s_erase a) F G) := by
  obtain ⟨⟨e2, e5, e9, e23⟩, hg, ⟨g95, g96⟩, hP, hK⟩ := id hM
  refine Kc.ofT [some (.ref 89), none] pn_X7 (Nat.le_of_ble_eq_true rfl) rfl ?_
  refine T_al0 dX7_erase_0 ?_
  refine T_g7 gX7_84 (cell_89 _ _) rfl dX7_erase_1 ?_
  rw [e9]
  refine T_is1 dX7_erase_4 rfl ?_
  refine T_al0 dX7_erase_5 ?_
  refine T_iconst (v := nI 0) dX7_erase_6 rfl ?_
  refine T_put7_9 pX7_84 dX7_erase_7 ?_
  refine T_il1 dX7_erase_10 ?_
  refine T_iret rfl dX7_erase_11 ?_
  refine ⟨rfl, ⟨⟨?_, ?_, u2_s _ _ _ _, ?_⟩, hg, ⟨g95, g96⟩, hP, hK⟩, FrX.rf.u2⟩
  · rw [u2_f _ _ (by decide)]; exact e2
  · rw [u2_f _ _ (by decide)]; exact e5
  · rw [u2_f _ _ (by decide)]; exact e23
