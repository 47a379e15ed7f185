theorem m_number (d : Nat) (hd : 3 ≤ d) (F : FT) (G : GT) (tx : List Int32) (n pl tk : Nat) (vl : Int32) (bg cl : Nat) (te : TeS) (hn : n ≤ 160) (hF : F 89 9 = nI n) (hG : G 96 = tx) (he : pl ≤ n) (lo hi : Int32) (hhi : hi < nI 999) : Kc DX7_number d [.ref 89, .int lo, .int hi] (qF F pl tk vl bg cl te) G (fun v F' G' => v = some (.int (numI tx n (stepP tx n pl).1 (stepP tx n pl).2 lo hi)) ∧ F' = qF F (stepP tx n pl).2 (tkN tx n (stepP tx n pl).1) (tvI tx n (stepP tx n pl).1 (stepP tx n pl).2) (stepP tx n pl).1 cl te ∧ G' = G) := by
  refine Kc.ofT [some (.ref 89), some (.int lo), some (.int hi)] pn_X7 (Nat.le_of_ble_eq_true rfl) rfl ?_
  refine T_al0 dX7_number_0 ?_
  refine T_cV0 lX7_121 rfl (by decide) (cell_89 _ _) (m_nextToken _ (by omega) F G tx n pl tk vl bg cl te hn hF hG he) (by omega) (Nat.le_of_ble_eq_true rfl) dX7_number_1 (fun v F' G' hP => ?_)
  obtain ⟨rfl, rfl, rfl⟩ := hP
  generalize (stepP tx n pl).1 = b
  generalize (stepP tx n pl).2 = e
  have h4 : tkN tx n b < 4 := by
    unfold tkN
    have := srt_lt (tx.getD b 0)
    split <;> omega
  refine T_al0 dX7_number_4 ?_
  refine T_g7 gX7_100 (cell_89 _ _) rfl dX7_number_5 ?_
  rw [q11]
  refine T_iconst (v := nI 2) dX7_number_8 rfl ?_
  refine T_nne 34 dX7_number_9 (by decide) (by omega) (by omega) (fun h1 => ?_) (fun h1 => ?_)
  · refine T_iconst (v := -1) dX7_number_34 rfl ?_
    refine T_iret rfl dX7_number_35 ?_
    refine ⟨?_, rfl, rfl⟩
    rw [numI, if_pos (by
      unfold tkN at h1
      split at h1
      · rename_i q; exact Or.inl q
      · exact Or.inr (Or.inr h1))]
  · have hb : ¬ n ≤ b ∧ srt (tx.getD b 0) = 2 := by
      unfold tkN at h1
      split at h1
      · cases h1
      · rename_i q; exact ⟨q, h1⟩
    refine T_al0 dX7_number_12 ?_
    refine T_g7 gX7_97 (cell_89 _ _) rfl dX7_number_13 ?_
    rw [q12]
    refine T_i2l dX7_number_16 ?_
    refine T_il1 dX7_number_17 ?_
    refine T_i2l dX7_number_18 ?_
    refine T_il2 dX7_number_19 ?_
    refine T_i2l dX7_number_20 ?_
    refine T_pS3 lX7_78 (m_in _ _ _ _ _ _) (by omega) (Nat.le_of_ble_eq_true rfl) dX7_number_21 ?_
    rw [in_I]
    have hv : tvI tx n b e = if 2 < e - b then nI 999 else numV tx b e := by rw [tvI, if_neg hb.1, if_pos hb.2]
    refine T_beq 34 dX7_number_24 (by decide) (fun h2 => ?_) (fun h2 => ?_)
    · have h2 := of_decide_eq_false h2
      refine T_iconst (v := -1) dX7_number_34 rfl ?_
      refine T_iret rfl dX7_number_35 ?_
      refine ⟨?_, rfl, rfl⟩
      rw [numI]
      by_cases h3 : 2 < e - b
      · rw [if_pos (Or.inr (Or.inl h3))]
      · rw [if_neg (fun z => z.elim hb.1 (fun z => z.elim h3 (fun z => z hb.2)))]
        rw [hv, if_neg h3] at h2
        rw [if_pos (by
          by_cases q : numV tx b e < lo
          · exact Or.inl q
          · exact Or.inr (Int32.not_le.mp (fun z => h2 ⟨Int32.not_lt.mp q, z⟩)))]
    · have h2 := of_decide_eq_true h2
      have h3 : ¬ 2 < e - b := fun z => by
        rw [hv, if_pos z] at h2
        exact absurd hhi (Int32.not_lt.mpr h2.2)
      rw [hv, if_neg h3] at h2
      refine T_al0 dX7_number_27 ?_
      refine T_g7 gX7_97 (cell_89 _ _) rfl dX7_number_28 ?_
      rw [q12, hv, if_neg h3]
      refine T_goto 35 dX7_number_31 (by decide) ?_
      refine T_iret rfl dX7_number_35 ?_
      refine ⟨?_, rfl, rfl⟩
      rw [numI, if_neg (fun z => z.elim hb.1 (fun z => z.elim h3 (fun z => z hb.2))), if_neg (fun z => z.elim (Int32.not_lt.mpr h2.1) (Int32.not_lt.mpr h2.2))]
def wS (tx : List Int32) : Nat → Int64 → Int64 := fun k w => 27 * w + (tx.getD k 0).toInt64 - 97 + 1
def wvI (tx : List Int32) (tk b e : Nat) : Int64 := if tk = 1 then iter (wS tx) (min (e - b) 9) b 0 else 0
theorem m_wordOf (d : Nat) (F : FT) (G : GT) (tx : List Int32) (n e tk : Nat) (vl : Int32) (b cl : Nat) (te : TeS) (hn : n ≤ 160) (hG : G 96 = tx) (he : e ≤ n) (hb : b ≤ e) (ht : tk < 4) : Kp DX7_wordOf d [.ref 89] (qF F e tk vl b cl te) G (some (.long (wvI tx tk b e))) := by
  refine Kc.ofT [some (.ref 89), none, none, none] pn_X7 (Nat.le_of_ble_eq_true rfl) rfl ?_
  refine T_lconst (v := 0) dX7_wordOf_0 (by decide +kernel) ?_
  refine T_ls1 dX7_wordOf_1 rfl ?_
  refine T_al0 dX7_wordOf_2 ?_
  refine T_g7 gX7_94 (cell_89 _ _) rfl dX7_wordOf_3 ?_
  rw [q13]
  refine T_is3 dX7_wordOf_6 rfl ?_
  have fin : ∀ (w : Int64) (k : Nat), w = iter (wS tx) (min (e - b) 9) b 0 → T DX7_wordOf d 52 [some (.ref 89), some (.long w), none, some (.int (nI k))] [] (qF F e tk vl b cl te) G (fun v F' G' => v = some (.long (wvI tx tk b e)) ∧ F' = qF F e tk vl b cl te ∧ G' = G) := by
    intro w k hw
    refine T_al0 dX7_wordOf_52 ?_
    refine T_g7 gX7_100 (cell_89 _ _) rfl dX7_wordOf_53 ?_
    rw [q11]
    refine T_iconst (v := nI 1) dX7_wordOf_56 rfl ?_
    refine T_nne 64 dX7_wordOf_57 (by decide) (by omega) (by omega) (fun h1 => ?_) (fun h1 => ?_)
    · refine T_lconst (v := 0) dX7_wordOf_64 (by decide +kernel) ?_
      refine T_lret rfl dX7_wordOf_65 ?_
      exact ⟨by rw [wvI, if_neg h1], rfl, rfl⟩
    · refine T_ll1 dX7_wordOf_60 ?_
      refine T_goto 65 dX7_wordOf_61 (by decide) ?_
      refine T_lret rfl dX7_wordOf_65 ?_
      exact ⟨by rw [wvI, if_pos h1, hw], rfl, rfl⟩
  refine for_up (wS tx) (b + min (e - b) 9) (fun k w => T DX7_wordOf d 7 [some (.ref 89), some (.long w), none, some (.int (nI k))] [] (qF F e tk vl b cl te) G (fun v F' G' => v = some (.long (wvI tx tk b e)) ∧ F' = qF F e tk vl b cl te ∧ G' = G)) ?_ (min (e - b) 9) b 0 rfl ?_
  · intro k w hk h
    refine T_il3 dX7_wordOf_7 ?_
    refine T_al0 dX7_wordOf_8 ?_
    refine T_g7 gX7_87 (cell_89 _ _) rfl dX7_wordOf_9 ?_
    rw [q10]
    refine T_nge_f 52 dX7_wordOf_12 (by decide) (by omega) (by omega) (by omega) ?_
    refine T_il3 dX7_wordOf_15 ?_
    refine T_al0 dX7_wordOf_16 ?_
    refine T_g7 gX7_94 (cell_89 _ _) rfl dX7_wordOf_17 ?_
    rw [q13]
    refine T_bipush (v := nI 9) dX7_wordOf_20 (by decide +kernel) ?_
    first | refine T_iaddN dX7_wordOf_22 ?_ | refine T_iadd dX7_wordOf_22 ?_
    refine T_nge_f 52 dX7_wordOf_23 (by decide) (by omega) (by omega) (by omega) ?_
    refine T_ldc2 kX7_111 dX7_wordOf_26 ?_
    refine T_ll1 dX7_wordOf_29 ?_
    refine T_lmul dX7_wordOf_30 ?_
    refine T_al0 dX7_wordOf_31 ?_
    refine T_g7 gX7_28 (cell_89 _ _) rfl dX7_wordOf_32 ?_
    refine T_il3 dX7_wordOf_35 ?_
    refine T_aldN rfl (show _ < 160 by omega) dX7_wordOf_36 ?_
    rw [hG]
    refine T_i2l dX7_wordOf_37 ?_
    refine T_ladd dX7_wordOf_38 ?_
    refine T_ldc2 kX7_103 dX7_wordOf_39 ?_
    refine T_lsub dX7_wordOf_42 ?_
    refine T_lconst (v := 1) dX7_wordOf_43 (by decide +kernel) ?_
    refine T_ladd dX7_wordOf_44 ?_
    refine T_ls1 dX7_wordOf_45 rfl ?_
    refine T_ii3 dX7_wordOf_46 (by first | exact nI_inc _ | exact nI_dec _ | rfl) rfl ?_
    refine T_goto 7 dX7_wordOf_49 (by decide) ?_
    exact h
  · rcases Nat.lt_or_ge (b + min (e - b) 9) e with q | q
    · refine T_il3 dX7_wordOf_7 ?_
      refine T_al0 dX7_wordOf_8 ?_
      refine T_g7 gX7_87 (cell_89 _ _) rfl dX7_wordOf_9 ?_
      rw [q10]
      refine T_nge_f 52 dX7_wordOf_12 (by decide) (by omega) (by omega) (by omega) ?_
      refine T_il3 dX7_wordOf_15 ?_
      refine T_al0 dX7_wordOf_16 ?_
      refine T_g7 gX7_94 (cell_89 _ _) rfl dX7_wordOf_17 ?_
      rw [q13]
      refine T_bipush (v := nI 9) dX7_wordOf_20 (by decide +kernel) ?_
      first | refine T_iaddN dX7_wordOf_22 ?_ | refine T_iadd dX7_wordOf_22 ?_
      refine T_nge_t 52 dX7_wordOf_23 (by decide) (by omega) (by omega) (by omega) ?_
      exact fin _ _ rfl
    · refine T_il3 dX7_wordOf_7 ?_
      refine T_al0 dX7_wordOf_8 ?_
      refine T_g7 gX7_87 (cell_89 _ _) rfl dX7_wordOf_9 ?_
      rw [q10]
      refine T_nge_t 52 dX7_wordOf_12 (by decide) (by omega) (by omega) (by omega) ?_
      exact fin _ _ rfl
def spS (w : Int64) (x : Int32) : Int64 := if x = 0 then w else w * 27 + x.toInt64 - 97 + 1
def sp0 (x : Int32) : Int64 := 0 * 27 + (if x = 0 then nI 0 else x - nI 97 + nI 1).toInt64
theorem m_spelt (d : Nat) (F : FT) (G : GT) (x0 x1 x2 x3 x4 x5 x6 : Int32) : Kp DX7_spelt d [.int x0, .int x1, .int x2, .int x3, .int x4, .int x5, .int x6] F G (some (.long (spS (spS (spS (spS (spS (spS (sp0 x0) x1) x2) x3) x4) x5) x6))) := by
  refine Kc.ofT [some (.int x0), some (.int x1), some (.int x2), some (.int x3), some (.int x4), some (.int x5), some (.int x6), none, none] pn_X7 (Nat.le_of_ble_eq_true rfl) rfl ?_
  have s6 : ∀ w : Int64, T DX7_spelt d 161 [some (.int x0), some (.int x1), some (.int x2), some (.int x3), some (.int x4), some (.int x5), some (.int x6), some (.long w), none] [] F G (fun v F' G' => v = some (.long (spS w x6)) ∧ F' = F ∧ G' = G) := by
    intro w
    refine T_il6 dX7_spelt_161 ?_
    refine T_if_ne 171 dX7_spelt_163 (by decide) (fun h1 => ?_) (fun h1 => ?_)
    · refine T_ll7 dX7_spelt_171 ?_
      refine T_ldc2 kX7_111 dX7_spelt_173 ?_
      refine T_lmul dX7_spelt_176 ?_
      refine T_il6 dX7_spelt_177 ?_
      refine T_i2l dX7_spelt_179 ?_
      refine T_ladd dX7_spelt_180 ?_
      refine T_ldc2 kX7_103 dX7_spelt_181 ?_
      refine T_lsub dX7_spelt_184 ?_
      refine T_lconst (v := 1) dX7_spelt_185 (by decide +kernel) ?_
      refine T_ladd dX7_spelt_186 ?_
      refine T_lret rfl dX7_spelt_187 ?_
      exact ⟨by rw [spS, if_neg h1], rfl, rfl⟩
    · refine T_ll7 dX7_spelt_166 ?_
      refine T_goto 187 dX7_spelt_168 (by decide) ?_
      refine T_lret rfl dX7_spelt_187 ?_
      exact ⟨by rw [spS, if_pos h1], rfl, rfl⟩
  have s5 : ∀ w : Int64, T DX7_spelt d 133 [some (.int x0), some (.int x1), some (.int x2), some (.int x3), some (.int x4), some (.int x5), some (.int x6), some (.long w), none] [] F G (fun v F' G' => v = some (.long (spS (spS w x5) x6)) ∧ F' = F ∧ G' = G) := by
    intro w
    refine T_il5 dX7_spelt_133 ?_
    refine T_if_ne 143 dX7_spelt_135 (by decide) (fun h1 => ?_) (fun h1 => ?_)
    · rw [show spS w x5 = w * 27 + x5.toInt64 - 97 + 1 from if_neg h1]
      refine T_ll7 dX7_spelt_143 ?_
      refine T_ldc2 kX7_111 dX7_spelt_145 ?_
      refine T_lmul dX7_spelt_148 ?_
      refine T_il5 dX7_spelt_149 ?_
      refine T_i2l dX7_spelt_151 ?_
      refine T_ladd dX7_spelt_152 ?_
      refine T_ldc2 kX7_103 dX7_spelt_153 ?_
      refine T_lsub dX7_spelt_156 ?_
      refine T_lconst (v := 1) dX7_spelt_157 (by decide +kernel) ?_
      refine T_ladd dX7_spelt_158 ?_
      refine T_ls7 dX7_spelt_159 rfl ?_
      exact s6 _
    · rw [show spS w x5 = w from if_pos h1]
      refine T_ll7 dX7_spelt_138 ?_
      refine T_goto 159 dX7_spelt_140 (by decide) ?_
      refine T_ls7 dX7_spelt_159 rfl ?_
      exact s6 _
  have s4 : ∀ w : Int64, T DX7_spelt d 105 [some (.int x0), some (.int x1), some (.int x2), some (.int x3), some (.int x4), some (.int x5), some (.int x6), some (.long w), none] [] F G (fun v F' G' => v = some (.long (spS (spS (spS w x4) x5) x6)) ∧ F' = F ∧ G' = G) := by
    intro w
    refine T_il4 dX7_spelt_105 ?_
    refine T_if_ne 115 dX7_spelt_107 (by decide) (fun h1 => ?_) (fun h1 => ?_)
    · rw [show spS w x4 = w * 27 + x4.toInt64 - 97 + 1 from if_neg h1]
      refine T_ll7 dX7_spelt_115 ?_
      refine T_ldc2 kX7_111 dX7_spelt_117 ?_
      refine T_lmul dX7_spelt_120 ?_
      refine T_il4 dX7_spelt_121 ?_
      refine T_i2l dX7_spelt_123 ?_
      refine T_ladd dX7_spelt_124 ?_
      refine T_ldc2 kX7_103 dX7_spelt_125 ?_
      refine T_lsub dX7_spelt_128 ?_
      refine T_lconst (v := 1) dX7_spelt_129 (by decide +kernel) ?_
      refine T_ladd dX7_spelt_130 ?_
      refine T_ls7 dX7_spelt_131 rfl ?_
      exact s5 _
    · rw [show spS w x4 = w from if_pos h1]
      refine T_ll7 dX7_spelt_110 ?_
      refine T_goto 131 dX7_spelt_112 (by decide) ?_
      refine T_ls7 dX7_spelt_131 rfl ?_
      exact s5 _
  have s3 : ∀ w : Int64, T DX7_spelt d 79 [some (.int x0), some (.int x1), some (.int x2), some (.int x3), some (.int x4), some (.int x5), some (.int x6), some (.long w), none] [] F G (fun v F' G' => v = some (.long (spS (spS (spS (spS w x3) x4) x5) x6)) ∧ F' = F ∧ G' = G) := by
    intro w
    refine T_il3 dX7_spelt_79 ?_
    refine T_if_ne 88 dX7_spelt_80 (by decide) (fun h1 => ?_) (fun h1 => ?_)
    · rw [show spS w x3 = w * 27 + x3.toInt64 - 97 + 1 from if_neg h1]
      refine T_ll7 dX7_spelt_88 ?_
      refine T_ldc2 kX7_111 dX7_spelt_90 ?_
      refine T_lmul dX7_spelt_93 ?_
      refine T_il3 dX7_spelt_94 ?_
      refine T_i2l dX7_spelt_95 ?_
      refine T_ladd dX7_spelt_96 ?_
      refine T_ldc2 kX7_103 dX7_spelt_97 ?_
      refine T_lsub dX7_spelt_100 ?_
      refine T_lconst (v := 1) dX7_spelt_101 (by decide +kernel) ?_
      refine T_ladd dX7_spelt_102 ?_
      refine T_ls7 dX7_spelt_103 rfl ?_
      exact s4 _
    · rw [show spS w x3 = w from if_pos h1]
      refine T_ll7 dX7_spelt_83 ?_
      refine T_goto 103 dX7_spelt_85 (by decide) ?_
      refine T_ls7 dX7_spelt_103 rfl ?_
      exact s4 _
  have s2 : ∀ w : Int64, T DX7_spelt d 53 [some (.int x0), some (.int x1), some (.int x2), some (.int x3), some (.int x4), some (.int x5), some (.int x6), some (.long w), none] [] F G (fun v F' G' => v = some (.long (spS (spS (spS (spS (spS w x2) x3) x4) x5) x6)) ∧ F' = F ∧ G' = G) := by
    intro w
    refine T_il2 dX7_spelt_53 ?_
    refine T_if_ne 62 dX7_spelt_54 (by decide) (fun h1 => ?_) (fun h1 => ?_)
    · rw [show spS w x2 = w * 27 + x2.toInt64 - 97 + 1 from if_neg h1]
      refine T_ll7 dX7_spelt_62 ?_
      refine T_ldc2 kX7_111 dX7_spelt_64 ?_
      refine T_lmul dX7_spelt_67 ?_
      refine T_il2 dX7_spelt_68 ?_
      refine T_i2l dX7_spelt_69 ?_
      refine T_ladd dX7_spelt_70 ?_
      refine T_ldc2 kX7_103 dX7_spelt_71 ?_
      refine T_lsub dX7_spelt_74 ?_
      refine T_lconst (v := 1) dX7_spelt_75 (by decide +kernel) ?_
      refine T_ladd dX7_spelt_76 ?_
      refine T_ls7 dX7_spelt_77 rfl ?_
      exact s3 _
    · rw [show spS w x2 = w from if_pos h1]
      refine T_ll7 dX7_spelt_57 ?_
      refine T_goto 77 dX7_spelt_59 (by decide) ?_
      refine T_ls7 dX7_spelt_77 rfl ?_
      exact s3 _
  have s1 : ∀ w : Int64, T DX7_spelt d 27 [some (.int x0), some (.int x1), some (.int x2), some (.int x3), some (.int x4), some (.int x5), some (.int x6), some (.long w), none] [] F G (fun v F' G' => v = some (.long (spS (spS (spS (spS (spS (spS w x1) x2) x3) x4) x5) x6)) ∧ F' = F ∧ G' = G) := by
    intro w
    refine T_il1 dX7_spelt_27 ?_
    refine T_if_ne 36 dX7_spelt_28 (by decide) (fun h1 => ?_) (fun h1 => ?_)
    · rw [show spS w x1 = w * 27 + x1.toInt64 - 97 + 1 from if_neg h1]
      refine T_ll7 dX7_spelt_36 ?_
      refine T_ldc2 kX7_111 dX7_spelt_38 ?_
      refine T_lmul dX7_spelt_41 ?_
      refine T_il1 dX7_spelt_42 ?_
      refine T_i2l dX7_spelt_43 ?_
      refine T_ladd dX7_spelt_44 ?_
      refine T_ldc2 kX7_103 dX7_spelt_45 ?_
      refine T_lsub dX7_spelt_48 ?_
      refine T_lconst (v := 1) dX7_spelt_49 (by decide +kernel) ?_
      refine T_ladd dX7_spelt_50 ?_
      refine T_ls7 dX7_spelt_51 rfl ?_
      exact s2 _
    · rw [show spS w x1 = w from if_pos h1]
      refine T_ll7 dX7_spelt_31 ?_
      refine T_goto 51 dX7_spelt_33 (by decide) ?_
      refine T_ls7 dX7_spelt_51 rfl ?_
      exact s2 _
  refine T_lconst (v := 0) dX7_spelt_0 (by decide +kernel) ?_
  refine T_ls7 dX7_spelt_1 rfl ?_
  refine T_ll7 dX7_spelt_3 ?_
  refine T_ldc2 kX7_111 dX7_spelt_5 ?_
  refine T_lmul dX7_spelt_8 ?_
  refine T_il0 dX7_spelt_9 ?_
  refine T_if_ne 17 dX7_spelt_10 (by decide) (fun h1 => ?_) (fun h1 => ?_)
  · rw [show sp0 x0 = 0 * 27 + (x0 - nI 97 + nI 1).toInt64 by rw [sp0, if_neg h1]]
    refine T_il0 dX7_spelt_17 ?_
    refine T_bipush (v := nI 97) dX7_spelt_18 (by decide +kernel) ?_
    refine T_isub dX7_spelt_20 ?_
    refine T_iconst (v := nI 1) dX7_spelt_21 rfl ?_
    refine T_iadd dX7_spelt_22 ?_
    refine T_i2l dX7_spelt_23 ?_
    refine T_ladd dX7_spelt_24 ?_
    refine T_ls7 dX7_spelt_25 rfl ?_
    exact s1 _
  · rw [show sp0 x0 = 0 * 27 + (nI 0).toInt64 by rw [sp0, if_pos h1]]
    refine T_iconst (v := nI 0) dX7_spelt_13 rfl ?_
    refine T_goto 23 dX7_spelt_14 (by decide) ?_
    refine T_i2l dX7_spelt_23 ?_
    refine T_ladd dX7_spelt_24 ?_
    refine T_ls7 dX7_spelt_25 rfl ?_
    exact s1 _
def eL (w : List Int32) : Nat := iter (fun k v => 27 * v + (sv (w.getD k 0) - 96)) w.length 0 0
def cW (i : Nat) : Int64 := lN (eL (txB.getD i []))
theorem sp_0 : spS (spS (spS (spS (spS (spS (sp0 (nI 112)) (nI 108)) (nI 97)) (nI 105)) (nI 110)) (nI 0)) (nI 0) = cW 0 := by decide +kernel
theorem sp_1 : spS (spS (spS (spS (spS (spS (sp0 (nI 98)) (nI 114)) (nI 97)) (nI 118)) (nI 101)) (nI 0)) (nI 0) = cW 1 := by decide +kernel
theorem sp_2 : spS (spS (spS (spS (spS (spS (sp0 (nI 115)) (nI 105)) (nI 108)) (nI 107)) (nI 0)) (nI 0)) (nI 0) = cW 2 := by decide +kernel
theorem sp_3 : spS (spS (spS (spS (spS (spS (sp0 (nI 101)) (nI 110)) (nI 100)) (nI 108)) (nI 101)) (nI 115)) (nI 115) = cW 3 := by decide +kernel
theorem sp_4 : spS (spS (spS (spS (spS (spS (sp0 (nI 111)) (nI 118)) (nI 101)) (nI 114)) (nI 0)) (nI 0)) (nI 0) = cW 4 := by decide +kernel
theorem sp_5 : spS (spS (spS (spS (spS (spS (sp0 (nI 107)) (nI 110)) (nI 111)) (nI 116)) (nI 0)) (nI 0)) (nI 0) = cW 5 := by decide +kernel
theorem sp_6 : spS (spS (spS (spS (spS (spS (sp0 (nI 99)) (nI 117)) (nI 116)) (nI 0)) (nI 0)) (nI 0)) (nI 0) = cW 6 := by decide +kernel
theorem sp_7 : spS (spS (spS (spS (spS (spS (sp0 (nI 108)) (nI 111)) (nI 111)) (nI 109)) (nI 0)) (nI 0)) (nI 0) = cW 7 := by decide +kernel
theorem sp_8 : spS (spS (spS (spS (spS (spS (sp0 (nI 99)) (nI 97)) (nI 108)) (nI 109)) (nI 0)) (nI 0)) (nI 0) = cW 8 := by decide +kernel
theorem sp_9 : spS (spS (spS (spS (spS (spS (sp0 (nI 102)) (nI 114)) (nI 101)) (nI 101)) (nI 0)) (nI 0)) (nI 0) = cW 9 := by decide +kernel
/-! PURE: words by their numbers -/
def dg (p : Nat → Nat) (L : Nat) : Nat := iter (fun k w => 27 * w + p k) L 0 0
theorem dg_s (p : Nat → Nat) (L : Nat) : dg p (L + 1) = 27 * dg p L + p L := by rw [dg, iter_succ, Nat.zero_add]; rfl
theorem dg_inj (p q : Nat → Nat) : ∀ L M, (∀ k, k < L → 1 ≤ p k ∧ p k ≤ 26) → (∀ k, k < M → 1 ≤ q k ∧ q k ≤ 26) → (dg p L = dg q M ↔ L = M ∧ ∀ k, k < L → p k = q k) := by
  intro L
  induction L with
  | zero =>
    intro M hp hq
    cases M with
    | zero => exact ⟨fun _ => ⟨rfl, fun k hk => absurd hk (by omega)⟩, fun _ => rfl⟩
    | succ M =>
      have := hq M (by omega)
      rw [dg_s]
      exact ⟨fun h => by have h : 0 = 27 * dg q M + q M := h; omega, fun h => absurd h.1 (by omega)⟩
  | succ L ih =>
    intro M hp hq
    have h1 := hp L (by omega)
    cases M with
    | zero =>
      rw [dg_s]
      exact ⟨fun h => by have h : 27 * dg p L + p L = 0 := h; omega, fun h => absurd h.1 (by omega)⟩
    | succ M =>
      have h2 := hq M (by omega)
      have hi := ih M (fun k hk => hp k (by omega)) (fun k hk => hq k (by omega))
      rw [dg_s, dg_s]
      constructor
      · intro h
        obtain ⟨e1, e2⟩ := hi.mp (by omega)
        subst e1
        refine ⟨rfl, fun k hk => ?_⟩
        rcases Nat.lt_or_ge k L with q1 | q1
        · exact e2 k q1
        · have : k = L := by omega
          subst this
          omega
      · intro ⟨e1, e2⟩
        have e1 : L = M := by omega
        subst e1
        have := hi.mpr ⟨rfl, fun k hk => e2 k (by omega)⟩
        have := e2 L (by omega)
        omega
theorem dg_lt (p : Nat → Nat) : ∀ L, (∀ k, k < L → p k ≤ 26) → dg p L < 27 ^ L := by
  intro L
  induction L with
  | zero => intro _; exact Nat.one_pos
  | succ L ih =>
    intro h
    have h1 := ih (fun k hk => h k (by omega))
    have h2 := h L (by omega)
    rw [dg_s, Nat.pow_succ]
    omega
theorem w_dg {tx : List Int32} {b : Nat} : ∀ L, (∀ k, k < L → srt (tx.getD (b + k) 0) = 1) → iter (wS tx) L b 0 = lN (dg (fun k => sv (tx.getD (b + k) 0) - 96) L) := by
  intro L
  induction L with
  | zero => intro _; rfl
  | succ L ih =>
    intro h
    obtain ⟨c, h1, h2, e⟩ := srt_1 (h L (by omega))
    rw [iter_succ, ih (fun k hk => h k (by omega)), dg_s, wS, e, sv_nI (by omega), nI_l (by omega), show (27 : Int64) = lN 27 from rfl, lN_mul, lN_add, show (97 : Int64) = lN 97 from rfl, lN_sub (by omega), show (1 : Int64) = lN 1 from rfl, lN_add]
    congr 1
    omega
theorem runB_all (tx : List Int32) (n s : Nat) : ∀ f e, ∀ k, e ≤ k → k < runB tx n s f e → srt (tx.getD k 0) = s := by
  intro f
  induction f with
  | zero => intro e k h1 h2; rw [runB] at h2; omega
  | succ f ih =>
    intro e k h1 h2
    rw [runB] at h2
    split at h2
    · rename_i hc
      rcases Nat.eq_or_lt_of_le h1 with q | q
      · rw [← q]; exact hc.2
      · exact ih (e + 1) k q h2
    · omega
theorem tok_all {tx : List Int32} {n b : Nat} (h : tkN tx n b = 1) : ∀ k, b ≤ k → k < tokE tx n b → srt (tx.getD k 0) = 1 := by
  intro k h1 h2
  unfold tkN at h
  split at h
  · cases h
  · rename_i hb
    rw [tokE, if_neg hb, h, if_neg (by decide)] at h2
    rcases Nat.eq_or_lt_of_le h1 with q | q
    · rw [← q]; exact h
    · exact runB_all tx n 1 _ _ k q h2
theorem eqW_iff (tx : List Int32) : ∀ (w : List Int32) (b : Nat), eqW tx b w = true ↔ ∀ k, k < w.length → tx.getD (b + k) 0 = w.getD k 0 := by
  intro w
  induction w with
  | nil => intro b; exact ⟨fun _ k hk => absurd hk (by simp), fun _ => rfl⟩
  | cons c r ih =>
    intro b
    rw [eqW, Bool.and_eq_true, decide_eq_true_eq, ih (b + 1)]
    constructor
    · intro ⟨h1, h2⟩ k hk
      cases k with
      | zero => exact h1
      | succ k =>
        have := h2 k (by simp at hk; omega)
        rw [show b + 1 + k = b + (k + 1) by omega] at this
        exact this
    · intro h
      refine ⟨h 0 (by simp), fun k hk => ?_⟩
      have := h (k + 1) (by simp; omega)
      rw [show b + (k + 1) = b + 1 + k by omega] at this
      exact this
theorem txB_ok : ∀ i, i < 10 → ((txB.getD i []).length ≤ 7 ∧ 3 ≤ (txB.getD i []).length) ∧ ∀ k, k < (txB.getD i []).length → ∃ c, c < 123 ∧ 97 ≤ c ∧ (txB.getD i []).getD k 0 = nI c := by
  have h : ∀ i, i < 10 → ((txB.getD i []).length ≤ 7 ∧ 3 ≤ (txB.getD i []).length) ∧ ∀ k, k < 7 → k < (txB.getD i []).length → ((txB.getD i []).getD k 0 = nI (sv ((txB.getD i []).getD k 0)) ∧ sv ((txB.getD i []).getD k 0) < 123 ∧ 97 ≤ sv ((txB.getD i []).getD k 0)) := by decide +kernel
  intro i hi
  refine ⟨(h i hi).1, fun k hk => ?_⟩
  obtain ⟨e, h1, h2⟩ := (h i hi).2 k (by have := (h i hi).1.1; omega) hk
  exact ⟨_, h1, h2, e⟩
theorem eL_dg (w : List Int32) : eL w = dg (fun k => sv (w.getD k 0) - 96) w.length := rfl
theorem wv_is {tx : List Int32} {n b : Nat} (i : Nat) (hi : i < 10) : wIs tx b (tokE tx n b) i = decide (wvI tx (tkN tx n b) b (tokE tx n b) = cW i) := by
  obtain ⟨⟨t1, t2⟩, t3⟩ := txB_ok i hi
  rw [wIs, isWB, cW, eL_dg]
  have hq : ∀ k, k < (txB.getD i []).length → 1 ≤ sv ((txB.getD i []).getD k 0) - 96 ∧ sv ((txB.getD i []).getD k 0) - 96 ≤ 26 := fun k hk => by
    obtain ⟨c, c1, c2, ec⟩ := t3 k hk
    rw [ec, sv_nI (by omega)]
    omega
  have hqb : dg (fun k => sv ((txB.getD i []).getD k 0) - 96) (txB.getD i []).length < 2 ^ 63 := Nat.lt_of_lt_of_le (dg_lt _ _ (fun k hk => (hq k hk).2)) (Nat.le_trans (Nat.pow_le_pow_right (by decide) t1) (by decide))
  by_cases ht : tkN tx n b = 1
  · have hall := tok_all ht
    have hp : ∀ k, k < min (tokE tx n b - b) 9 → ∃ c, 97 ≤ c ∧ c ≤ 122 ∧ tx.getD (b + k) 0 = nI c := fun k hk => srt_1 (hall (b + k) (by omega) (by omega))
    have hp2 : ∀ k, k < min (tokE tx n b - b) 9 → 1 ≤ sv (tx.getD (b + k) 0) - 96 ∧ sv (tx.getD (b + k) 0) - 96 ≤ 26 := fun k hk => by
      obtain ⟨c, c1, c2, ec⟩ := hp k hk
      rw [ec, sv_nI (by omega)]
      omega
    rw [wvI, if_pos ht, w_dg _ (fun k hk => hall (b + k) (by omega) (by omega))]
    have hpb : dg (fun k => sv (tx.getD (b + k) 0) - 96) (min (tokE tx n b - b) 9) < 2 ^ 63 := Nat.lt_of_lt_of_le (dg_lt _ _ (fun k hk => (hp2 k hk).2)) (Nat.le_trans (Nat.pow_le_pow_right (by decide) (Nat.min_le_right _ 9)) (by decide))
    have key : (decide (tokE tx n b - b = (txB.getD i []).length) && eqW tx b (txB.getD i [])) = true ↔ lN (dg (fun k => sv (tx.getD (b + k) 0) - 96) (min (tokE tx n b - b) 9)) = lN (dg (fun k => sv ((txB.getD i []).getD k 0) - 96) (txB.getD i []).length) := by
      rw [pk_lEQ hpb hqb, dg_inj _ _ _ _ hp2 hq, Bool.and_eq_true, decide_eq_true_eq, eqW_iff]
      constructor
      · intro ⟨h1, h2⟩
        exact ⟨by omega, fun k hk => by rw [h2 k (by omega)]⟩
      · intro ⟨h1, h2⟩
        refine ⟨by omega, fun k hk => ?_⟩
        have := h2 k (by omega)
        obtain ⟨c, c1, c2, ec⟩ := hp k (by omega)
        obtain ⟨c', c1', c2', ec'⟩ := t3 k hk
        rw [ec, ec', sv_nI (by omega), sv_nI (by omega)] at this
        rw [ec, ec']
        congr 1
        omega
    cases hz : (decide (tokE tx n b - b = (txB.getD i []).length) && eqW tx b (txB.getD i [])) with
    | true => exact (decide_eq_true (key.mp hz)).symm
    | false => exact (decide_eq_false (fun q => by rw [key.mpr q] at hz; cases hz)).symm
  · rw [wvI, if_neg ht]
    have e1 : ¬ (0 : Int64) = lN (dg (fun k => sv ((txB.getD i []).getD k 0) - 96) (txB.getD i []).length) := by
      intro h
      have h := (pk_lEQ (by decide) hqb).mp (show lN 0 = _ from h)
      have := (dg_inj (fun _ => 1) _ 0 _ (fun k hk => absurd hk (by omega)) hq).mp h
      omega
    rw [decide_eq_false e1]
    cases hz : (decide (tokE tx n b - b = (txB.getD i []).length) && eqW tx b (txB.getD i [])) with
    | false => rfl
    | true =>
      exfalso
      rw [Bool.and_eq_true, decide_eq_true_eq, eqW_iff] at hz
      have h0 := hz.2 0 (by omega)
      obtain ⟨c, c1, c2, ec⟩ := t3 0 (by omega)
      rw [ec, Nat.add_zero] at h0
      have hs : srt (nI c) = 1 := by
        rw [srt, if_pos ⟨nI_nlt c2 (by omega), nI_nlt (by omega) (by omega)⟩]
      apply ht
      unfold tkN
      split
      · rename_i q
        have := hz.1
        rw [tokE, if_pos q] at this
        omega
      · rw [h0]; exact hs
theorem cW_ne : ∀ i, i < 10 → ∀ j, j < 10 → i ≠ j → ¬ cW i = cW j := by decide +kernel
def vb (w : Nat) : Nat := if w = 4 then 5 else if w = 5 then 6 else if w = 6 then 7 else if w = 7 then 4 else w
def vbI (x : Int32) : Int32 := if x = -1 then -1 else nI (vb (sv x))
theorem wrd_at {tx : List Int32} {n b : Nat} (i : Nat) (hi : i < 10) (h : wvI tx (tkN tx n b) b (tokE tx n b) = cW i) : wordI tx b (tokE tx n b) = nI i := by
  have e : ∀ j, j < 10 → wIs tx b (tokE tx n b) j = decide (i = j) := fun j hj => by
    rw [wv_is j hj, h]
    by_cases q : i = j
    · subst q; rw [decide_eq_true rfl, decide_eq_true rfl]
    · rw [decide_eq_false q, decide_eq_false (cW_ne i hi j hj q)]
  rw [wordI, e 0 (by decide), e 1 (by decide), e 2 (by decide), e 3 (by decide), e 4 (by decide), e 5 (by decide), e 6 (by decide), e 7 (by decide), e 8 (by decide), e 9 (by decide)]
  have key : ∀ i, i < 10 → (if decide (i = 0) = true then nI 0 else if decide (i = 1) = true then nI 1 else if decide (i = 2) = true then nI 2 else if decide (i = 3) = true then nI 3 else if decide (i = 4) = true then nI 4 else if decide (i = 5) = true then nI 5 else if decide (i = 6) = true then nI 6 else if decide (i = 7) = true then nI 7 else if decide (i = 8) = true then nI 8 else if decide (i = 9) = true then nI 9 else -1) = nI i := by decide +kernel
  exact key i hi
theorem wrd_no {tx : List Int32} {n b : Nat} (h : ∀ i, i < 10 → ¬ wvI tx (tkN tx n b) b (tokE tx n b) = cW i) : wordI tx b (tokE tx n b) = -1 := by
  have e : ∀ j, j < 10 → wIs tx b (tokE tx n b) j = false := fun j hj => by rw [wv_is j hj, decide_eq_false (h j hj)]
  rw [wordI, e 0 (by decide), e 1 (by decide), e 2 (by decide), e 3 (by decide), e 4 (by decide), e 5 (by decide), e 6 (by decide), e 7 (by decide), e 8 (by decide), e 9 (by decide)]
  rfl
theorem vb_at : ∀ i, i < 10 → vbI (nI i) = nI (vb i) := by decide +kernel
theorem m_verb (d : Nat) (hd : 1 ≤ d) (F : FT) (G : GT) (tx : List Int32) (n : Nat) (vl : Int32) (b cl : Nat) (te : TeS) (hn : n ≤ 160) (hG : G 96 = tx) (hb : b ≤ n) : Kp DX7_verb d [.ref 89] (qF F (tokE tx n b) (tkN tx n b) vl b cl te) G (some (.int (vbI (wordI tx b (tokE tx n b))))) := by
  have h4 : tkN tx n b < 4 := by
    unfold tkN
    have := srt_lt (tx.getD b 0)
    split <;> omega
  have hle := tokE_le tx hb
  refine Kc.ofT [some (.ref 89), none, none] pn_X7 (Nat.le_of_ble_eq_true rfl) rfl ?_
  have is : ∀ (i : Nat), i < 10 → wvI tx (tkN tx n b) b (tokE tx n b) = cW i → vbI (wordI tx b (tokE tx n b)) = nI (vb i) := fun i hi h => by rw [wrd_at i hi h, vb_at i hi]
  refine T_al0 dX7_verb_0 ?_
  refine T_pV0 lX7_113 rfl (by decide) (cell_89 _ _) (m_wordOf _ F G tx n (tokE tx n b) (tkN tx n b) vl b cl te hn hG hle.2.1 hle.1 h4) (by omega) (Nat.le_of_ble_eq_true rfl) dX7_verb_1 ?_
  refine T_ls1 dX7_verb_4 rfl ?_
  generalize hW : wvI tx (tkN tx n b) b (tokE tx n b) = W at is
  refine T_ll1 dX7_verb_5 ?_
  refine T_bipush (v := nI 112) dX7_verb_6 (by decide +kernel) ?_
  refine T_bipush (v := nI 108) dX7_verb_8 (by decide +kernel) ?_
  refine T_bipush (v := nI 97) dX7_verb_10 (by decide +kernel) ?_
  refine T_bipush (v := nI 105) dX7_verb_12 (by decide +kernel) ?_
  refine T_bipush (v := nI 110) dX7_verb_14 (by decide +kernel) ?_
  refine T_iconst (v := nI 0) dX7_verb_16 rfl ?_
  refine T_iconst (v := nI 0) dX7_verb_17 rfl ?_
  refine T_pS7 lX7_117 (m_spelt _ _ G (nI 112) (nI 108) (nI 97) (nI 105) (nI 110) (nI 0) (nI 0)) (by omega) (Nat.le_of_ble_eq_true rfl) dX7_verb_18 ?_
  rw [sp_0]
  refine T_lcmp dX7_verb_21 ?_
  refine T_if_ne 27 dX7_verb_22 (by decide) (fun h0 => ?_) (fun h0 => ?_)
  rotate_left
  · rw [lg_cmp_eq] at h0
    refine T_iconst (v := nI 0) dX7_verb_25 rfl ?_
    refine T_iret rfl dX7_verb_26 ?_
    exact ⟨by rw [is 0 (by decide) h0]; rfl, rfl, rfl⟩
  rw [lg_cmp_eq] at h0
  refine T_ll1 dX7_verb_27 ?_
  refine T_bipush (v := nI 98) dX7_verb_28 (by decide +kernel) ?_
  refine T_bipush (v := nI 114) dX7_verb_30 (by decide +kernel) ?_
  refine T_bipush (v := nI 97) dX7_verb_32 (by decide +kernel) ?_
  refine T_bipush (v := nI 118) dX7_verb_34 (by decide +kernel) ?_
  refine T_bipush (v := nI 101) dX7_verb_36 (by decide +kernel) ?_
  refine T_iconst (v := nI 0) dX7_verb_38 rfl ?_
  refine T_iconst (v := nI 0) dX7_verb_39 rfl ?_
  refine T_pS7 lX7_117 (m_spelt _ _ G (nI 98) (nI 114) (nI 97) (nI 118) (nI 101) (nI 0) (nI 0)) (by omega) (Nat.le_of_ble_eq_true rfl) dX7_verb_40 ?_
  rw [sp_1]
  refine T_lcmp dX7_verb_43 ?_
  refine T_if_ne 49 dX7_verb_44 (by decide) (fun h1 => ?_) (fun h1 => ?_)
  rotate_left
  · rw [lg_cmp_eq] at h1
    refine T_iconst (v := nI 1) dX7_verb_47 rfl ?_
    refine T_iret rfl dX7_verb_48 ?_
    exact ⟨by rw [is 1 (by decide) h1]; rfl, rfl, rfl⟩
  rw [lg_cmp_eq] at h1
  refine T_ll1 dX7_verb_49 ?_
  refine T_bipush (v := nI 115) dX7_verb_50 (by decide +kernel) ?_
  refine T_bipush (v := nI 105) dX7_verb_52 (by decide +kernel) ?_
  refine T_bipush (v := nI 108) dX7_verb_54 (by decide +kernel) ?_
  refine T_bipush (v := nI 107) dX7_verb_56 (by decide +kernel) ?_
  refine T_iconst (v := nI 0) dX7_verb_58 rfl ?_
  refine T_iconst (v := nI 0) dX7_verb_59 rfl ?_
  refine T_iconst (v := nI 0) dX7_verb_60 rfl ?_
  refine T_pS7 lX7_117 (m_spelt _ _ G (nI 115) (nI 105) (nI 108) (nI 107) (nI 0) (nI 0) (nI 0)) (by omega) (Nat.le_of_ble_eq_true rfl) dX7_verb_61 ?_
  rw [sp_2]
  refine T_lcmp dX7_verb_64 ?_
  refine T_if_ne 70 dX7_verb_65 (by decide) (fun h2 => ?_) (fun h2 => ?_)
  rotate_left
  · rw [lg_cmp_eq] at h2
    refine T_iconst (v := nI 2) dX7_verb_68 rfl ?_
    refine T_iret rfl dX7_verb_69 ?_
    exact ⟨by rw [is 2 (by decide) h2]; rfl, rfl, rfl⟩
  rw [lg_cmp_eq] at h2
  refine T_ll1 dX7_verb_70 ?_
  refine T_bipush (v := nI 101) dX7_verb_71 (by decide +kernel) ?_
  refine T_bipush (v := nI 110) dX7_verb_73 (by decide +kernel) ?_
  refine T_bipush (v := nI 100) dX7_verb_75 (by decide +kernel) ?_
  refine T_bipush (v := nI 108) dX7_verb_77 (by decide +kernel) ?_
  refine T_bipush (v := nI 101) dX7_verb_79 (by decide +kernel) ?_
  refine T_bipush (v := nI 115) dX7_verb_81 (by decide +kernel) ?_
  refine T_bipush (v := nI 115) dX7_verb_83 (by decide +kernel) ?_
  refine T_pS7 lX7_117 (m_spelt _ _ G (nI 101) (nI 110) (nI 100) (nI 108) (nI 101) (nI 115) (nI 115)) (by omega) (Nat.le_of_ble_eq_true rfl) dX7_verb_85 ?_
  rw [sp_3]
  refine T_lcmp dX7_verb_88 ?_
  refine T_if_ne 94 dX7_verb_89 (by decide) (fun h3 => ?_) (fun h3 => ?_)
  rotate_left
  · rw [lg_cmp_eq] at h3
    refine T_iconst (v := nI 3) dX7_verb_92 rfl ?_
    refine T_iret rfl dX7_verb_93 ?_
    exact ⟨by rw [is 3 (by decide) h3]; rfl, rfl, rfl⟩
  rw [lg_cmp_eq] at h3
  refine T_ll1 dX7_verb_94 ?_
  refine T_bipush (v := nI 108) dX7_verb_95 (by decide +kernel) ?_
  refine T_bipush (v := nI 111) dX7_verb_97 (by decide +kernel) ?_
  refine T_bipush (v := nI 111) dX7_verb_99 (by decide +kernel) ?_
  refine T_bipush (v := nI 109) dX7_verb_101 (by decide +kernel) ?_
  refine T_iconst (v := nI 0) dX7_verb_103 rfl ?_
  refine T_iconst (v := nI 0) dX7_verb_104 rfl ?_
  refine T_iconst (v := nI 0) dX7_verb_105 rfl ?_
  refine T_pS7 lX7_117 (m_spelt _ _ G (nI 108) (nI 111) (nI 111) (nI 109) (nI 0) (nI 0) (nI 0)) (by omega) (Nat.le_of_ble_eq_true rfl) dX7_verb_106 ?_
  rw [sp_7]
  refine T_lcmp dX7_verb_109 ?_
  refine T_if_ne 115 dX7_verb_110 (by decide) (fun h7 => ?_) (fun h7 => ?_)
  rotate_left
  · rw [lg_cmp_eq] at h7
    refine T_iconst (v := nI 4) dX7_verb_113 rfl ?_
    refine T_iret rfl dX7_verb_114 ?_
    exact ⟨by rw [is 7 (by decide) h7]; rfl, rfl, rfl⟩
  rw [lg_cmp_eq] at h7
  refine T_ll1 dX7_verb_115 ?_
  refine T_bipush (v := nI 111) dX7_verb_116 (by decide +kernel) ?_
  refine T_bipush (v := nI 118) dX7_verb_118 (by decide +kernel) ?_
  refine T_bipush (v := nI 101) dX7_verb_120 (by decide +kernel) ?_
  refine T_bipush (v := nI 114) dX7_verb_122 (by decide +kernel) ?_
  refine T_iconst (v := nI 0) dX7_verb_124 rfl ?_
  refine T_iconst (v := nI 0) dX7_verb_125 rfl ?_
  refine T_iconst (v := nI 0) dX7_verb_126 rfl ?_
  refine T_pS7 lX7_117 (m_spelt _ _ G (nI 111) (nI 118) (nI 101) (nI 114) (nI 0) (nI 0) (nI 0)) (by omega) (Nat.le_of_ble_eq_true rfl) dX7_verb_127 ?_
  rw [sp_4]
  refine T_lcmp dX7_verb_130 ?_
  refine T_if_ne 136 dX7_verb_131 (by decide) (fun h4_ => ?_) (fun h4_ => ?_)
  rotate_left
  · rw [lg_cmp_eq] at h4_
    refine T_iconst (v := nI 5) dX7_verb_134 rfl ?_
    refine T_iret rfl dX7_verb_135 ?_
    exact ⟨by rw [is 4 (by decide) h4_]; rfl, rfl, rfl⟩
  rw [lg_cmp_eq] at h4_
  refine T_ll1 dX7_verb_136 ?_
  refine T_bipush (v := nI 107) dX7_verb_137 (by decide +kernel) ?_
  refine T_bipush (v := nI 110) dX7_verb_139 (by decide +kernel) ?_
  refine T_bipush (v := nI 111) dX7_verb_141 (by decide +kernel) ?_
  refine T_bipush (v := nI 116) dX7_verb_143 (by decide +kernel) ?_
  refine T_iconst (v := nI 0) dX7_verb_145 rfl ?_
  refine T_iconst (v := nI 0) dX7_verb_146 rfl ?_
  refine T_iconst (v := nI 0) dX7_verb_147 rfl ?_
  refine T_pS7 lX7_117 (m_spelt _ _ G (nI 107) (nI 110) (nI 111) (nI 116) (nI 0) (nI 0) (nI 0)) (by omega) (Nat.le_of_ble_eq_true rfl) dX7_verb_148 ?_
  rw [sp_5]
  refine T_lcmp dX7_verb_151 ?_
  refine T_if_ne 158 dX7_verb_152 (by decide) (fun h5 => ?_) (fun h5 => ?_)
  rotate_left
  · rw [lg_cmp_eq] at h5
    refine T_bipush (v := nI 6) dX7_verb_155 (by decide +kernel) ?_
    refine T_iret rfl dX7_verb_157 ?_
    exact ⟨by rw [is 5 (by decide) h5]; rfl, rfl, rfl⟩
  rw [lg_cmp_eq] at h5
  refine T_ll1 dX7_verb_158 ?_
  refine T_bipush (v := nI 99) dX7_verb_159 (by decide +kernel) ?_
  refine T_bipush (v := nI 117) dX7_verb_161 (by decide +kernel) ?_
  refine T_bipush (v := nI 116) dX7_verb_163 (by decide +kernel) ?_
  refine T_iconst (v := nI 0) dX7_verb_165 rfl ?_
  refine T_iconst (v := nI 0) dX7_verb_166 rfl ?_
  refine T_iconst (v := nI 0) dX7_verb_167 rfl ?_
  refine T_iconst (v := nI 0) dX7_verb_168 rfl ?_
  refine T_pS7 lX7_117 (m_spelt _ _ G (nI 99) (nI 117) (nI 116) (nI 0) (nI 0) (nI 0) (nI 0)) (by omega) (Nat.le_of_ble_eq_true rfl) dX7_verb_169 ?_
  rw [sp_6]
  refine T_lcmp dX7_verb_172 ?_
  refine T_if_ne 179 dX7_verb_173 (by decide) (fun h6 => ?_) (fun h6 => ?_)
  rotate_left
  · rw [lg_cmp_eq] at h6
    refine T_bipush (v := nI 7) dX7_verb_176 (by decide +kernel) ?_
    refine T_iret rfl dX7_verb_178 ?_
    exact ⟨by rw [is 6 (by decide) h6]; rfl, rfl, rfl⟩
  rw [lg_cmp_eq] at h6
  refine T_ll1 dX7_verb_179 ?_
  refine T_bipush (v := nI 99) dX7_verb_180 (by decide +kernel) ?_
  refine T_bipush (v := nI 97) dX7_verb_182 (by decide +kernel) ?_
  refine T_bipush (v := nI 108) dX7_verb_184 (by decide +kernel) ?_
  refine T_bipush (v := nI 109) dX7_verb_186 (by decide +kernel) ?_
  refine T_iconst (v := nI 0) dX7_verb_188 rfl ?_
  refine T_iconst (v := nI 0) dX7_verb_189 rfl ?_
  refine T_iconst (v := nI 0) dX7_verb_190 rfl ?_
  refine T_pS7 lX7_117 (m_spelt _ _ G (nI 99) (nI 97) (nI 108) (nI 109) (nI 0) (nI 0) (nI 0)) (by omega) (Nat.le_of_ble_eq_true rfl) dX7_verb_191 ?_
  rw [sp_8]
  refine T_lcmp dX7_verb_194 ?_
  refine T_if_ne 203 dX7_verb_195 (by decide) (fun h8 => ?_) (fun h8 => ?_)
  rotate_left
  · rw [lg_cmp_eq] at h8
    refine T_bipush (v := nI 8) dX7_verb_198 (by decide +kernel) ?_
    refine T_goto 228 dX7_verb_200 (by decide) ?_
    refine T_iret rfl dX7_verb_228 ?_
    exact ⟨by rw [is 8 (by decide) h8]; rfl, rfl, rfl⟩
  rw [lg_cmp_eq] at h8
  refine T_ll1 dX7_verb_203 ?_
  refine T_bipush (v := nI 102) dX7_verb_204 (by decide +kernel) ?_
  refine T_bipush (v := nI 114) dX7_verb_206 (by decide +kernel) ?_
  refine T_bipush (v := nI 101) dX7_verb_208 (by decide +kernel) ?_
  refine T_bipush (v := nI 101) dX7_verb_210 (by decide +kernel) ?_
  refine T_iconst (v := nI 0) dX7_verb_212 rfl ?_
  refine T_iconst (v := nI 0) dX7_verb_213 rfl ?_
  refine T_iconst (v := nI 0) dX7_verb_214 rfl ?_
  refine T_pS7 lX7_117 (m_spelt _ _ G (nI 102) (nI 114) (nI 101) (nI 101) (nI 0) (nI 0) (nI 0)) (by omega) (Nat.le_of_ble_eq_true rfl) dX7_verb_215 ?_
  rw [sp_9]
  refine T_lcmp dX7_verb_218 ?_
  refine T_if_ne 227 dX7_verb_219 (by decide) (fun h9 => ?_) (fun h9 => ?_)
  rotate_left
  · rw [lg_cmp_eq] at h9
    refine T_bipush (v := nI 9) dX7_verb_222 (by decide +kernel) ?_
    refine T_goto 228 dX7_verb_224 (by decide) ?_
    refine T_iret rfl dX7_verb_228 ?_
    exact ⟨by rw [is 9 (by decide) h9]; rfl, rfl, rfl⟩
  rw [lg_cmp_eq] at h9
  refine T_iconst (v := -1) dX7_verb_227 rfl ?_
  refine T_iret rfl dX7_verb_228 ?_
  have hno : ∀ i, i < 10 → ¬ wvI tx (tkN tx n b) b (tokE tx n b) = cW i := fun i hi => by
    rw [hW]
    match i, hi with
    | 0, _ => exact h0
    | 1, _ => exact h1
    | 2, _ => exact h2
    | 3, _ => exact h3
    | 4, _ => exact h4_
    | 5, _ => exact h5
    | 6, _ => exact h6
    | 7, _ => exact h7
    | 8, _ => exact h8
    | 9, _ => exact h9
    | i + 10, hi => exact absurd hi (by omega)
  exact ⟨by rw [wrd_no hno]; rfl, rfl, rfl⟩
