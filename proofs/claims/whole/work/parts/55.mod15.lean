/-! THE REFERENCE READS: its tokens -/
def qF (F : FT) (pl tk : Nat) (vl : Int32) (bg cl : Nat) (te : TeS) : FT := fun c i => if c = 89 ∧ i = 10 then nI pl else if c = 89 ∧ i = 11 then nI tk else if c = 89 ∧ i = 12 then vl else if c = 89 ∧ i = 13 then nI bg else if c = 89 ∧ i = 14 then nI te.1 else if c = 89 ∧ i = 18 then nI te.2.1 else if c = 89 ∧ i = 21 then nI cl else F c i
section QF
variable (F : FT) (pl tk : Nat) (vl : Int32) (bg cl : Nat) (te : TeS)
theorem q2 : qF F pl tk vl bg cl te 89 2 = F 89 2 := by simp [qF]
theorem q5 : qF F pl tk vl bg cl te 89 5 = F 89 5 := by simp [qF]
theorem q9 : qF F pl tk vl bg cl te 89 9 = F 89 9 := by simp [qF]
theorem q10 : qF F pl tk vl bg cl te 89 10 = nI pl := by simp [qF]
theorem q11 : qF F pl tk vl bg cl te 89 11 = nI tk := by simp [qF]
theorem q12 : qF F pl tk vl bg cl te 89 12 = vl := by simp [qF]
theorem q13 : qF F pl tk vl bg cl te 89 13 = nI bg := by simp [qF]
theorem q14 : qF F pl tk vl bg cl te 89 14 = nI te.1 := by simp [qF]
theorem q18 : qF F pl tk vl bg cl te 89 18 = nI te.2.1 := by simp [qF]
theorem q21 : qF F pl tk vl bg cl te 89 21 = nI cl := by simp [qF]
theorem qu10 (x : Nat) : u2 (qF F pl tk vl bg cl te) 89 10 (nI x) = qF F x tk vl bg cl te := by
  funext c i; simp only [u2_at, qF]; by_cases h : c = 89 ∧ i = 10 <;> simp [h]
theorem qu11 (x : Nat) : u2 (qF F pl tk vl bg cl te) 89 11 (nI x) = qF F pl x vl bg cl te := by
  funext c i; simp only [u2_at, qF]; by_cases h : c = 89 ∧ i = 11 <;> simp [h]
theorem qu12 (x : Int32) : u2 (qF F pl tk vl bg cl te) 89 12 x = qF F pl tk x bg cl te := by
  funext c i; simp only [u2_at, qF]; by_cases h : c = 89 ∧ i = 12 <;> simp [h]
theorem qu13 (x : Nat) : u2 (qF F pl tk vl bg cl te) 89 13 (nI x) = qF F pl tk vl x cl te := by
  funext c i; simp only [u2_at, qF]; by_cases h : c = 89 ∧ i = 13 <;> simp [h]
theorem qu14 (x : Nat) : u2 (qF F pl tk vl bg cl te) 89 14 (nI x) = qF F pl tk vl bg cl (x, te.2) := by
  funext c i; simp only [u2_at, qF]; by_cases h : c = 89 ∧ i = 14 <;> simp [h]
theorem qu18 (x : Nat) : u2 (qF F pl tk vl bg cl te) 89 18 (nI x) = qF F pl tk vl bg cl (te.1, x, te.2.2) := by
  funext c i; simp only [u2_at, qF]; by_cases h : c = 89 ∧ i = 18 <;> simp [h]
theorem qu21 (x : Nat) : u2 (qF F pl tk vl bg cl te) 89 21 (nI x) = qF F pl tk vl bg x te := by
  funext c i; simp only [u2_at, qF]; by_cases h : c = 89 ∧ i = 21 <;> simp [h]
end QF
theorem in_az (x : Int32) : inL x.toInt64 97 122 = decide (srt x = 1) := by
  rw [in_c (lo := nI 97) (hi := nI 122) (by decide +kernel) (by decide +kernel)]
  unfold srt
  by_cases h : ¬ x < nI 97 ∧ ¬ nI 122 < x
  · rw [if_pos h, decide_eq_false (fun z => z.elim h.1 h.2)]; rfl
  · rw [if_neg h, decide_eq_true (by
      by_cases q : x < nI 97
      · exact Or.inl q
      · exact Or.inr (Classical.byContradiction (fun z => h ⟨q, z⟩)))]
    split <;> rfl
theorem in_09 (x : Int32) : inL x.toInt64 48 57 = decide (srt x = 2) := by
  rw [in_c (lo := nI 48) (hi := nI 57) (by decide +kernel) (by decide +kernel)]
  unfold srt
  by_cases h : ¬ x < nI 48 ∧ ¬ nI 57 < x
  · rw [if_neg (fun z => z.1 (Int32.lt_of_le_of_lt (Int32.not_lt.mp h.2) (by decide))), if_pos h, decide_eq_false (fun z => z.elim h.1 h.2)]; rfl
  · rw [if_neg h, decide_eq_true (by
      by_cases q : x < nI 48
      · exact Or.inl q
      · exact Or.inr (Classical.byContradiction (fun z => h ⟨q, z⟩)))]
    split <;> rfl
def ltA (tx : List Int32) (n k : Nat) : Int32 := if k < n then tx.getD k 0 else nI 0
def tkN (tx : List Int32) (n b : Nat) : Nat := if n ≤ b then 3 else srt (tx.getD b 0)
def viS (tx : List Int32) : Nat → Int32 → Int32 := fun i v => if nI 99 < v then v else digS tx i v
def tvI (tx : List Int32) (n b e : Nat) : Int32 := if n ≤ b then nI 0 else if srt (tx.getD b 0) = 2 then (if 2 < e - b then nI 999 else numV tx b e) else if srt (tx.getD b 0) = 1 then nI 0 else tx.getD b 0
theorem srt_lt (x : Int32) : srt x < 3 := by
  unfold srt
  split
  · decide
  · split <;> decide
theorem srt_2 {x : Int32} (h : srt x = 2) : ∃ c, 48 ≤ c ∧ c ≤ 57 ∧ x = nI c := by
  unfold srt at h
  split at h
  · cases h
  · split at h
    · rename_i h2
      have h0 : ¬ x < 0 := fun z => h2.1 (Int32.lt_trans z (by decide))
      obtain ⟨j, hj, rfl⟩ := nI_of h0
      exact ⟨j, (nI_leI (by decide) hj).mp (Int32.not_lt.mp h2.1), (nI_leI hj (by decide)).mp (Int32.not_lt.mp h2.2), rfl⟩
    · cases h
theorem srt_1 {x : Int32} (h : srt x = 1) : ∃ c, 97 ≤ c ∧ c ≤ 122 ∧ x = nI c := by
  unfold srt at h
  split at h
  · rename_i h2
    have h0 : ¬ x < 0 := fun z => h2.1 (Int32.lt_trans z (by decide))
    obtain ⟨j, hj, rfl⟩ := nI_of h0
    exact ⟨j, (nI_leI (by decide) hj).mp (Int32.not_lt.mp h2.1), (nI_leI hj (by decide)).mp (Int32.not_lt.mp h2.2), rfl⟩
  · split at h <;> cases h
theorem srt_0 : srt (nI 0) = 0 := by decide +kernel
theorem dig_v {tx : List Int32} {k : Nat} (h : srt (tx.getD k 0) = 2) : ∃ c, c ≤ 9 ∧ digS tx k (nI 0) = nI c := by
  obtain ⟨c, h1, h2, e⟩ := srt_2 h
  refine ⟨c - 48, by omega, ?_⟩
  rw [digS, e, pk_mul, nI_add, pk_sub (by omega)]
  congr 1
  omega
theorem vi_num {tx : List Int32} {b e : Nat} (h : srt (tx.getD b 0) = 2) (h1 : b < e) (h2 : ¬ 2 < e - b) : iter (viS tx) (e - b) b (nI 0) = numV tx b e := by
  have q0 : viS tx b (nI 0) = digS tx b (nI 0) := by rw [viS, if_neg (by decide)]
  rw [numV]
  have : e - b = 1 ∨ e - b = 2 := by omega
  rcases this with q | q
  · rw [q]
    exact q0
  · rw [q]
    show viS tx (b + 1) (viS tx b (nI 0)) = digS tx (b + 1) (digS tx b (nI 0))
    obtain ⟨c, hc, ec⟩ := dig_v h
    rw [q0, viS, ec, if_neg (nI_nlt (by omega) (by omega))]
theorem m_lt (d : Nat) (F : FT) (G : GT) (tx : List Int32) (n k : Nat) (hn : n ≤ 160) (hF : F 89 9 = nI n) (hG : G 96 = tx) (hk : k ≤ n) : Kp DX7_letterAt d [.ref 89, .int (nI k)] F G (some (.int (ltA tx n k))) := by
  have h := m_letterAt d F G n k hF hn hk
  rw [hG] at h
  exact h
theorem m_nextToken (d : Nat) (hd : 2 ≤ d) (F : FT) (G : GT) (tx : List Int32) (n pl tk : Nat) (vl : Int32) (bg cl : Nat) (te : TeS) (hn : n ≤ 160) (hF : F 89 9 = nI n) (hG : G 96 = tx) (he : pl ≤ n) : Kc DX7_nextToken d [.ref 89] (qF F pl tk vl bg cl te) G (fun v F' G' => v = none ∧ F' = qF F (stepP tx n pl).2 (tkN tx n (stepP tx n pl).1) (tvI tx n (stepP tx n pl).1 (stepP tx n pl).2) (stepP tx n pl).1 cl te ∧ G' = G) := by
  have cL : ∀ (k tk : Nat) (vl : Int32) (bg : Nat), k ≤ n → Kp DX7_letterAt (d - 1) [.ref 89, .int (nI k)] (qF F k tk vl bg cl te) G (some (.int (ltA tx n k))) := fun k tk vl bg hk => m_lt _ _ G tx n k hn (by rw [q9]; exact hF) hG hk
  refine Kc.ofT [some (.ref 89)] pn_X7 (Nat.le_of_ble_eq_true rfl) rfl ?_
  have end13 : ∀ (k tk : Nat) (vl : Int32) (b : Nat), (tk = 1 ∨ tk = 3) → T DX7_nextToken d 193 [some (.ref 89)] [] (qF F k tk vl b cl te) G (fun v F' G' => v = none ∧ F' = qF F k tk vl b cl te ∧ G' = G) := by
    intro k tk vl b ht
    refine T_al0 dX7_nextToken_193 ?_
    refine T_g7 gX7_100 (cell_89 _ _) rfl dX7_nextToken_194 ?_
    rw [q11]
    refine T_iconst (v := nI 2) dX7_nextToken_197 rfl ?_
    refine T_nne_t 221 dX7_nextToken_198 (by decide) (by omega) (by omega) (by omega) ?_
    refine T_al0 dX7_nextToken_221 ?_
    refine T_g7 gX7_100 (cell_89 _ _) rfl dX7_nextToken_222 ?_
    rw [q11]
    refine T_if_ne_t 251 dX7_nextToken_225 (by decide) (nI_ne0 (by omega) (by omega)) ?_
    refine T_vret rfl dX7_nextToken_251 ?_
    exact ⟨rfl, rfl, rfl⟩
  have loopA : ∀ (f k b : Nat), k + f = n → T DX7_nextToken d 59 [some (.ref 89)] [] (qF F k 1 (nI 0) b cl te) G (fun v F' G' => v = none ∧ F' = qF F (runB tx n 1 f k) 1 (nI 0) b cl te ∧ G' = G) := by
    intro f
    induction f with
    | zero =>
      intro k b hk
      refine T_al0 dX7_nextToken_59 ?_
      refine T_g7 gX7_100 (cell_89 _ _) rfl dX7_nextToken_60 ?_
      rw [q11]
      refine T_iconst (v := nI 2) dX7_nextToken_63 rfl ?_
      refine T_nge_f 106 dX7_nextToken_64 (by decide) (by omega) (by omega) (by omega) ?_
      refine T_al0 dX7_nextToken_67 ?_
      refine T_al0 dX7_nextToken_68 ?_
      refine T_g7 gX7_87 (cell_89 _ _) rfl dX7_nextToken_69 ?_
      rw [q10]
      refine T_pV1 lX7_90 rfl (by decide) (cell_89 _ _) (cL k 1 (nI 0) b (by omega)) (by omega) (Nat.le_of_ble_eq_true rfl) dX7_nextToken_72 ?_
      rw [ltA, if_neg (by omega)]
      refine T_i2l dX7_nextToken_75 ?_
      refine T_ldc2 kX7_103 dX7_nextToken_76 ?_
      refine T_ldc2 kX7_105 dX7_nextToken_79 ?_
      refine T_pS3 lX7_78 (m_in _ _ _ _ _ _) (by omega) (Nat.le_of_ble_eq_true rfl) dX7_nextToken_82 ?_
      rw [in_az, srt_0]
      refine T_beq_t 106 dX7_nextToken_85 (by decide) rfl ?_
      refine T_al0 dX7_nextToken_106 ?_
      refine T_g7 gX7_100 (cell_89 _ _) rfl dX7_nextToken_107 ?_
      rw [q11]
      refine T_iconst (v := nI 1) dX7_nextToken_110 rfl ?_
      refine T_neq_t 193 dX7_nextToken_111 (by decide) (by omega) (by omega) (by omega) ?_
      exact end13 k 1 (nI 0) b (Or.inl rfl)
    | succ f ih =>
      intro k b hk
      refine T_al0 dX7_nextToken_59 ?_
      refine T_g7 gX7_100 (cell_89 _ _) rfl dX7_nextToken_60 ?_
      rw [q11]
      refine T_iconst (v := nI 2) dX7_nextToken_63 rfl ?_
      refine T_nge_f 106 dX7_nextToken_64 (by decide) (by omega) (by omega) (by omega) ?_
      refine T_al0 dX7_nextToken_67 ?_
      refine T_al0 dX7_nextToken_68 ?_
      refine T_g7 gX7_87 (cell_89 _ _) rfl dX7_nextToken_69 ?_
      rw [q10]
      refine T_pV1 lX7_90 rfl (by decide) (cell_89 _ _) (cL k 1 (nI 0) b (by omega)) (by omega) (Nat.le_of_ble_eq_true rfl) dX7_nextToken_72 ?_
      rw [ltA, if_pos (by omega)]
      refine T_i2l dX7_nextToken_75 ?_
      refine T_ldc2 kX7_103 dX7_nextToken_76 ?_
      refine T_ldc2 kX7_105 dX7_nextToken_79 ?_
      refine T_pS3 lX7_78 (m_in _ _ _ _ _ _) (by omega) (Nat.le_of_ble_eq_true rfl) dX7_nextToken_82 ?_
      rw [in_az, runB]
      refine T_beq 106 dX7_nextToken_85 (by decide) (fun h1 => ?_) (fun h1 => ?_)
      · have h1 := of_decide_eq_false h1
        rw [if_neg (fun z => h1 z.2)]
        refine T_al0 dX7_nextToken_106 ?_
        refine T_g7 gX7_100 (cell_89 _ _) rfl dX7_nextToken_107 ?_
        rw [q11]
        refine T_iconst (v := nI 1) dX7_nextToken_110 rfl ?_
        refine T_neq_t 193 dX7_nextToken_111 (by decide) (by omega) (by omega) (by omega) ?_
        exact end13 k 1 (nI 0) b (Or.inl rfl)
      · have h1 := of_decide_eq_true h1
        rw [if_pos ⟨by omega, h1⟩]
        refine T_al0 dX7_nextToken_88 ?_
        refine T_iconst (v := nI 1) dX7_nextToken_89 rfl ?_
        refine T_put7_11 pX7_100 dX7_nextToken_90 ?_
        rw [qu11]
        refine T_al0 dX7_nextToken_93 ?_
        refine T_dup dX7_nextToken_94 rfl ?_
        refine T_g7 gX7_87 (cell_89 _ _) rfl dX7_nextToken_95 ?_
        rw [q10]
        refine T_iconst (v := nI 1) dX7_nextToken_98 rfl ?_
        first | refine T_iaddN dX7_nextToken_99 ?_ | refine T_iadd dX7_nextToken_99 ?_
        refine T_put7_10 pX7_87 dX7_nextToken_100 ?_
        rw [qu10]
        refine T_goto 59 dX7_nextToken_103 (by decide) ?_
        exact ih (k + 1) b (by omega)
  have endD : ∀ (k : Nat) (vl : Int32) (b : Nat), b ≤ k → k ≤ n → T DX7_nextToken d 193 [some (.ref 89)] [] (qF F k 2 vl b cl te) G (fun v F' G' => v = none ∧ F' = qF F k 2 (if 2 < k - b then nI 999 else vl) b cl te ∧ G' = G) := by
    intro k vl b hb hk
    refine T_al0 dX7_nextToken_193 ?_
    refine T_g7 gX7_100 (cell_89 _ _) rfl dX7_nextToken_194 ?_
    rw [q11]
    refine T_iconst (v := nI 2) dX7_nextToken_197 rfl ?_
    refine T_nne_f 221 dX7_nextToken_198 (by decide) (by omega) (by omega) (by omega) ?_
    refine T_al0 dX7_nextToken_201 ?_
    refine T_g7 gX7_87 (cell_89 _ _) rfl dX7_nextToken_202 ?_
    rw [q10]
    refine T_al0 dX7_nextToken_205 ?_
    refine T_g7 gX7_94 (cell_89 _ _) rfl dX7_nextToken_206 ?_
    rw [q13]
    refine T_isubN dX7_nextToken_209 hb ?_
    refine T_iconst (v := nI 2) dX7_nextToken_210 rfl ?_
    refine T_nle 221 dX7_nextToken_211 (by decide) (by omega) (by omega) (fun h1 => ?_) (fun h1 => ?_)
    · rw [if_neg (by omega)]
      refine T_al0 dX7_nextToken_221 ?_
      refine T_g7 gX7_100 (cell_89 _ _) rfl dX7_nextToken_222 ?_
      rw [q11]
      refine T_if_ne_t 251 dX7_nextToken_225 (by decide) (nI_ne0 (by decide) (by decide)) ?_
      refine T_vret rfl dX7_nextToken_251 ?_
      exact ⟨rfl, rfl, rfl⟩
    · rw [if_pos h1]
      refine T_al0 dX7_nextToken_214 ?_
      refine T_sipush (v := nI 999) dX7_nextToken_215 (by decide +kernel) ?_
      refine T_put7_12 pX7_97 dX7_nextToken_218 ?_
      rw [qu12]
      refine T_al0 dX7_nextToken_221 ?_
      refine T_g7 gX7_100 (cell_89 _ _) rfl dX7_nextToken_222 ?_
      rw [q11]
      refine T_if_ne_t 251 dX7_nextToken_225 (by decide) (nI_ne0 (by decide) (by decide)) ?_
      refine T_vret rfl dX7_nextToken_251 ?_
      exact ⟨rfl, rfl, rfl⟩
  have one : ∀ (k tk : Nat) (vl : Int32) (b : Nat) (P : Option Value → FT → GT → Prop), k < n → tk < 4 → ¬ tk = 1 → srt (tx.getD k 0) = 2 → T DX7_nextToken d 106 [some (.ref 89)] [] (qF F (k + 1) 2 (viS tx k vl) b cl te) G P → T DX7_nextToken d 106 [some (.ref 89)] [] (qF F k tk vl b cl te) G P := by
    intro k tk vl b P hk ht4 ht hs h
    refine T_al0 dX7_nextToken_106 ?_
    refine T_g7 gX7_100 (cell_89 _ _) rfl dX7_nextToken_107 ?_
    rw [q11]
    refine T_iconst (v := nI 1) dX7_nextToken_110 rfl ?_
    refine T_neq_f 193 dX7_nextToken_111 (by decide) (by omega) (by omega) (by omega) ?_
    refine T_al0 dX7_nextToken_114 ?_
    refine T_al0 dX7_nextToken_115 ?_
    refine T_g7 gX7_87 (cell_89 _ _) rfl dX7_nextToken_116 ?_
    rw [q10]
    refine T_pV1 lX7_90 rfl (by decide) (cell_89 _ _) (cL k tk vl b (by omega)) (by omega) (Nat.le_of_ble_eq_true rfl) dX7_nextToken_119 ?_
    rw [ltA, if_pos hk]
    refine T_i2l dX7_nextToken_122 ?_
    refine T_ldc2 kX7_107 dX7_nextToken_123 ?_
    refine T_ldc2 kX7_109 dX7_nextToken_126 ?_
    refine T_pS3 lX7_78 (m_in _ _ _ _ _ _) (by omega) (Nat.le_of_ble_eq_true rfl) dX7_nextToken_129 ?_
    rw [in_09]
    refine T_beq_f 193 dX7_nextToken_132 (by decide) (decide_eq_true hs) ?_
    refine T_al0 dX7_nextToken_135 ?_
    refine T_al0 dX7_nextToken_136 ?_
    refine T_g7 gX7_97 (cell_89 _ _) rfl dX7_nextToken_137 ?_
    rw [q12]
    refine T_bipush (v := nI 99) dX7_nextToken_140 (by decide +kernel) ?_
    have rest : ∀ w : Int32, w = viS tx k vl → T DX7_nextToken d 172 [some (.ref 89)] [.int w, .ref 89] (qF F k tk vl b cl te) G P := by
      intro w hw
      refine T_put7_12 pX7_97 dX7_nextToken_172 ?_
      rw [qu12]
      refine T_al0 dX7_nextToken_175 ?_
      refine T_iconst (v := nI 2) dX7_nextToken_176 rfl ?_
      refine T_put7_11 pX7_100 dX7_nextToken_177 ?_
      rw [qu11]
      refine T_al0 dX7_nextToken_180 ?_
      refine T_dup dX7_nextToken_181 rfl ?_
      refine T_g7 gX7_87 (cell_89 _ _) rfl dX7_nextToken_182 ?_
      rw [q10]
      refine T_iconst (v := nI 1) dX7_nextToken_185 rfl ?_
      first | refine T_iaddN dX7_nextToken_186 ?_ | refine T_iadd dX7_nextToken_186 ?_
      refine T_put7_10 pX7_87 dX7_nextToken_187 ?_
      rw [qu10, hw]
      refine T_goto 106 dX7_nextToken_190 (by decide) ?_
      exact h
    refine T_icmp_le 152 dX7_nextToken_142 (by decide) (fun h1 => ?_) (fun h1 => ?_)
    · refine T_bipush (v := nI 10) dX7_nextToken_152 (by decide +kernel) ?_
      refine T_al0 dX7_nextToken_154 ?_
      refine T_g7 gX7_97 (cell_89 _ _) rfl dX7_nextToken_155 ?_
      rw [q12]
      refine T_imul dX7_nextToken_158 ?_
      refine T_al0 dX7_nextToken_159 ?_
      refine T_g7 gX7_28 (cell_89 _ _) rfl dX7_nextToken_160 ?_
      refine T_al0 dX7_nextToken_163 ?_
      refine T_g7 gX7_87 (cell_89 _ _) rfl dX7_nextToken_164 ?_
      rw [q10]
      refine T_aldN rfl (show _ < 160 by omega) dX7_nextToken_167 ?_
      rw [hG]
      refine T_iadd dX7_nextToken_168 ?_
      refine T_bipush (v := nI 48) dX7_nextToken_169 (by decide +kernel) ?_
      refine T_isub dX7_nextToken_171 ?_
      exact rest _ (by rw [viS, if_neg (Int32.not_lt.mpr h1), digS])
    · refine T_al0 dX7_nextToken_145 ?_
      refine T_g7 gX7_97 (cell_89 _ _) rfl dX7_nextToken_146 ?_
      rw [q12]
      refine T_goto 172 dX7_nextToken_149 (by decide) ?_
      exact rest _ (by rw [viS, if_pos (Int32.not_le.mp h1)])
  have loopD : ∀ (f k : Nat) (vl : Int32) (b : Nat), b ≤ k → k + f = n → T DX7_nextToken d 106 [some (.ref 89)] [] (qF F k 2 vl b cl te) G (fun v F' G' => v = none ∧ F' = qF F (runB tx n 2 f k) 2 (if 2 < runB tx n 2 f k - b then nI 999 else iter (viS tx) (runB tx n 2 f k - k) k vl) b cl te ∧ G' = G) := by
    intro f
    induction f with
    | zero =>
      intro k vl b hb hk
      rw [runB, Nat.sub_self]
      refine T_al0 dX7_nextToken_106 ?_
      refine T_g7 gX7_100 (cell_89 _ _) rfl dX7_nextToken_107 ?_
      rw [q11]
      refine T_iconst (v := nI 1) dX7_nextToken_110 rfl ?_
      refine T_neq_f 193 dX7_nextToken_111 (by decide) (by omega) (by omega) (by omega) ?_
      refine T_al0 dX7_nextToken_114 ?_
      refine T_al0 dX7_nextToken_115 ?_
      refine T_g7 gX7_87 (cell_89 _ _) rfl dX7_nextToken_116 ?_
      rw [q10]
      refine T_pV1 lX7_90 rfl (by decide) (cell_89 _ _) (cL k 2 vl b (by omega)) (by omega) (Nat.le_of_ble_eq_true rfl) dX7_nextToken_119 ?_
      rw [ltA, if_neg (by omega)]
      refine T_i2l dX7_nextToken_122 ?_
      refine T_ldc2 kX7_107 dX7_nextToken_123 ?_
      refine T_ldc2 kX7_109 dX7_nextToken_126 ?_
      refine T_pS3 lX7_78 (m_in _ _ _ _ _ _) (by omega) (Nat.le_of_ble_eq_true rfl) dX7_nextToken_129 ?_
      rw [in_09, srt_0]
      refine T_beq_t 193 dX7_nextToken_132 (by decide) rfl ?_
      exact endD k vl b hb (by omega)
    | succ f ih =>
      intro k vl b hb hk
      rw [runB]
      by_cases h1 : srt (tx.getD k 0) = 2
      · rw [if_pos ⟨by omega, h1⟩]
        refine one k 2 vl b _ (by omega) (by decide) (by decide) h1 ?_
        have hle := runB_le tx n 2 f (k + 1) (by omega)
        have h := ih (k + 1) (viS tx k vl) b (by omega) (by omega)
        rw [show runB tx n 2 f (k + 1) - k = (runB tx n 2 f (k + 1) - (k + 1)) + 1 by omega, iter]
        exact h
      · rw [if_neg (fun z => h1 z.2), Nat.sub_self]
        refine T_al0 dX7_nextToken_106 ?_
        refine T_g7 gX7_100 (cell_89 _ _) rfl dX7_nextToken_107 ?_
        rw [q11]
        refine T_iconst (v := nI 1) dX7_nextToken_110 rfl ?_
        refine T_neq_f 193 dX7_nextToken_111 (by decide) (by omega) (by omega) (by omega) ?_
        refine T_al0 dX7_nextToken_114 ?_
        refine T_al0 dX7_nextToken_115 ?_
        refine T_g7 gX7_87 (cell_89 _ _) rfl dX7_nextToken_116 ?_
        rw [q10]
        refine T_pV1 lX7_90 rfl (by decide) (cell_89 _ _) (cL k 2 vl b (by omega)) (by omega) (Nat.le_of_ble_eq_true rfl) dX7_nextToken_119 ?_
        rw [ltA, if_pos (by omega)]
        refine T_i2l dX7_nextToken_122 ?_
        refine T_ldc2 kX7_107 dX7_nextToken_123 ?_
        refine T_ldc2 kX7_109 dX7_nextToken_126 ?_
        refine T_pS3 lX7_78 (m_in _ _ _ _ _ _) (by omega) (Nat.le_of_ble_eq_true rfl) dX7_nextToken_129 ?_
        rw [in_09]
        refine T_beq_t 193 dX7_nextToken_132 (by decide) (decide_eq_false h1) ?_
        exact endD k vl b hb (by omega)
  have fin : ∀ b, b ≤ n → T DX7_nextToken d 26 [some (.ref 89)] [] (qF F b tk vl bg cl te) G (fun v F' G' => v = none ∧ F' = qF F (tokE tx n b) (tkN tx n b) (tvI tx n b (tokE tx n b)) b cl te ∧ G' = G) := by
    intro b hb
    refine T_al0 dX7_nextToken_26 ?_
    refine T_al0 dX7_nextToken_27 ?_
    refine T_g7 gX7_87 (cell_89 _ _) rfl dX7_nextToken_28 ?_
    rw [q10]
    refine T_put7_13 pX7_94 dX7_nextToken_31 ?_
    rw [qu13]
    refine T_al0 dX7_nextToken_34 ?_
    refine T_iconst (v := nI 0) dX7_nextToken_35 rfl ?_
    refine T_put7_12 pX7_97 dX7_nextToken_36 ?_
    rw [qu12]
    rcases Nat.lt_or_ge b n with h1 | h1
    · refine T_al0 dX7_nextToken_39 ?_
      refine T_al0 dX7_nextToken_40 ?_
      refine T_g7 gX7_87 (cell_89 _ _) rfl dX7_nextToken_41 ?_
      rw [q10]
      refine T_al0 dX7_nextToken_44 ?_
      refine T_g7 gX7_84 (cell_89 _ _) rfl dX7_nextToken_45 ?_
      rw [q9, hF]
      refine T_nne_t 55 dX7_nextToken_48 (by decide) (by omega) (by omega) (by omega) ?_
      refine T_iconst (v := nI 0) dX7_nextToken_55 rfl ?_
      refine T_put7_11 pX7_100 dX7_nextToken_56 ?_
      rw [qu11, tokE, tkN, tvI, if_neg (show ¬ n ≤ b by omega), if_neg (show ¬ n ≤ b by omega), if_neg (show ¬ n ≤ b by omega)]
      have h3 := srt_lt (tx.getD b 0)
      refine T_al0 dX7_nextToken_59 ?_
      refine T_g7 gX7_100 (cell_89 _ _) rfl dX7_nextToken_60 ?_
      rw [q11]
      refine T_iconst (v := nI 2) dX7_nextToken_63 rfl ?_
      refine T_nge_f 106 dX7_nextToken_64 (by decide) (by omega) (by omega) (by omega) ?_
      refine T_al0 dX7_nextToken_67 ?_
      refine T_al0 dX7_nextToken_68 ?_
      refine T_g7 gX7_87 (cell_89 _ _) rfl dX7_nextToken_69 ?_
      rw [q10]
      refine T_pV1 lX7_90 rfl (by decide) (cell_89 _ _) (cL b 0 (nI 0) b (by omega)) (by omega) (Nat.le_of_ble_eq_true rfl) dX7_nextToken_72 ?_
      rw [ltA, if_pos h1]
      refine T_i2l dX7_nextToken_75 ?_
      refine T_ldc2 kX7_103 dX7_nextToken_76 ?_
      refine T_ldc2 kX7_105 dX7_nextToken_79 ?_
      refine T_pS3 lX7_78 (m_in _ _ _ _ _ _) (by omega) (Nat.le_of_ble_eq_true rfl) dX7_nextToken_82 ?_
      rw [in_az]
      refine T_beq 106 dX7_nextToken_85 (by decide) (fun h4 => ?_) (fun h4 => ?_)
      · have h4 := of_decide_eq_false h4
        by_cases h5 : srt (tx.getD b 0) = 2
        · rw [h5, if_neg (show ¬ (2 : Nat) = 0 by decide), if_pos (show (2 : Nat) = 2 from rfl)]
          refine one b 0 (nI 0) b _ h1 (by decide) (by decide) h5 ?_
          have h := loopD (n - (b + 1)) (b + 1) (viS tx b (nI 0)) b (by omega) (by omega)
          have hle := runB_le tx n 2 (n - (b + 1)) (b + 1) (by omega)
          generalize runB tx n 2 (n - (b + 1)) (b + 1) = e at h hle ⊢
          by_cases h6 : 2 < e - b
          · rw [if_pos h6] at h ⊢
            exact h
          · rw [if_neg h6] at h ⊢
            rw [← vi_num h5 (by omega) h6, show e - b = (e - (b + 1)) + 1 by omega, iter]
            exact h
        · have h6 : srt (tx.getD b 0) = 0 := by omega
          rw [h6, if_pos (show (0 : Nat) = 0 from rfl), if_neg (show ¬ (0 : Nat) = 2 by decide), if_neg (show ¬ (0 : Nat) = 1 by decide)]
          refine T_al0 dX7_nextToken_106 ?_
          refine T_g7 gX7_100 (cell_89 _ _) rfl dX7_nextToken_107 ?_
          rw [q11]
          refine T_iconst (v := nI 1) dX7_nextToken_110 rfl ?_
          refine T_neq_f 193 dX7_nextToken_111 (by decide) (by omega) (by omega) (by omega) ?_
          refine T_al0 dX7_nextToken_114 ?_
          refine T_al0 dX7_nextToken_115 ?_
          refine T_g7 gX7_87 (cell_89 _ _) rfl dX7_nextToken_116 ?_
          rw [q10]
          refine T_pV1 lX7_90 rfl (by decide) (cell_89 _ _) (cL b 0 (nI 0) b (by omega)) (by omega) (Nat.le_of_ble_eq_true rfl) dX7_nextToken_119 ?_
          rw [ltA, if_pos h1]
          refine T_i2l dX7_nextToken_122 ?_
          refine T_ldc2 kX7_107 dX7_nextToken_123 ?_
          refine T_ldc2 kX7_109 dX7_nextToken_126 ?_
          refine T_pS3 lX7_78 (m_in _ _ _ _ _ _) (by omega) (Nat.le_of_ble_eq_true rfl) dX7_nextToken_129 ?_
          rw [in_09]
          refine T_beq_t 193 dX7_nextToken_132 (by decide) (decide_eq_false h5) ?_
          refine T_al0 dX7_nextToken_193 ?_
          refine T_g7 gX7_100 (cell_89 _ _) rfl dX7_nextToken_194 ?_
          rw [q11]
          refine T_iconst (v := nI 2) dX7_nextToken_197 rfl ?_
          refine T_nne_t 221 dX7_nextToken_198 (by decide) (by omega) (by omega) (by omega) ?_
          refine T_al0 dX7_nextToken_221 ?_
          refine T_g7 gX7_100 (cell_89 _ _) rfl dX7_nextToken_222 ?_
          rw [q11]
          refine T_if_ne_f 251 dX7_nextToken_225 (by decide) nI_0 ?_
          refine T_al0 dX7_nextToken_228 ?_
          refine T_al0 dX7_nextToken_229 ?_
          refine T_g7 gX7_28 (cell_89 _ _) rfl dX7_nextToken_230 ?_
          refine T_al0 dX7_nextToken_233 ?_
          refine T_g7 gX7_87 (cell_89 _ _) rfl dX7_nextToken_234 ?_
          rw [q10]
          refine T_aldN rfl (show _ < 160 by omega) dX7_nextToken_237 ?_
          rw [hG]
          refine T_put7_12 pX7_97 dX7_nextToken_238 ?_
          rw [qu12]
          refine T_al0 dX7_nextToken_241 ?_
          refine T_dup dX7_nextToken_242 rfl ?_
          refine T_g7 gX7_87 (cell_89 _ _) rfl dX7_nextToken_243 ?_
          rw [q10]
          refine T_iconst (v := nI 1) dX7_nextToken_246 rfl ?_
          first | refine T_iaddN dX7_nextToken_247 ?_ | refine T_iadd dX7_nextToken_247 ?_
          refine T_put7_10 pX7_87 dX7_nextToken_248 ?_
          rw [qu10]
          refine T_vret rfl dX7_nextToken_251 ?_
          exact ⟨rfl, rfl, rfl⟩
      · have h4 := of_decide_eq_true h4
        rw [h4, if_neg (show ¬ (1 : Nat) = 0 by decide), if_neg (show ¬ (1 : Nat) = 2 by decide), if_pos (show (1 : Nat) = 1 from rfl)]
        refine T_al0 dX7_nextToken_88 ?_
        refine T_iconst (v := nI 1) dX7_nextToken_89 rfl ?_
        refine T_put7_11 pX7_100 dX7_nextToken_90 ?_
        rw [qu11]
        refine T_al0 dX7_nextToken_93 ?_
        refine T_dup dX7_nextToken_94 rfl ?_
        refine T_g7 gX7_87 (cell_89 _ _) rfl dX7_nextToken_95 ?_
        rw [q10]
        refine T_iconst (v := nI 1) dX7_nextToken_98 rfl ?_
        first | refine T_iaddN dX7_nextToken_99 ?_ | refine T_iadd dX7_nextToken_99 ?_
        refine T_put7_10 pX7_87 dX7_nextToken_100 ?_
        rw [qu10]
        refine T_goto 59 dX7_nextToken_103 (by decide) ?_
        exact loopA (n - (b + 1)) (b + 1) b (by omega)
    · refine T_al0 dX7_nextToken_39 ?_
      refine T_al0 dX7_nextToken_40 ?_
      refine T_g7 gX7_87 (cell_89 _ _) rfl dX7_nextToken_41 ?_
      rw [q10]
      refine T_al0 dX7_nextToken_44 ?_
      refine T_g7 gX7_84 (cell_89 _ _) rfl dX7_nextToken_45 ?_
      rw [q9, hF]
      refine T_nne_f 55 dX7_nextToken_48 (by decide) (by omega) (by omega) (by omega) ?_
      refine T_iconst (v := nI 3) dX7_nextToken_51 rfl ?_
      refine T_goto 56 dX7_nextToken_52 (by decide) ?_
      refine T_put7_11 pX7_100 dX7_nextToken_56 ?_
      rw [qu11, tokE, tkN, tvI, if_pos h1, if_pos h1, if_pos h1]
      refine T_al0 dX7_nextToken_59 ?_
      refine T_g7 gX7_100 (cell_89 _ _) rfl dX7_nextToken_60 ?_
      rw [q11]
      refine T_iconst (v := nI 2) dX7_nextToken_63 rfl ?_
      refine T_nge_t 106 dX7_nextToken_64 (by decide) (by omega) (by omega) (by omega) ?_
      refine T_al0 dX7_nextToken_106 ?_
      refine T_g7 gX7_100 (cell_89 _ _) rfl dX7_nextToken_107 ?_
      rw [q11]
      refine T_iconst (v := nI 1) dX7_nextToken_110 rfl ?_
      refine T_neq_f 193 dX7_nextToken_111 (by decide) (by omega) (by omega) (by omega) ?_
      refine T_al0 dX7_nextToken_114 ?_
      refine T_al0 dX7_nextToken_115 ?_
      refine T_g7 gX7_87 (cell_89 _ _) rfl dX7_nextToken_116 ?_
      rw [q10]
      refine T_pV1 lX7_90 rfl (by decide) (cell_89 _ _) (cL b 3 (nI 0) b (by omega)) (by omega) (Nat.le_of_ble_eq_true rfl) dX7_nextToken_119 ?_
      rw [ltA, if_neg (by omega)]
      refine T_i2l dX7_nextToken_122 ?_
      refine T_ldc2 kX7_107 dX7_nextToken_123 ?_
      refine T_ldc2 kX7_109 dX7_nextToken_126 ?_
      refine T_pS3 lX7_78 (m_in _ _ _ _ _ _) (by omega) (Nat.le_of_ble_eq_true rfl) dX7_nextToken_129 ?_
      rw [in_09, srt_0]
      refine T_beq_t 193 dX7_nextToken_132 (by decide) rfl ?_
      exact end13 b 3 (nI 0) b (Or.inr rfl)
  suffices h : ∀ f k, k + f = n → T DX7_nextToken d 0 [some (.ref 89)] [] (qF F k tk vl bg cl te) G (fun v F' G' => v = none ∧ F' = qF F (tokE tx n (skipB tx n f k)) (tkN tx n (skipB tx n f k)) (tvI tx n (skipB tx n f k) (tokE tx n (skipB tx n f k))) (skipB tx n f k) cl te ∧ G' = G) from h (n - pl) pl (by omega)
  intro f
  induction f with
  | zero =>
    intro k hk
    refine T_al0 dX7_nextToken_0 ?_
    refine T_al0 dX7_nextToken_1 ?_
    refine T_g7 gX7_87 (cell_89 _ _) rfl dX7_nextToken_2 ?_
    rw [q10]
    refine T_pV1 lX7_90 rfl (by decide) (cell_89 _ _) (cL k tk vl bg (by omega)) (by omega) (Nat.le_of_ble_eq_true rfl) dX7_nextToken_5 ?_
    rw [ltA, if_neg (by omega)]
    refine T_bipush (v := nI 32) dX7_nextToken_8 (by decide +kernel) ?_
    refine T_nne_t 26 dX7_nextToken_10 (by decide) (by omega) (by omega) (by omega) ?_
    exact fin k (by omega)
  | succ f ih =>
    intro k hk
    refine T_al0 dX7_nextToken_0 ?_
    refine T_al0 dX7_nextToken_1 ?_
    refine T_g7 gX7_87 (cell_89 _ _) rfl dX7_nextToken_2 ?_
    rw [q10]
    refine T_pV1 lX7_90 rfl (by decide) (cell_89 _ _) (cL k tk vl bg (by omega)) (by omega) (Nat.le_of_ble_eq_true rfl) dX7_nextToken_5 ?_
    rw [ltA, if_pos (by omega), skipB]
    refine T_bipush (v := nI 32) dX7_nextToken_8 (by decide +kernel) ?_
    refine T_icmp_ne 26 dX7_nextToken_10 (by decide) (fun h1 => ?_) (fun h1 => ?_)
    · rw [if_neg (fun z => h1 z.2)]
      exact fin k (by omega)
    · rw [if_pos ⟨by omega, h1⟩]
      refine T_al0 dX7_nextToken_13 ?_
      refine T_dup dX7_nextToken_14 rfl ?_
      refine T_g7 gX7_87 (cell_89 _ _) rfl dX7_nextToken_15 ?_
      rw [q10]
      refine T_iconst (v := nI 1) dX7_nextToken_18 rfl ?_
      first | refine T_iaddN dX7_nextToken_19 ?_ | refine T_iadd dX7_nextToken_19 ?_
      refine T_put7_10 pX7_87 dX7_nextToken_20 ?_
      rw [qu10]
      refine T_goto 0 dX7_nextToken_23 (by decide) ?_
      exact ih (k + 1) (by omega)
