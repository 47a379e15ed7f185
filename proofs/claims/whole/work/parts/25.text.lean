/-! String.length and charAt over the text constants -/
theorem c_coder (d : Nat) (F : FT) (G : GT) (i : Nat) (hi : i < 10) : Kp DJ0_coder_7d493 d [.ref (1000 + i)] F G (some (.int 0)) := by
  refine Kc.ofT [some (.ref (1000 + i))] pn_J0 (Nat.le_of_ble_eq_true rfl) rfl ?_
  refine T_gets gsJ0_38 dJ0_coder_7d493_0 ?_
  refine T_if_eq_f 13 dJ0_coder_7d493_3 (by decide) (by decide) ?_
  refine T_al0 dJ0_coder_7d493_6 ?_
  refine T_scod hi gsJ0_15 dJ0_coder_7d493_7 ?_
  refine T_goto 14 dJ0_coder_7d493_10 (by decide) ?_
  refine T_zret rfl rfl dJ0_coder_7d493_14 ?_
  exact ⟨rfl, rfl, rfl⟩
theorem c_isLatin1 (d : Nat) (F : FT) (G : GT) (i : Nat) (hi : i < 10) : Kp DJ0_isLatin1_aae02 d [.ref (1000 + i)] F G (some (.int (nI 1))) := by
  refine Kc.ofT [some (.ref (1000 + i))] pn_J0 (Nat.le_of_ble_eq_true rfl) rfl ?_
  refine T_gets gsJ0_38 dJ0_isLatin1_aae02_0 ?_
  refine T_if_eq_f 17 dJ0_isLatin1_aae02_3 (by decide) (by decide) ?_
  refine T_al0 dJ0_isLatin1_aae02_6 ?_
  refine T_scod hi gsJ0_15 dJ0_isLatin1_aae02_7 ?_
  refine T_if_ne_f 17 dJ0_isLatin1_aae02_10 (by decide) (by decide) ?_
  refine T_iconst (v := nI 1) dJ0_isLatin1_aae02_13 rfl ?_
  refine T_goto 18 dJ0_isLatin1_aae02_14 (by decide) ?_
  refine T_bret1 rfl dJ0_isLatin1_aae02_18 ?_
  exact ⟨rfl, rfl, rfl⟩
theorem tx_len : ∀ i, i < 10 → txN.getD i 0 = (txB.getD i []).length ∧ txN.getD i 0 ≤ 7 := by decide
theorem tx_sh : ∀ n, n ≤ 7 → nI n >>> ((0 : Int32) &&& 31) = nI n := by decide +kernel
theorem c_slength (d : Nat) (hd : 1 ≤ d) (F : FT) (G : GT) (i : Nat) (hi : i < 10) : Kp DJ0_length_8abf5 d [.ref (1000 + i)] F G (some (.int (nI (txN.getD i 0)))) := by
  refine Kc.ofT [some (.ref (1000 + i))] pn_J0 (Nat.le_of_ble_eq_true rfl) rfl ?_
  refine T_al0 dJ0_length_8abf5_0 ?_
  refine T_sval hi gsJ0_9 dJ0_length_8abf5_1 ?_
  refine T_slen hi dJ0_length_8abf5_4 ?_
  refine T_al0 dJ0_length_8abf5_5 ?_
  refine T_pU0 lJ0_335 rfl hi (c_coder _ F G i hi) (by omega) (Nat.le_of_ble_eq_true rfl) dJ0_length_8abf5_6 ?_
  refine T_ishr dJ0_length_8abf5_9 ?_
  rw [tx_sh _ (tx_len i hi).2]
  refine T_iret rfl dJ0_length_8abf5_10 ?_
  exact ⟨rfl, rfl, rfl⟩
theorem c_pcheck (d : Nat) (F : FT) (G : GT) (k n : Nat) (hk : k < n) (hn : n ≤ 100) (v : Value) (hv : v = .null ∨ v = .ref 1200) : Kp DJ3_checkIndex_8e157 d [.int (nI k), .int (nI n), v] F G (some (.int (nI k))) := by
  rcases hv with rfl | rfl
  · refine Kc.ofT [some (.int (nI k)), some (.int (nI n)), some .null] pn_J3 (Nat.le_of_ble_eq_true rfl) rfl ?_
    refine T_il0 dJ3_checkIndex_8e157_0 ?_
    refine T_if_lt_f 9 dJ3_checkIndex_8e157_1 (by decide) (nI_pos (by omega)) ?_
    refine T_il0 dJ3_checkIndex_8e157_4 ?_
    refine T_il1 dJ3_checkIndex_8e157_5 ?_
    refine T_nlt_t 16 dJ3_checkIndex_8e157_6 (by decide) (by omega) (by omega) (by omega) ?_
    refine T_il0 dJ3_checkIndex_8e157_16 ?_
    refine T_iret rfl dJ3_checkIndex_8e157_17 ?_
    exact ⟨rfl, rfl, rfl⟩
  · refine Kc.ofT [some (.int (nI k)), some (.int (nI n)), some (.ref 1200)] pn_J3 (Nat.le_of_ble_eq_true rfl) rfl ?_
    refine T_il0 dJ3_checkIndex_8e157_0 ?_
    refine T_if_lt_f 9 dJ3_checkIndex_8e157_1 (by decide) (nI_pos (by omega)) ?_
    refine T_il0 dJ3_checkIndex_8e157_4 ?_
    refine T_il1 dJ3_checkIndex_8e157_5 ?_
    refine T_nlt_t 16 dJ3_checkIndex_8e157_6 (by decide) (by omega) (by omega) (by omega) ?_
    refine T_il0 dJ3_checkIndex_8e157_16 ?_
    refine T_iret rfl dJ3_checkIndex_8e157_17 ?_
    exact ⟨rfl, rfl, rfl⟩
theorem c_scheck (d : Nat) (hd : 1 ≤ d) (F : FT) (G : GT) (k n : Nat) (hk : k < n) (hn : n ≤ 100) : Kc DJ0_checkIndex_df160 d [.int (nI k), .int (nI n)] F G (fun v F' G' => v = none ∧ F' = F ∧ G' = G) := by
  refine Kc.ofT [some (.int (nI k)), some (.int (nI n))] pn_J0 (Nat.le_of_ble_eq_true rfl) rfl ?_
  refine T_il0 dJ0_checkIndex_df160_0 ?_
  refine T_il1 dJ0_checkIndex_df160_1 ?_
  refine T_getsq gsJ0_1053 dJ0_checkIndex_df160_2 (fun v hv => ?_)
  refine T_pS3 lJ0_1059 (c_pcheck _ F G k n hk hn v hv) (by omega) (Nat.le_of_ble_eq_true rfl) dJ0_checkIndex_df160_5 ?_
  refine T_pop dJ0_checkIndex_df160_8 rfl ?_
  refine T_vret rfl dJ0_checkIndex_df160_9 ?_
  exact ⟨rfl, rfl, rfl⟩
theorem tx_ch : ∀ i, i < 10 → ∀ k, k < txN.getD i 0 → (((txB.getD i []).getD k 0 &&& nI 255).toUInt32 % 65536).toInt32 = (txB.getD i []).getD k 0 ∧ narrow .char (.int ((txB.getD i []).getD k 0)) = .int ((txB.getD i []).getD k 0) := by decide +kernel
theorem c_lcharAt (d : Nat) (hd : 2 ≤ d) (F : FT) (G : GT) (i k : Nat) (hi : i < 10) (hk : k < txN.getD i 0) : Kp DJ1_charAt_3b067 d [.ref (1100 + i), .int (nI k)] F G (some (.int ((txB.getD i []).getD k 0))) := by
  have h7 := (tx_len i hi).2
  obtain ⟨c1, c2⟩ := tx_ch i hi k hk
  refine Kc.ofT [some (.ref (1100 + i)), some (.int (nI k))] pn_J1 (Nat.le_of_ble_eq_true rfl) rfl ?_
  refine T_il1 dJ1_charAt_3b067_0 ?_
  refine T_al0 dJ1_charAt_3b067_1 ?_
  refine T_slen hi dJ1_charAt_3b067_2 ?_
  refine T_cS2 lJ1_9 (c_scheck _ (by omega) F G k _ hk (by omega)) (by omega) (Nat.le_of_ble_eq_true rfl) dJ1_charAt_3b067_3 (fun v F' G' hP => ?_)
  obtain ⟨rfl, rfl, rfl⟩ := hP
  refine T_al0 dJ1_charAt_3b067_6 ?_
  refine T_il1 dJ1_charAt_3b067_7 ?_
  refine T_sbal hi (vp_in_nI hk (by omega)) dJ1_charAt_3b067_8 ?_
  rw [nI_clamp (by omega)]
  refine T_sipush (v := nI 255) dJ1_charAt_3b067_9 (by decide +kernel) ?_
  refine T_iand dJ1_charAt_3b067_12 ?_
  refine T_i2c dJ1_charAt_3b067_13 ?_
  rw [c1]
  refine T_zret rfl c2 dJ1_charAt_3b067_14 ?_
  exact ⟨rfl, rfl, rfl⟩
theorem c_charAt (d : Nat) (hd : 3 ≤ d) (F : FT) (G : GT) (i k : Nat) (hi : i < 10) (hk : k < txN.getD i 0) : Kp DJ0_charAt_5068e d [.ref (1000 + i), .int (nI k)] F G (some (.int ((txB.getD i []).getD k 0))) := by
  obtain ⟨c1, c2⟩ := tx_ch i hi k hk
  refine Kc.ofT [some (.ref (1000 + i)), some (.int (nI k))] pn_J0 (Nat.le_of_ble_eq_true rfl) rfl ?_
  refine T_al0 dJ0_charAt_5068e_0 ?_
  refine T_pU0 lJ0_492 rfl hi (c_isLatin1 _ F G i hi) (by omega) (Nat.le_of_ble_eq_true rfl) dJ0_charAt_5068e_1 ?_
  refine T_if_eq_f 16 dJ0_charAt_5068e_4 (by decide) (by decide) ?_
  refine T_al0 dJ0_charAt_5068e_7 ?_
  refine T_sval hi gsJ0_9 dJ0_charAt_5068e_8 ?_
  refine T_il1 dJ0_charAt_5068e_11 ?_
  refine T_pS2 lJ0_495 (c_lcharAt _ (by omega) F G i k hi hk) (by omega) (Nat.le_of_ble_eq_true rfl) dJ0_charAt_5068e_12 ?_
  refine T_zret rfl c2 dJ0_charAt_5068e_15 ?_
  exact ⟨rfl, rfl, rfl⟩
/-! Text: letters tx, n of them; the token at hand from b to e -/
def srt (x : Int32) : Nat := if ¬ x < nI 97 ∧ ¬ nI 122 < x then 1 else if ¬ x < nI 48 ∧ ¬ nI 57 < x then 2 else 0
theorem c_sortOf (d : Nat) (F : FT) (G : GT) (x : Int32) : Kp DX5_sortOf d [.int x] F G (some (.int (nI (srt x)))) := by
  refine Kc.ofT [some (.int x)] pn_X5 (Nat.le_of_ble_eq_true rfl) rfl ?_
  have lo : ¬ (¬ x < nI 97 ∧ ¬ nI 122 < x) → T DX5_sortOf d 14 [some (.int x)] [] F G (fun v F' G' => v = some (.int (nI (srt x))) ∧ F' = F ∧ G' = G) := by
    intro hc
    refine T_il0 dX5_sortOf_14 ?_
    refine T_bipush (v := nI 48) dX5_sortOf_15 (by decide +kernel) ?_
    refine T_icmp_lt 30 dX5_sortOf_17 (by decide) (fun h1 => ?_) (fun h1 => ?_)
    · refine T_iconst (v := nI 0) dX5_sortOf_30 rfl ?_
      refine T_iret rfl dX5_sortOf_31 ?_
      exact ⟨by rw [srt, if_neg hc, if_neg (fun z => z.1 h1)], rfl, rfl⟩
    · refine T_il0 dX5_sortOf_20 ?_
      refine T_bipush (v := nI 57) dX5_sortOf_21 (by decide +kernel) ?_
      refine T_icmp_gt 30 dX5_sortOf_23 (by decide) (fun h2 => ?_) (fun h2 => ?_)
      · refine T_iconst (v := nI 0) dX5_sortOf_30 rfl ?_
        refine T_iret rfl dX5_sortOf_31 ?_
        exact ⟨by rw [srt, if_neg hc, if_neg (fun z => z.2 h2)], rfl, rfl⟩
      · refine T_iconst (v := nI 2) dX5_sortOf_26 rfl ?_
        refine T_goto 31 dX5_sortOf_27 (by decide) ?_
        refine T_iret rfl dX5_sortOf_31 ?_
        exact ⟨by rw [srt, if_neg hc, if_pos ⟨h1, h2⟩], rfl, rfl⟩
  refine T_il0 dX5_sortOf_0 ?_
  refine T_bipush (v := nI 97) dX5_sortOf_1 (by decide +kernel) ?_
  refine T_icmp_lt 14 dX5_sortOf_3 (by decide) (fun h1 => ?_) (fun h1 => ?_)
  · exact lo (fun z => z.1 h1)
  · refine T_il0 dX5_sortOf_6 ?_
    refine T_bipush (v := nI 122) dX5_sortOf_7 (by decide +kernel) ?_
    refine T_icmp_gt 14 dX5_sortOf_9 (by decide) (fun h2 => ?_) (fun h2 => ?_)
    · exact lo (fun z => z.2 h2)
    · refine T_iconst (v := nI 1) dX5_sortOf_12 rfl ?_
      refine T_iret rfl dX5_sortOf_13 ?_
      exact ⟨by rw [srt, if_pos ⟨h1, h2⟩], rfl, rfl⟩
def rF (F : FT) (b e cl : Nat) (te : TeS) : FT := fun c i => if c = 1 ∧ i = 3 then nI b else if c = 1 ∧ i = 4 then nI e else if c = 1 ∧ i = 2 then nI cl else if c = 11 ∧ i = 0 then nI te.1 else if c = 11 ∧ i = 1 then nI te.2.1 else F c i
def rG (G : GT) (te : TeS) : GT := fun c => if c = 12 then te.2.2.1 else if c = 13 then te.2.2.2.1 else if c = 14 then te.2.2.2.2.1 else if c = 15 then te.2.2.2.2.2.1 else if c = 16 then te.2.2.2.2.2.2.1 else if c = 17 then te.2.2.2.2.2.2.2.1 else if c = 18 then te.2.2.2.2.2.2.2.2 else G c
theorem rF_11 (F : FT) (b e cl : Nat) (te : TeS) : rF F b e cl te 1 1 = F 1 1 := by simp [rF]
theorem rF_12 (F : FT) (b e cl : Nat) (te : TeS) : rF F b e cl te 1 2 = nI cl := by simp [rF]
theorem rF_13 (F : FT) (b e cl : Nat) (te : TeS) : rF F b e cl te 1 3 = nI b := by simp [rF]
theorem rF_14 (F : FT) (b e cl : Nat) (te : TeS) : rF F b e cl te 1 4 = nI e := by simp [rF]
theorem rF_t0 (F : FT) (b e cl : Nat) (te : TeS) : rF F b e cl te 11 0 = nI te.1 := by simp [rF]
theorem rF_t1 (F : FT) (b e cl : Nat) (te : TeS) : rF F b e cl te 11 1 = nI te.2.1 := by simp [rF]
theorem rG_2 (G : GT) (te : TeS) : rG G te 2 = G 2 := by simp [rG]
theorem rF_u3 (F : FT) (b e cl : Nat) (te : TeS) (x : Nat) : u2 (rF F b e cl te) 1 3 (nI x) = rF F x e cl te := by
  funext c i; simp only [u2_at, rF]; by_cases h : c = 1 ∧ i = 3 <;> simp [h]
theorem rF_u4 (F : FT) (b e cl : Nat) (te : TeS) (x : Nat) : u2 (rF F b e cl te) 1 4 (nI x) = rF F b x cl te := by
  funext c i; simp only [u2_at, rF]; by_cases h : c = 1 ∧ i = 4 <;> simp [h]
theorem rF_u2 (F : FT) (b e cl : Nat) (te : TeS) (x : Nat) : u2 (rF F b e cl te) 1 2 (nI x) = rF F b e x te := by
  funext c i; simp only [u2_at, rF]; by_cases h : c = 1 ∧ i = 2 <;> simp [h]
theorem rF_u0 (F : FT) (b e cl : Nat) (te : TeS) (x : Nat) : u2 (rF F b e cl te) 11 0 (nI x) = rF F b e cl (x, te.2) := by
  funext c i; simp only [u2_at, rF]; by_cases h : c = 11 ∧ i = 0 <;> simp [h]
theorem rF_u1 (F : FT) (b e cl : Nat) (te : TeS) (x : Nat) : u2 (rF F b e cl te) 11 1 (nI x) = rF F b e cl (te.1, x, te.2.2) := by
  funext c i; simp only [u2_at, rF]; by_cases h : c = 11 ∧ i = 1 <;> simp [h]
def skipB (tx : List Int32) (n : Nat) : Nat → Nat → Nat
  | 0, b => b
  | f + 1, b => if b < n ∧ tx.getD b 0 = nI 32 then skipB tx n f (b + 1) else b
def runB (tx : List Int32) (n s : Nat) : Nat → Nat → Nat
  | 0, e => e
  | f + 1, e => if e < n ∧ srt (tx.getD e 0) = s then runB tx n s f (e + 1) else e
theorem skipB_le (tx : List Int32) (n : Nat) : ∀ f b, b + f = n → b ≤ skipB tx n f b ∧ skipB tx n f b ≤ n := by
  intro f
  induction f with
  | zero => intro b h; rw [skipB]; omega
  | succ f ih =>
    intro b h
    rw [skipB]
    split
    · have := ih (b + 1) (by omega); omega
    · omega
theorem runB_le (tx : List Int32) (n s : Nat) : ∀ f e, e + f = n → e ≤ runB tx n s f e ∧ runB tx n s f e ≤ n := by
  intro f
  induction f with
  | zero => intro b h; rw [runB]; omega
  | succ f ih =>
    intro b h
    rw [runB]
    split
    · have := ih (b + 1) (by omega); omega
    · omega
/-- the next token: from, to -/
def tokE (tx : List Int32) (n b : Nat) : Nat := if n ≤ b then b else if srt (tx.getD b 0) = 0 then b + 1 else runB tx n (srt (tx.getD b 0)) (n - (b + 1)) (b + 1)
def stepP (tx : List Int32) (n e : Nat) : Nat × Nat := (skipB tx n (n - e) e, tokE tx n (skipB tx n (n - e) e))
theorem tokE_le (tx : List Int32) {n b : Nat} (h : b ≤ n) : b ≤ tokE tx n b ∧ tokE tx n b ≤ n ∧ (b < n → b < tokE tx n b) := by
  unfold tokE
  split
  · omega
  · split
    · omega
    · have := runB_le tx n (srt (tx.getD b 0)) (n - (b + 1)) (b + 1) (by omega)
      omega
theorem stepP_le (tx : List Int32) {n e : Nat} (h : e ≤ n) : e ≤ (stepP tx n e).1 ∧ (stepP tx n e).1 ≤ n ∧ (stepP tx n e).1 ≤ (stepP tx n e).2 ∧ (stepP tx n e).2 ≤ n := by
  have h1 := skipB_le tx n (n - e) e (by omega)
  have h2 := tokE_le tx h1.2
  exact ⟨h1.1, h1.2, h2.1, h2.2.1⟩
theorem c_step (d : Nat) (hd : 1 ≤ d) (F : FT) (G : GT) (tx : List Int32) (n b e cl : Nat) (te : TeS) (hn : n ≤ 160) (hF : F 1 1 = nI n) (hG : G 2 = tx) (he : e ≤ n) : Kc DX5_step d [.ref 1] (rF F b e cl te) (rG G te) (fun v F' G' => v = none ∧ F' = rF F (stepP tx n e).1 (stepP tx n e).2 cl te ∧ G' = rG G te) := by
  refine Kc.ofT [some (.ref 1), none] pn_X5 (Nat.le_of_ble_eq_true rfl) rfl ?_
  refine T_al0 dX5_step_0 ?_
  refine T_al0 dX5_step_1 ?_
  refine T_g5 gX5_22 (cell_1 _ _) rfl dX5_step_2 ?_
  rw [rF_14]
  refine T_put5_3 pX5_32 dX5_step_5 ?_
  rw [rF_u3]
  suffices h : ∀ f k, k + f = n → T DX5_step d 8 [some (.ref 1), none] [] (rF F k e cl te) (rG G te) (fun v F' G' => v = none ∧ F' = rF F (skipB tx n f k) (tokE tx n (skipB tx n f k)) cl te ∧ G' = rG G te) from h (n - e) e (by omega)
  have fin : ∀ k, k ≤ n → T DX5_step d 46 [some (.ref 1), none] [] (rF F k e cl te) (rG G te) (fun v F' G' => v = none ∧ F' = rF F k (tokE tx n k) cl te ∧ G' = rG G te) := by
    intro k hk
    refine T_al0 dX5_step_46 ?_
    refine T_al0 dX5_step_47 ?_
    refine T_g5 gX5_32 (cell_1 _ _) rfl dX5_step_48 ?_
    rw [rF_13]
    refine T_put5_4 pX5_22 dX5_step_51 ?_
    rw [rF_u4]
    refine T_al0 dX5_step_54 ?_
    refine T_g5 gX5_22 (cell_1 _ _) rfl dX5_step_55 ?_
    rw [rF_14]
    refine T_al0 dX5_step_58 ?_
    refine T_g5 gX5_15 (cell_1 _ _) rfl dX5_step_59 ?_
    rw [rF_11, hF]
    refine T_nlt 66 dX5_step_62 (by decide) (by omega) (by omega) (fun h1 => ?_) (fun h1 => ?_)
    · refine T_al0 dX5_step_66 ?_
      refine T_g5 gX5_9 (cell_1 _ _) rfl dX5_step_67 ?_
      refine T_al0 dX5_step_70 ?_
      refine T_g5 gX5_32 (cell_1 _ _) rfl dX5_step_71 ?_
      rw [rF_13]
      refine T_aldN rfl (show _ < 160 by omega) dX5_step_74 ?_
      refine T_pS1 lX5_96 (c_sortOf _ _ _ _) (by omega) (Nat.le_of_ble_eq_true rfl) dX5_step_75 ?_
      rw [rG_2, hG]
      refine T_is1 dX5_step_78 rfl ?_
      refine T_al0 dX5_step_79 ?_
      refine T_dup dX5_step_80 rfl ?_
      refine T_g5 gX5_22 (cell_1 _ _) rfl dX5_step_81 ?_
      rw [rF_14]
      refine T_iconst (v := nI 1) dX5_step_84 rfl ?_
      first | refine T_iaddN dX5_step_85 ?_ | refine T_iadd dX5_step_85 ?_
      refine T_put5_4 pX5_22 dX5_step_86 ?_
      rw [rF_u4]
      refine T_il1 dX5_step_89 ?_
      refine T_if_eq 133 dX5_step_90 (by decide) (fun h2 => ?_) (fun h2 => ?_)
      · have hz : srt (tx.getD k 0) = 0 := (nI_eq (by unfold srt; (repeat' split) <;> omega) (by decide)).mp (h2.trans nI_0.symm)
        rw [tokE, if_neg (by omega), if_pos hz]
        refine T_vret rfl dX5_step_133 ?_
        exact ⟨rfl, rfl, rfl⟩
      · have hz : ¬ srt (tx.getD k 0) = 0 := fun z => h2 (by rw [z]; rfl)
        rw [tokE, if_neg (by omega), if_neg hz]
        suffices h : ∀ f j, j + f = n → T DX5_step d 93 [some (.ref 1), some (.int (nI (srt (tx.getD k 0))))] [] (rF F k j cl te) (rG G te) (fun v F' G' => v = none ∧ F' = rF F k (runB tx n (srt (tx.getD k 0)) f j) cl te ∧ G' = rG G te) from h (n - (k + 1)) (k + 1) (by omega)
        have hs3 : ∀ x, srt x < 2 ^ 31 := fun x => by unfold srt; (repeat' split) <;> omega
        have hsk := hs3 (tx.getD k 0)
        intro f
        induction f with
        | zero =>
          intro j hj
          refine T_al0 dX5_step_93 ?_
          refine T_g5 gX5_22 (cell_1 _ _) rfl dX5_step_94 ?_
          rw [rF_14]
          refine T_al0 dX5_step_97 ?_
          refine T_g5 gX5_15 (cell_1 _ _) rfl dX5_step_98 ?_
          rw [rF_11, hF]
          refine T_nge_t 133 dX5_step_101 (by decide) (by omega) (by omega) (by omega) ?_
          refine T_vret rfl dX5_step_133 ?_
          exact ⟨rfl, rfl, rfl⟩
        | succ f ih =>
          intro j hj
          have hsj := hs3 (tx.getD j 0)
          refine T_al0 dX5_step_93 ?_
          refine T_g5 gX5_22 (cell_1 _ _) rfl dX5_step_94 ?_
          rw [rF_14]
          refine T_al0 dX5_step_97 ?_
          refine T_g5 gX5_15 (cell_1 _ _) rfl dX5_step_98 ?_
          rw [rF_11, hF]
          refine T_nge_f 133 dX5_step_101 (by decide) (by omega) (by omega) (by omega) ?_
          refine T_al0 dX5_step_104 ?_
          refine T_g5 gX5_9 (cell_1 _ _) rfl dX5_step_105 ?_
          refine T_al0 dX5_step_108 ?_
          refine T_g5 gX5_22 (cell_1 _ _) rfl dX5_step_109 ?_
          rw [rF_14]
          refine T_aldN rfl (show _ < 160 by omega) dX5_step_112 ?_
          rw [rG_2, hG]
          refine T_pS1 lX5_96 (c_sortOf _ _ _ _) (by omega) (Nat.le_of_ble_eq_true rfl) dX5_step_113 ?_
          refine T_il1 dX5_step_116 ?_
          rw [runB]
          refine T_nne 133 dX5_step_117 (by decide) (by omega) (by omega) (fun h3 => ?_) (fun h3 => ?_)
          · rw [if_neg (fun z => h3 z.2)]
            refine T_vret rfl dX5_step_133 ?_
            exact ⟨rfl, rfl, rfl⟩
          · rw [if_pos ⟨by omega, h3⟩]
            refine T_al0 dX5_step_120 ?_
            refine T_dup dX5_step_121 rfl ?_
            refine T_g5 gX5_22 (cell_1 _ _) rfl dX5_step_122 ?_
            rw [rF_14]
            refine T_iconst (v := nI 1) dX5_step_125 rfl ?_
            first | refine T_iaddN dX5_step_126 ?_ | refine T_iadd dX5_step_126 ?_
            refine T_put5_4 pX5_22 dX5_step_127 ?_
            rw [rF_u4]
            refine T_goto 89 dX5_step_130 (by decide) ?_
            refine T_il1 dX5_step_89 ?_
            refine T_if_eq_f 133 dX5_step_90 (by decide) h2 ?_
            exact ih (j + 1) (by omega)
    · rw [tokE, if_pos (by omega)]
      refine T_vret rfl dX5_step_65 ?_
      exact ⟨rfl, rfl, rfl⟩
  intro f
  induction f with
  | zero =>
    intro k hk
    rw [skipB]
    refine T_al0 dX5_step_8 ?_
    refine T_g5 gX5_32 (cell_1 _ _) rfl dX5_step_9 ?_
    rw [rF_13]
    refine T_al0 dX5_step_12 ?_
    refine T_g5 gX5_15 (cell_1 _ _) rfl dX5_step_13 ?_
    rw [rF_11, hF]
    refine T_nge_t 46 dX5_step_16 (by decide) (by omega) (by omega) (by omega) ?_
    exact fin k (by omega)
  | succ f ih =>
    intro k hk
    rw [skipB]
    refine T_al0 dX5_step_8 ?_
    refine T_g5 gX5_32 (cell_1 _ _) rfl dX5_step_9 ?_
    rw [rF_13]
    refine T_al0 dX5_step_12 ?_
    refine T_g5 gX5_15 (cell_1 _ _) rfl dX5_step_13 ?_
    rw [rF_11, hF]
    refine T_nge_f 46 dX5_step_16 (by decide) (by omega) (by omega) (by omega) ?_
    refine T_al0 dX5_step_19 ?_
    refine T_g5 gX5_9 (cell_1 _ _) rfl dX5_step_20 ?_
    refine T_al0 dX5_step_23 ?_
    refine T_g5 gX5_32 (cell_1 _ _) rfl dX5_step_24 ?_
    rw [rF_13]
    refine T_aldN rfl (show _ < 160 by omega) dX5_step_27 ?_
    rw [rG_2, hG]
    refine T_bipush (v := nI 32) dX5_step_28 (by decide +kernel) ?_
    refine T_icmp_ne 46 dX5_step_30 (by decide) (fun h1 => ?_) (fun h1 => ?_)
    · rw [if_neg (fun z => h1 z.2)]
      exact fin k (by omega)
    · rw [if_pos ⟨by omega, h1⟩]
      refine T_al0 dX5_step_33 ?_
      refine T_dup dX5_step_34 rfl ?_
      refine T_g5 gX5_32 (cell_1 _ _) rfl dX5_step_35 ?_
      rw [rF_13]
      refine T_iconst (v := nI 1) dX5_step_38 rfl ?_
      first | refine T_iaddN dX5_step_39 ?_ | refine T_iadd dX5_step_39 ?_
      refine T_put5_3 pX5_32 dX5_step_40 ?_
      rw [rF_u3]
      refine T_goto 8 dX5_step_43 (by decide) ?_
      exact ih (k + 1) (by omega)
