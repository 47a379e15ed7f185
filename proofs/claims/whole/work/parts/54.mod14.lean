/-! years and loss as naturals -/
def yrN (kd ln : List Int32) (i dd : Nat) : Nat := if endB kd i = true then 0 else if kd.getD i 0 = nI 1 then 2 * (sv (ln.getD i 0) - dd) else sv (ln.getD i 0) - dd
theorem yrs_N {kd ln : List Int32} {i dd l : Nat} (hl : ln.getD i 0 = nI l) (h60 : l ≤ 60) (hd : dd ≤ 999) : yrsI kd ln i (nI dd) = nI (yrN kd ln i dd) ∧ yrN kd ln i dd ≤ 120 := by
  have e : (if nI 0 < nI l - nI dd then nI l - nI dd else nI 0) = nI (l - dd) := by
    rcases Nat.lt_or_ge dd l with h | h
    · rw [pk_sub (by omega), if_pos (nI_lt (by omega) (by omega))]
    · rcases Nat.eq_or_lt_of_le h with q | q
      · subst q; rw [pk_sub (Nat.le_refl _), Nat.sub_self, if_neg (by decide)]
      · have := pk_sneg (by omega) q
        rw [if_neg (fun z : nI 0 < nI l - nI dd => Int32.lt_irrefl (Int32.lt_trans z this)), show l - dd = 0 by omega]
  unfold yrsI yrN
  rw [hl, e, sv_nI (by omega)]
  by_cases h1 : endB kd i = true
  · rw [if_pos h1, if_pos h1]; exact ⟨rfl, by omega⟩
  · rw [if_neg h1, if_neg h1]
    by_cases h2 : kd.getD i 0 = nI 1
    · rw [if_pos h2, if_pos h2, pk_mul]; exact ⟨rfl, by omega⟩
    · rw [if_neg h2, if_neg h2]; exact ⟨rfl, by omega⟩
def losN (kd ln : List Int32) (set : Int32) (dd : Nat) : Nat → Nat → Nat := fun i y => if hasI set (nI i) = true ∧ ¬ kd.getD i 0 = nI 2 then y + yrN kd ln i dd else y
theorem loss_N {kd ln : List Int32} {n dd : Nat} (hln : ∀ i, i < n → ∃ l, ln.getD i 0 = nI l ∧ 1 ≤ l ∧ l ≤ 60) (hd : dd ≤ 999) (set : Int32) : lossI kd ln n set (nI dd) = nI (iter (losN kd ln set dd) n 0 0) ∧ iter (losN kd ln set dd) n 0 0 ≤ 120 * n := by
  suffices h : ∀ m k c, k + m = n → iter (lossS kd ln set (nI dd)) m k (nI c) = nI (iter (losN kd ln set dd) m k c) ∧ iter (losN kd ln set dd) m k c ≤ c + 120 * m by
    have := h n 0 0 (by omega)
    rw [lossI]
    exact ⟨this.1, by omega⟩
  intro m
  induction m with
  | zero => intro k c _; exact ⟨rfl, by show c ≤ _; omega⟩
  | succ m ih =>
    intro k c hk
    obtain ⟨l, el, -, h60⟩ := hln k (by omega)
    obtain ⟨e1, e2⟩ := yrs_N (kd := kd) el h60 hd
    rw [iter, iter]
    by_cases hc : hasI set (nI k) = true ∧ ¬ kd.getD k 0 = nI 2
    · rw [lossS, if_pos hc, losN, if_pos hc, e1, nI_add]
      obtain ⟨r1, r2⟩ := ih (k + 1) (c + yrN kd ln k dd) (by omega)
      exact ⟨r1, by omega⟩
    · rw [lossS, if_neg hc, losN, if_neg hc]
      obtain ⟨r1, r2⟩ := ih (k + 1) c (by omega)
      exact ⟨r1, by omega⟩
def lsN (a : AS) (i : Nat) : Nat := iter (losN (aKd a) (aLn a) (fallA a i) (sv (lDay (aNow a)))) (aN a) 0 0
theorem lossA_N {a : AS} (hI : InvA a) (i : Nat) : lossA a i = nI (lsN a i) ∧ lsN a i ≤ 960 := by
  have hn : aN a ≤ 8 := hI.1.1.1
  obtain ⟨h1, h2⟩ := sv_day hI.2.2.1
  obtain ⟨r1, r2⟩ := loss_N (kd := aKd a) (ln := aLn a) (n := aN a) hI.1.2.2.2.2.1 h2 (fallA a i)
  rw [lossA, h1]
  exact ⟨r1, Nat.le_trans r2 (by omega)⟩
theorem lossA_S {a : AS} (hI : InvA a) (i : Nat) : lossA a i = nI (sv (lossA a i)) ∧ sv (lossA a i) ≤ 960 := by
  obtain ⟨e, h⟩ := lossA_N hI i
  rw [e, sv_nI (by omega)]
  exact ⟨rfl, h⟩
/-! lowest terms -/
theorem m_common (d : Nat) (F : FT) (G : GT) (x y : Nat) (hx : x < 2 ^ 31) (hy : y < 2 ^ 31) : Kp DX7_common d [.int (nI x), .int (nI y)] F G (some (.int (nI (Nat.gcd x y)))) := by
  refine Kc.ofT [some (.int (nI x)), some (.int (nI y)), none, none, none] pn_X7 (Nat.le_of_ble_eq_true rfl) rfl ?_
  refine T_il0 dX7_common_0 ?_
  refine T_is2 dX7_common_1 rfl ?_
  refine T_il1 dX7_common_2 ?_
  refine T_is3 dX7_common_3 rfl ?_
  suffices h : ∀ (f p q : Nat) (o : Option Value), q ≤ f → p < 2 ^ 31 → q < 2 ^ 31 → T DX7_common d 4 [some (.int (nI x)), some (.int (nI y)), some (.int (nI p)), some (.int (nI q)), o] [] F G (fun v F' G' => v = some (.int (nI (Nat.gcd p q))) ∧ F' = F ∧ G' = G) from h y x y none (Nat.le_refl _) hx hy
  intro f
  induction f with
  | zero =>
    intro p q o h1 h2 h3
    have : q = 0 := by omega
    subst this
    refine T_il3 dX7_common_4 ?_
    refine T_if_eq_t 21 dX7_common_5 (by decide) nI_0 ?_
    refine T_il2 dX7_common_21 ?_
    refine T_iret rfl dX7_common_22 ?_
    exact ⟨by rw [Nat.gcd_zero_right], rfl, rfl⟩
  | succ f ih =>
    intro p q o h1 h2 h3
    rcases Nat.eq_zero_or_pos q with h0 | h0
    · subst h0
      refine T_il3 dX7_common_4 ?_
      refine T_if_eq_t 21 dX7_common_5 (by decide) nI_0 ?_
      refine T_il2 dX7_common_21 ?_
      refine T_iret rfl dX7_common_22 ?_
      exact ⟨by rw [Nat.gcd_zero_right], rfl, rfl⟩
    · have hm := Nat.mod_lt p h0
      refine T_il3 dX7_common_4 ?_
      refine T_if_eq_f 21 dX7_common_5 (by decide) (nI_ne0 h0 h3) ?_
      refine T_il2 dX7_common_8 ?_
      refine T_il3 dX7_common_9 ?_
      refine T_irem dX7_common_10 (nI_ne0 h0 h3) ?_
      rw [pk_rem h2 h0 h3]
      refine T_is4 dX7_common_11 rfl ?_
      refine T_il3 dX7_common_13 ?_
      refine T_is2 dX7_common_14 rfl ?_
      refine T_il4 dX7_common_15 ?_
      refine T_is3 dX7_common_17 rfl ?_
      refine T_goto 4 dX7_common_18 (by decide) ?_
      have h := ih q (p % q) (some (.int (nI (p % q)))) (by omega) h3 (by omega)
      rw [show Nat.gcd q (p % q) = Nat.gcd p q by rw [Nat.gcd_comm p q, Nat.gcd_comm q (p % q)]; exact (Nat.gcd_rec q p).symm] at h
      exact h
theorem low_g {x b : Nat} (hx : x < 2 ^ 31) (hb : 0 < b) (hb2 : b < 2 ^ 31) (pa : Int32) : ∀ k, k ≤ b → Nat.gcd x b ≤ k → lowR (nI x) (nI b) pa k = if pa = 0 then nI (x / Nat.gcd x b) else nI (b / Nat.gcd x b) := by
  have hg : 0 < Nat.gcd x b := Nat.gcd_pos_of_pos_right x hb
  intro k
  induction k with
  | zero => intro _ h; omega
  | succ k ih =>
    intro hk h
    match k, hk, h, ih with
    | 0, _, h, _ =>
      have e : Nat.gcd x b = 1 := by omega
      rw [e, Nat.div_one, Nat.div_one]
      rfl
    | k + 1, hk, h, ih =>
      rw [lowR, rem32, rem32, pk_rem hx (by omega) (by omega), pk_rem hb2 (by omega) (by omega)]
      by_cases hc : x % (k + 2) = 0 ∧ b % (k + 2) = 0
      · have hd : k + 2 ∣ Nat.gcd x b := Nat.dvd_gcd (Nat.dvd_of_mod_eq_zero hc.1) (Nat.dvd_of_mod_eq_zero hc.2)
        have e : Nat.gcd x b = k + 2 := Nat.le_antisymm h (Nat.le_of_dvd hg hd)
        rw [if_pos ⟨by rw [hc.1]; exact nI_0, by rw [hc.2]; exact nI_0⟩, e, pk_div hx (by omega) (by omega), pk_div hb2 (by omega) (by omega)]
      · rw [if_neg (fun z => hc ⟨(nI_eq (Nat.lt_of_lt_of_le (Nat.mod_lt _ (by omega)) (show k + 2 ≤ 2 ^ 31 by omega)) (by decide)).mp (z.1.trans nI_0.symm), (nI_eq (Nat.lt_of_lt_of_le (Nat.mod_lt _ (by omega)) (show k + 2 ≤ 2 ^ 31 by omega)) (by decide)).mp (z.2.trans nI_0.symm)⟩)]
        refine ih (by omega) ?_
        have hne : Nat.gcd x b ≠ k + 2 := fun e => hc ⟨Nat.mod_eq_zero_of_dvd (e ▸ Nat.gcd_dvd_left x b), Nat.mod_eq_zero_of_dvd (e ▸ Nat.gcd_dvd_right x b)⟩
        omega
theorem m_part (d : Nat) (hd : 1 ≤ d) (F : FT) (G : GT) (x b : Nat) (hx : x < 2 ^ 31) (hb : 0 < b) (hb2 : b < 2 ^ 31) (pa : Int32) : Kp DX7_part d [.int (nI x), .int (nI b), .int pa] F G (some (.int (lowR (nI x) (nI b) pa b))) := by
  have hg : 0 < Nat.gcd x b := Nat.gcd_pos_of_pos_right x hb
  have hgb : Nat.gcd x b ≤ b := Nat.le_of_dvd hb (Nat.gcd_dvd_right x b)
  rw [low_g hx hb hb2 pa b (Nat.le_refl _) hgb]
  refine Kc.ofT [some (.int (nI x)), some (.int (nI b)), some (.int pa), none] pn_X7 (Nat.le_of_ble_eq_true rfl) rfl ?_
  refine T_il0 dX7_part_0 ?_
  refine T_il1 dX7_part_1 ?_
  refine T_pS2 lX7_244 (m_common _ F G x b hx hb2) (by omega) (Nat.le_of_ble_eq_true rfl) dX7_part_2 ?_
  refine T_is3 dX7_part_5 rfl ?_
  refine T_il2 dX7_part_6 ?_
  refine T_if_ne 16 dX7_part_7 (by decide) (fun h1 => ?_) (fun h1 => ?_)
  · refine T_il1 dX7_part_16 ?_
    refine T_il3 dX7_part_17 ?_
    refine T_idiv dX7_part_18 (nI_ne0 hg (by omega)) ?_
    rw [pk_div hb2 hg (by omega)]
    refine T_iret rfl dX7_part_19 ?_
    exact ⟨by rw [if_neg h1], rfl, rfl⟩
  · refine T_il0 dX7_part_10 ?_
    refine T_il3 dX7_part_11 ?_
    refine T_idiv dX7_part_12 (nI_ne0 hg (by omega)) ?_
    rw [pk_div hx hg (by omega)]
    refine T_goto 19 dX7_part_13 (by decide) ?_
    refine T_iret rfl dX7_part_19 ?_
    exact ⟨by rw [if_pos h1], rfl, rfl⟩
theorem pop_pos : ∀ m, m < 256 → ¬ m = 0 → 0 < pop8 m := by decide +kernel
theorem cat_le (a : AS) (t : Int32) : ∀ n k c, iter (catS a t) n k c ≤ c + n := by
  intro n
  induction n with
  | zero => intro k c; exact Nat.le_refl _
  | succ n ih =>
    intro k c
    rw [iter]
    refine Nat.le_trans (ih (k + 1) _) ?_
    unfold catS
    split <;> omega
theorem m_cat (d : Nat) (hd : 20 ≤ d) (F : FT) (G : GT) (a : AS) (hM : MR a F G) (hI : InvA a) (t p : Int32) : Kp DX7_cat d [.ref 89, .int t, .int p] F G (some (.int (r_cat a t p))) := by
  obtain ⟨⟨e2, -⟩, -⟩ := id hM
  have hn : aN a ≤ 8 := hI.1.1.1
  obtain ⟨-, -, -, w, c, dd, hw, hw2, -⟩ := hI.2.2.1
  have hw3 := pow_256 hn hw2
  have cW := m_wholesA (d - 1) (by omega) F G a hM hI
  refine Kc.ofT [some (.ref 89), some (.int t), some (.int p), none, none] pn_X7 (Nat.le_of_ble_eq_true rfl) rfl ?_
  refine T_al0 dX7_cat_0 ?_
  refine T_il1 dX7_cat_1 ?_
  refine T_pV1 lX7_172 rfl (by decide) (cell_89 _ _) (m_isThread _ (by omega) _ _ _ (by assumption) (by assumption) _) (by omega) (Nat.le_of_ble_eq_true rfl) dX7_cat_2 ?_
  refine T_bne 11 dX7_cat_5 (by decide) (fun h1 => ?_) (fun h1 => ?_)
  · refine T_il2 dX7_cat_11 ?_
    refine T_i2l dX7_cat_12 ?_
    refine T_lconst (v := 0) dX7_cat_13 (by decide +kernel) ?_
    refine T_lconst (v := 1) dX7_cat_14 (by decide +kernel) ?_
    refine T_pS3 lX7_78 (m_in _ _ _ _ _ _) (by omega) (Nat.le_of_ble_eq_true rfl) dX7_cat_15 ?_
    rw [in_c (lo := 0) (hi := nI 1) (by decide +kernel) (by decide +kernel)]
    refine T_bne 24 dX7_cat_18 (by decide) (fun h2 => ?_) (fun h2 => ?_)
    · have h2 := nt_t h2
      refine T_al0 dX7_cat_24 ?_
      refine T_pV0 lX7_180 rfl (by decide) (cell_89 _ _) cW (by omega) (Nat.le_of_ble_eq_true rfl) dX7_cat_25 ?_
      refine T_if_ne 34 dX7_cat_28 (by decide) (fun h3 => ?_) (fun h3 => ?_)
      · refine T_iconst (v := nI 0) dX7_cat_34 rfl ?_
        refine T_is3 dX7_cat_35 rfl ?_
        refine T_iconst (v := nI 0) dX7_cat_36 rfl ?_
        refine T_is4 dX7_cat_37 rfl ?_
        refine for_up (catS a t) (aN a) (fun k y => T DX7_cat d 39 [some (.ref 89), some (.int t), some (.int p), some (.int (nI y)), some (.int (nI k))] [] F G _) ?_ (aN a) 0 0 (by omega) ?_
        · intro k y hk h
          refine T_il4 dX7_cat_39 ?_
          refine T_al0 dX7_cat_41 ?_
          refine T_g7 gX7_74 (cell_89 _ _) rfl dX7_cat_42 ?_
          rw [e2]
          refine T_nge_f 75 dX7_cat_45 (by decide) (by omega) (by omega) (by omega) ?_
          refine T_il3 dX7_cat_48 ?_
          refine T_al0 dX7_cat_49 ?_
          refine T_il4 dX7_cat_50 ?_
          refine T_pV1 lX7_186 rfl (by decide) (cell_89 _ _) (m_fallA _ (by omega) F G a hM hI k hk) (by omega) (Nat.le_of_ble_eq_true rfl) dX7_cat_52 ?_
          refine T_il1 dX7_cat_55 ?_
          refine T_pS2 lX7_124 (m_has _ _ _ _ _) (by omega) (Nat.le_of_ble_eq_true rfl) dX7_cat_56 ?_
          refine T_beq 66 dX7_cat_59 (by decide) (fun h4 => ?_) (fun h4 => ?_)
          · rw [catS, if_neg (by rw [h4]; decide)] at h
            refine T_iconst (v := nI 0) dX7_cat_66 rfl ?_
            first | refine T_iaddN dX7_cat_67 ?_ | refine T_iadd dX7_cat_67 ?_
            refine T_is3 dX7_cat_68 rfl ?_
            refine T_ii4 dX7_cat_69 (by first | exact nI_inc _ | exact nI_dec _ | rfl) rfl ?_
            refine T_goto 39 dX7_cat_72 (by decide) ?_
            exact h
          · rw [catS, if_pos h4] at h
            refine T_iconst (v := nI 1) dX7_cat_62 rfl ?_
            refine T_goto 67 dX7_cat_63 (by decide) ?_
            first | refine T_iaddN dX7_cat_67 ?_ | refine T_iadd dX7_cat_67 ?_
            refine T_is3 dX7_cat_68 rfl ?_
            refine T_ii4 dX7_cat_69 (by first | exact nI_inc _ | exact nI_dec _ | rfl) rfl ?_
            refine T_goto 39 dX7_cat_72 (by decide) ?_
            exact h
        · have hc8 := cat_le a t (aN a) 0 0
          refine T_il4 dX7_cat_39 ?_
          refine T_al0 dX7_cat_41 ?_
          refine T_g7 gX7_74 (cell_89 _ _) rfl dX7_cat_42 ?_
          rw [e2]
          refine T_nge_t 75 dX7_cat_45 (by decide) (by omega) (by omega) (by omega) ?_
          refine T_il3 dX7_cat_75 ?_
          refine T_al0 dX7_cat_76 ?_
          refine T_pV0 lX7_180 rfl (by decide) (cell_89 _ _) cW (by omega) (Nat.le_of_ble_eq_true rfl) dX7_cat_77 ?_
          rw [hw]
          refine T_pS1 lX7_198 (m_ones _ _ _ _ (by assumption)) (by omega) (Nat.le_of_ble_eq_true rfl) dX7_cat_80 ?_
          refine T_il2 dX7_cat_83 ?_
          have hwz : ¬ w = 0 := fun z => h3 (by rw [hw, z]; exact nI_0)
          have hpp := pop_pos w hw3 hwz
          have hpl := pop8_le w hw3
          refine T_pS3 lX7_247 (m_part _ (by omega) F G _ (pop8 w) (by omega) hpp (by omega) p) (by omega) (Nat.le_of_ble_eq_true rfl) dX7_cat_84 ?_
          refine T_iret rfl dX7_cat_87 ?_
          exact ⟨by rw [r_cat, if_pos h1, if_neg h2, if_neg h3, hw, sv_nI (by omega)], rfl, rfl⟩
      · refine T_bipush (v := -4) dX7_cat_31 (by decide +kernel) ?_
        refine T_iret rfl dX7_cat_33 ?_
        exact ⟨by rw [r_cat, if_pos h1, if_neg h2, if_pos h3], rfl, rfl⟩
    · have h2 := nt_f h2
      refine T_bipush (v := -3) dX7_cat_21 (by decide +kernel) ?_
      refine T_iret rfl dX7_cat_23 ?_
      exact ⟨by rw [r_cat, if_pos h1, if_pos h2], rfl, rfl⟩
  · refine T_bipush (v := -2) dX7_cat_8 (by decide +kernel) ?_
    refine T_iret rfl dX7_cat_10 ?_
    exact ⟨by rw [r_cat, if_neg (by rw [h1]; decide)], rfl, rfl⟩
def meN (a : AS) : Nat → Nat → Nat := fun i x => x + lsN a i
theorem mea_N {a : AS} (hI : InvA a) : ∀ n k c, iter (meaS a) n k (nI c) = nI (iter (meN a) n k c) ∧ iter (meN a) n k c ≤ c + 960 * n := by
  intro n
  induction n with
  | zero => intro k c; exact ⟨rfl, by show c ≤ _; omega⟩
  | succ n ih =>
    intro k c
    obtain ⟨e, h⟩ := lossA_N hI k
    rw [iter, iter, meaS, meN, e, nI_add]
    obtain ⟨r1, r2⟩ := ih (k + 1) (c + lsN a k)
    exact ⟨r1, by omega⟩
theorem m_mean (d : Nat) (hd : 20 ≤ d) (F : FT) (G : GT) (a : AS) (hM : MR a F G) (hI : InvA a) (p : Int32) : Kp DX7_mean d [.ref 89, .int p] F G (some (.int (r_mean a p))) := by
  obtain ⟨⟨e2, -⟩, -⟩ := id hM
  have hn : aN a ≤ 8 := hI.1.1.1
  obtain ⟨-, -, -, w, c, dd, hw, hw2, -⟩ := hI.2.2.1
  have hw3 := pow_256 hn hw2
  have cW := m_wholesA (d - 1) (by omega) F G a hM hI
  refine Kc.ofT [some (.ref 89), some (.int p), none, none] pn_X7 (Nat.le_of_ble_eq_true rfl) rfl ?_
  refine T_il1 dX7_mean_0 ?_
  refine T_i2l dX7_mean_1 ?_
  refine T_lconst (v := 0) dX7_mean_2 (by decide +kernel) ?_
  refine T_lconst (v := 1) dX7_mean_3 (by decide +kernel) ?_
  refine T_pS3 lX7_78 (m_in _ _ _ _ _ _) (by omega) (Nat.le_of_ble_eq_true rfl) dX7_mean_4 ?_
  rw [in_c (lo := 0) (hi := nI 1) (by decide +kernel) (by decide +kernel)]
  refine T_bne 13 dX7_mean_7 (by decide) (fun h2 => ?_) (fun h2 => ?_)
  · have h2 := nt_t h2
    refine T_al0 dX7_mean_13 ?_
    refine T_pV0 lX7_180 rfl (by decide) (cell_89 _ _) cW (by omega) (Nat.le_of_ble_eq_true rfl) dX7_mean_14 ?_
    refine T_if_ne 23 dX7_mean_17 (by decide) (fun h3 => ?_) (fun h3 => ?_)
    · refine T_iconst (v := nI 0) dX7_mean_23 rfl ?_
      refine T_is2 dX7_mean_24 rfl ?_
      refine T_iconst (v := nI 0) dX7_mean_25 rfl ?_
      refine T_is3 dX7_mean_26 rfl ?_
      refine for_up (meaS a) (aN a) (fun k y => T DX7_mean d 27 [some (.ref 89), some (.int p), some (.int y), some (.int (nI k))] [] F G _) ?_ (aN a) 0 (nI 0) (by omega) ?_
      · intro k y hk h
        refine T_il3 dX7_mean_27 ?_
        refine T_al0 dX7_mean_28 ?_
        refine T_g7 gX7_74 (cell_89 _ _) rfl dX7_mean_29 ?_
        rw [e2]
        refine T_nge_f 53 dX7_mean_32 (by decide) (by omega) (by omega) (by omega) ?_
        refine T_il2 dX7_mean_35 ?_
        refine T_al0 dX7_mean_36 ?_
        refine T_al0 dX7_mean_37 ?_
        refine T_il3 dX7_mean_38 ?_
        refine T_pV1 lX7_186 rfl (by decide) (cell_89 _ _) (m_fallA _ (by omega) F G a hM hI k hk) (by omega) (Nat.le_of_ble_eq_true rfl) dX7_mean_39 ?_
        refine T_pV1 lX7_189 rfl (by decide) (cell_89 _ _) (m_lossA _ (by omega) F G a hM hI k hk) (by omega) (Nat.le_of_ble_eq_true rfl) dX7_mean_42 ?_
        refine T_iadd dX7_mean_45 ?_
        refine T_is2 dX7_mean_46 rfl ?_
        refine T_ii3 dX7_mean_47 (by first | exact nI_inc _ | exact nI_dec _ | rfl) rfl ?_
        refine T_goto 27 dX7_mean_50 (by decide) ?_
        exact h
      · obtain ⟨r1, r2⟩ := mea_N hI (aN a) 0 0
        refine T_il3 dX7_mean_27 ?_
        refine T_al0 dX7_mean_28 ?_
        refine T_g7 gX7_74 (cell_89 _ _) rfl dX7_mean_29 ?_
        rw [e2]
        refine T_nge_t 53 dX7_mean_32 (by decide) (by omega) (by omega) (by omega) ?_
        refine T_il2 dX7_mean_53 ?_
        refine T_al0 dX7_mean_54 ?_
        refine T_pV0 lX7_180 rfl (by decide) (cell_89 _ _) cW (by omega) (Nat.le_of_ble_eq_true rfl) dX7_mean_55 ?_
        rw [hw, r1]
        refine T_pS1 lX7_198 (m_ones _ _ _ _ (by assumption)) (by omega) (Nat.le_of_ble_eq_true rfl) dX7_mean_58 ?_
        refine T_il1 dX7_mean_61 ?_
        have hwz : ¬ w = 0 := fun z => h3 (by rw [hw, z]; exact nI_0)
        have hpp := pop_pos w hw3 hwz
        have hpl := pop8_le w hw3
        refine T_pS3 lX7_247 (m_part _ (by omega) F G _ (pop8 w) (by omega) hpp (by omega) p) (by omega) (Nat.le_of_ble_eq_true rfl) dX7_mean_62 ?_
        refine T_iret rfl dX7_mean_65 ?_
        exact ⟨by rw [r_mean, if_neg h2, if_neg h3, hw, sv_nI (by omega), r1], rfl, rfl⟩
    · refine T_bipush (v := -4) dX7_mean_20 (by decide +kernel) ?_
      refine T_iret rfl dX7_mean_22 ?_
      exact ⟨by rw [r_mean, if_neg h2, if_pos h3], rfl, rfl⟩
  · have h2 := nt_f h2
    refine T_bipush (v := -3) dX7_mean_10 (by decide +kernel) ?_
    refine T_iret rfl dX7_mean_12 ?_
    exact ⟨by rw [r_mean, if_pos h2], rfl, rfl⟩
theorem giv_v : ∀ y, y < 121 → ∀ m, m < 100 → ((if nI 0 < (nI y - nI m) / nI 1 then (nI y - nI m) / nI 1 else nI 0) = if y < m then nI 0 else nI (y - m)) ∧ ((if nI 0 < (nI y - nI m) / nI 2 then (nI y - nI m) / nI 2 else nI 0) = if y < m then nI 0 else nI ((y - m) / 2)) := by decide +kernel
theorem m_canGive (d : Nat) (hd : 3 ≤ d) (F : FT) (G : GT) (a : AS) (hM : MR a F G) (hI : InvA a) (t : Nat) (ht : t < aN a) (m : Nat) (hm : m < 100) (hw : hasI (lWhole (aNow a)) (nI t) = true) (he : endB (aKd a) t = false) : Kp DX7_canGive d [.ref 89, .int (nI t), .int (nI m)] F G (some (.int (givA a (nI m) t))) := by
  obtain ⟨⟨e2, -⟩, ⟨g90, -⟩, -⟩ := id hM
  have hn : aN a ≤ 8 := hI.1.1.1
  obtain ⟨l, el, -, h60⟩ := hI.1.2.2.2.2.1 t ht
  obtain ⟨hd1, hd9⟩ := sv_day hI.2.2.1
  obtain ⟨y1, y2⟩ := yrs_N (kd := aKd a) (show (aLn a).getD t 0 = nI l from el) h60 hd9
  have hg : givA a (nI m) t = if nI 0 < (yrsI (aKd a) (aLn a) t (lDay (aNow a)) - nI m) / (if (aKd a).getD t 0 = nI 1 then nI 2 else nI 1) then (yrsI (aKd a) (aLn a) t (lDay (aNow a)) - nI m) / (if (aKd a).getD t 0 = nI 1 then nI 2 else nI 1) else nI 0 := by
    rw [givA, givI, if_pos hw, if_neg (by rw [he]; decide)]
  rw [hd1, y1] at hg
  generalize yrN (aKd a) (aLn a) t (sv (lDay (aNow a))) = y at hg y1 y2
  obtain ⟨v1, v2⟩ := giv_v y (by omega) m hm
  refine Kc.ofT [some (.ref 89), some (.int (nI t)), some (.int (nI m)), none] pn_X7 (Nat.le_of_ble_eq_true rfl) rfl ?_
  refine T_al0 dX7_canGive_0 ?_
  refine T_il1 dX7_canGive_1 ?_
  refine T_pV1 lX7_177 rfl (by decide) (cell_89 _ _) (m_yearsOf _ (by omega) F G (aN a) (aKd a) (aLn a) (aNow a) (hM.mc hI) hn t ht) (by omega) (Nat.le_of_ble_eq_true rfl) dX7_canGive_2 ?_
  rw [yrM, if_pos hw, hd1, y1]
  refine T_il2 dX7_canGive_5 ?_
  refine T_isub dX7_canGive_6 ?_
  refine T_is3 dX7_canGive_7 rfl ?_
  rcases Nat.lt_or_ge y m with h | h
  · have := pk_sneg (by omega) h
    refine T_il3 dX7_canGive_8 ?_
    refine T_if_ge_f 16 dX7_canGive_9 (by decide) (Int32.not_le.mpr this) ?_
    refine T_iconst (v := nI 0) dX7_canGive_12 rfl ?_
    refine T_goto 33 dX7_canGive_13 (by decide) ?_
    refine T_iret rfl dX7_canGive_33 ?_
    refine ⟨?_, rfl, rfl⟩
    rw [hg]
    by_cases h2 : (aKd a).getD t 0 = nI 1
    · rw [if_pos h2, v2, if_pos h]
    · rw [if_neg h2, v1, if_pos h]
  · rw [pk_sub h]
    refine T_il3 dX7_canGive_8 ?_
    refine T_if_ge_t 16 dX7_canGive_9 (by decide) (nI_pos' (by omega)) ?_
    refine T_al0 dX7_canGive_16 ?_
    refine T_g7 gX7_7 (cell_89 _ _) rfl dX7_canGive_17 ?_
    refine T_il1 dX7_canGive_20 ?_
    refine T_aldN rfl (show _ < 8 by omega) dX7_canGive_21 ?_
    rw [g90]
    refine T_iconst (v := nI 1) dX7_canGive_22 rfl ?_
    refine T_icmp_ne 32 dX7_canGive_23 (by decide) (fun h2 => ?_) (fun h2 => ?_)
    · refine T_il3 dX7_canGive_32 ?_
      refine T_iret rfl dX7_canGive_33 ?_
      refine ⟨?_, rfl, rfl⟩
      rw [hg, if_neg h2, v1, if_neg (by omega)]
    · refine T_il3 dX7_canGive_26 ?_
      refine T_iconst (v := nI 2) dX7_canGive_27 rfl ?_
      refine T_idiv dX7_canGive_28 (by decide) ?_
      rw [pk_div (by omega) (by decide) (by decide)]
      refine T_goto 33 dX7_canGive_29 (by decide) ?_
      refine T_iret rfl dX7_canGive_33 ?_
      refine ⟨?_, rfl, rfl⟩
      rw [hg, if_pos h2, v2, if_neg (by omega)]
theorem m_given (d : Nat) (hd : 20 ≤ d) (F : FT) (G : GT) (a : AS) (hM : MR a F G) (hI : InvA a) (t n m : Int32) : Kp DX7_given d [.ref 89, .int t, .int n, .int m] F G (some (.int (r_given a t n m))) := by
  obtain ⟨⟨e2, -⟩, ⟨g90, -⟩, -⟩ := id hM
  have hn : aN a ≤ 8 := hI.1.1.1
  refine Kc.ofT [some (.ref 89), some (.int t), some (.int n), some (.int m), none, none, none, none] pn_X7 (Nat.le_of_ble_eq_true rfl) rfl ?_
  refine T_al0 dX7_given_0 ?_
  refine T_il1 dX7_given_1 ?_
  refine T_pV1 lX7_172 rfl (by decide) (cell_89 _ _) (m_isThread _ (by omega) _ _ _ (by assumption) (by assumption) _) (by omega) (Nat.le_of_ble_eq_true rfl) dX7_given_2 ?_
  refine T_bne 11 dX7_given_5 (by decide) (fun h1 => ?_) (fun h1 => ?_)
  · have no : (n < nI 1 ∨ nI 99 < n ∨ m < 0 ∨ nI 99 < m) → T DX7_given d 35 [some (.ref 89), some (.int t), some (.int n), some (.int m), none, none, none, none] [] F G (fun v F' G' => v = some (.int (r_given a t n m)) ∧ F' = F ∧ G' = G) := by
      intro hc
      refine T_bipush (v := -3) dX7_given_35 (by decide +kernel) ?_
      refine T_iret rfl dX7_given_37 ?_
      exact ⟨by rw [r_given, if_pos h1, if_pos hc], rfl, rfl⟩
    refine T_il2 dX7_given_11 ?_
    refine T_i2l dX7_given_12 ?_
    refine T_lconst (v := 1) dX7_given_13 (by decide +kernel) ?_
    refine T_ldc2 kX7_209 dX7_given_14 ?_
    refine T_pS3 lX7_78 (m_in _ _ _ _ _ _) (by omega) (Nat.le_of_ble_eq_true rfl) dX7_given_17 ?_
    rw [in_c (lo := nI 1) (hi := nI 99) (by decide +kernel) (by decide +kernel)]
    refine T_beq 35 dX7_given_20 (by decide) (fun h2 => ?_) (fun h2 => ?_)
    · have h2 := nt_f h2
      exact no (h2.elim Or.inl (fun z => Or.inr (Or.inl z)))
    · have h2 := nt_t h2
      refine T_il3 dX7_given_23 ?_
      refine T_i2l dX7_given_24 ?_
      refine T_lconst (v := 0) dX7_given_25 (by decide +kernel) ?_
      refine T_ldc2 kX7_209 dX7_given_26 ?_
      refine T_pS3 lX7_78 (m_in _ _ _ _ _ _) (by omega) (Nat.le_of_ble_eq_true rfl) dX7_given_29 ?_
      rw [in_c (lo := 0) (hi := nI 99) (by decide +kernel) (by decide +kernel)]
      refine T_bne 38 dX7_given_32 (by decide) (fun h3 => ?_) (fun h3 => ?_)
      · have h3 := nt_t h3
        have h4 : ¬ (n < nI 1 ∨ nI 99 < n ∨ m < 0 ∨ nI 99 < m) := fun z => z.elim (fun z => h2 (Or.inl z)) (fun z => z.elim (fun z => h2 (Or.inr z)) h3)
        obtain ⟨j, hk, rfl⟩ := knB_ok hn h1
        obtain ⟨q, hq, rfl⟩ := nI_of (x := m) (fun w => h3 (Or.inl w))
        have hq2 : q ≤ 99 := (nI_leI hq (by decide)).mp (Int32.not_lt.mp (fun w => h3 (Or.inr w)))
        refine T_al0 dX7_given_38 ?_
        refine T_il1 dX7_given_39 ?_
        refine T_pV1 lX7_169 rfl (by decide) (cell_89 _ _) (m_isWholeA _ F G a hM hI j hk) (by omega) (Nat.le_of_ble_eq_true rfl) dX7_given_40 ?_
        refine T_bne 49 dX7_given_43 (by decide) (fun h5 => ?_) (fun h5 => ?_)
        · refine T_iconst (v := nI 0) dX7_given_49 rfl ?_
          refine T_is4 dX7_given_50 rfl ?_
          refine T_iconst (v := nI 0) dX7_given_52 rfl ?_
          refine T_is5 dX7_given_53 rfl ?_
          refine T_iconst (v := -1) dX7_given_55 rfl ?_
          refine T_is6 dX7_given_56 rfl ?_
          refine T_iconst (v := nI 0) dX7_given_58 rfl ?_
          refine T_is7 dX7_given_59 rfl ?_
          refine for_inv (gvS a (nI j) (nI q)) (aN a) (fun k y => T DX7_given d 61 [some (.ref 89), some (.int (nI j)), some (.int n), some (.int (nI q)), some (.int y.1), some (.int y.2.1), some (.int y.2.2), some (.int (nI k))] [] F G _) (fun _ y => ¬ y.2.1 < nI 0) (fun k y hk hy => ?_) ?_ (aN a) 0 (nI 0, nI 0, -1) (by omega) (by decide) ?_
          · unfold gvS
            dsimp only
            generalize (if nI k = nI j then nI 0 else givA a (nI q) k) = g
            split
            · rename_i hlt
              exact fun z => hy (Int32.lt_trans hlt z)
            · exact hy
          · intro k y hk hy h
            have skip : (if nI k = nI j then nI 0 else givA a (nI q) k) = nI 0 → T DX7_given d 155 [some (.ref 89), some (.int (nI j)), some (.int n), some (.int (nI q)), some (.int y.1), some (.int y.2.1), some (.int y.2.2), some (.int (nI k))] [] F G (fun v F' G' => v = some (.int (r_given a (nI j) n (nI q))) ∧ F' = F ∧ G' = G) := by
              intro hz
              rw [gvS] at h
              dsimp only at h
              rw [hz, if_neg hy, add_0] at h
              refine T_ii7 dX7_given_155 (by first | exact nI_inc _ | exact nI_dec _ | rfl) rfl ?_
              refine T_goto 61 dX7_given_158 (by decide) ?_
              exact h
            refine T_il7 dX7_given_61 ?_
            refine T_al0 dX7_given_63 ?_
            refine T_g7 gX7_74 (cell_89 _ _) rfl dX7_given_64 ?_
            rw [e2]
            refine T_nge_f 161 dX7_given_67 (by decide) (by omega) (by omega) (by omega) ?_
            refine T_il7 dX7_given_70 ?_
            refine T_il1 dX7_given_72 ?_
            refine T_neq 155 dX7_given_73 (by decide) (by omega) (by omega) (fun h6 => ?_) (fun h6 => ?_)
            · exact skip (if_pos (by rw [h6]))
            · have h6' : ¬ nI k = nI j := fun z => h6 ((nI_eq (by omega) (by omega)).mp z)
              refine T_al0 dX7_given_76 ?_
              refine T_il7 dX7_given_77 ?_
              refine T_pV1 lX7_169 rfl (by decide) (cell_89 _ _) (m_isWholeA _ F G a hM hI k hk) (by omega) (Nat.le_of_ble_eq_true rfl) dX7_given_79 ?_
              refine T_beq 155 dX7_given_82 (by decide) (fun h7 => ?_) (fun h7 => ?_)
              · exact skip (by rw [if_neg h6', givA, givI, if_neg (by rw [h7]; decide)])
              · refine T_al0 dX7_given_85 ?_
                refine T_g7 gX7_7 (cell_89 _ _) rfl dX7_given_86 ?_
                refine T_il7 dX7_given_89 ?_
                refine T_aldN rfl (show _ < 8 by omega) dX7_given_91 ?_
                rw [g90]
                refine T_iconst (v := nI 3) dX7_given_92 rfl ?_
                refine T_icmp_eq 155 dX7_given_93 (by decide) (fun h8 => ?_) (fun h8 => ?_)
                · exact skip (by rw [if_neg h6', givA, givI, if_pos h7, if_pos (show endB (aKd a) k = true from decide_eq_true h8)])
                · have cG := m_canGive (d - 1) (by omega) F G a hM hI k hk q (by omega) h7 (decide_eq_false h8)
                  rw [gvS] at h
                  dsimp only at h
                  rw [if_neg h6'] at h
                  generalize givA a (nI q) k = g at cG h
                  refine T_il4 dX7_given_96 ?_
                  refine T_al0 dX7_given_98 ?_
                  refine T_il7 dX7_given_99 ?_
                  refine T_il3 dX7_given_101 ?_
                  refine T_pV2 lX7_241 rfl (by decide) (cell_89 _ _) cG (by omega) (Nat.le_of_ble_eq_true rfl) dX7_given_102 ?_
                  refine T_iadd dX7_given_105 ?_
                  refine T_is4 dX7_given_106 rfl ?_
                  refine T_al0 dX7_given_108 ?_
                  refine T_il7 dX7_given_109 ?_
                  refine T_il3 dX7_given_111 ?_
                  refine T_pV2 lX7_241 rfl (by decide) (cell_89 _ _) cG (by omega) (Nat.le_of_ble_eq_true rfl) dX7_given_112 ?_
                  refine T_il5 dX7_given_115 ?_
                  refine T_icmp_le 125 dX7_given_117 (by decide) (fun h9 => ?_) (fun h9 => ?_)
                  · rw [if_neg (Int32.not_lt.mpr h9)] at h
                    refine T_il6 dX7_given_125 ?_
                    refine T_is6 dX7_given_127 rfl ?_
                    refine T_al0 dX7_given_129 ?_
                    refine T_il7 dX7_given_130 ?_
                    refine T_il3 dX7_given_132 ?_
                    refine T_pV2 lX7_241 rfl (by decide) (cell_89 _ _) cG (by omega) (Nat.le_of_ble_eq_true rfl) dX7_given_133 ?_
                    refine T_il5 dX7_given_136 ?_
                    refine T_icmp_le_t 151 dX7_given_138 (by decide) h9 ?_
                    refine T_il5 dX7_given_151 ?_
                    refine T_is5 dX7_given_153 rfl ?_
                    refine T_ii7 dX7_given_155 (by first | exact nI_inc _ | exact nI_dec _ | rfl) rfl ?_
                    refine T_goto 61 dX7_given_158 (by decide) ?_
                    exact h
                  · rw [if_pos (Int32.not_le.mp h9)] at h
                    refine T_il7 dX7_given_120 ?_
                    refine T_goto 127 dX7_given_122 (by decide) ?_
                    refine T_is6 dX7_given_127 rfl ?_
                    refine T_al0 dX7_given_129 ?_
                    refine T_il7 dX7_given_130 ?_
                    refine T_il3 dX7_given_132 ?_
                    refine T_pV2 lX7_241 rfl (by decide) (cell_89 _ _) cG (by omega) (Nat.le_of_ble_eq_true rfl) dX7_given_133 ?_
                    refine T_il5 dX7_given_136 ?_
                    refine T_icmp_le_f 151 dX7_given_138 (by decide) h9 ?_
                    refine T_al0 dX7_given_141 ?_
                    refine T_il7 dX7_given_142 ?_
                    refine T_il3 dX7_given_144 ?_
                    refine T_pV2 lX7_241 rfl (by decide) (cell_89 _ _) cG (by omega) (Nat.le_of_ble_eq_true rfl) dX7_given_145 ?_
                    refine T_goto 153 dX7_given_148 (by decide) ?_
                    refine T_is5 dX7_given_153 rfl ?_
                    refine T_ii7 dX7_given_155 (by first | exact nI_inc _ | exact nI_dec _ | rfl) rfl ?_
                    refine T_goto 61 dX7_given_158 (by decide) ?_
                    exact h
          · intro hy
            refine T_il7 dX7_given_61 ?_
            refine T_al0 dX7_given_63 ?_
            refine T_g7 gX7_74 (cell_89 _ _) rfl dX7_given_64 ?_
            rw [e2]
            refine T_nge_t 161 dX7_given_67 (by decide) (by omega) (by omega) (by omega) ?_
            refine T_il4 dX7_given_161 ?_
            refine T_il2 dX7_given_163 ?_
            refine T_icmp_lt 172 dX7_given_164 (by decide) (fun h6 => ?_) (fun h6 => ?_)
            · refine T_iconst (v := -1) dX7_given_172 rfl ?_
              refine T_iret rfl dX7_given_173 ?_
              exact ⟨by rw [r_given, if_pos h1, if_neg h4, if_pos h5, if_pos h6], rfl, rfl⟩
            · refine T_il6 dX7_given_167 ?_
              refine T_goto 173 dX7_given_169 (by decide) ?_
              refine T_iret rfl dX7_given_173 ?_
              exact ⟨by rw [r_given, if_pos h1, if_neg h4, if_pos h5, if_neg h6], rfl, rfl⟩
        · refine T_bipush (v := -4) dX7_given_46 (by decide +kernel) ?_
          refine T_iret rfl dX7_given_48 ?_
          exact ⟨by rw [r_given, if_pos h1, if_neg h4, if_neg (by rw [h5]; decide)], rfl, rfl⟩
      · have h3 := nt_f h3
        exact no (Or.inr (Or.inr h3))
  · refine T_bipush (v := -2) dX7_given_8 (by decide +kernel) ?_
    refine T_iret rfl dX7_given_10 ?_
    exact ⟨by rw [r_given, if_neg (by rw [h1]; decide)], rfl, rfl⟩
