/-! THE REFERENCE TELLS A STATE -/
def slR (n : Nat) (l : List Int32) (j : Nat) (x : LoS) : Prop := ∀ i, i < 42 → l.getD (42 * j + i) 0 = (enc n x).getD i 0
def PastM (n : Nat) (l : List Int32) (p : List LoS) : Prop := p.length ≤ 8 ∧ ∀ (j : Nat) (x : LoS), p[j]? = some x → slR n l (p.length - 1 - j) x
def KeptM (n : Nat) (z l : List Int32) (k : Option LoS × Option LoS) : Prop := z = [bI k.1.isSome, bI k.2.isSome] ∧ (∀ x, k.1 = some x → slR n l 0 x) ∧ (∀ x, k.2 = some x → slR n l 1 x)
def MR (a : AS) (F : FT) (G : GT) : Prop := (F 89 2 = nI (aN a) ∧ F 89 5 = nI (aM a) ∧ F 89 9 = nI (aLen a) ∧ F 89 23 = nI (aPast a).length) ∧ (G 90 = aKd a ∧ G 91 = aLn a ∧ G 92 = aOt a ∧ G 93 = aOd a ∧ G 94 = aCo a ++ (aOv a ++ aKn a)) ∧ (G 95 = enc (aN a) (aNow a) ∧ G 96 = aTx a) ∧ PastM (aN a) (G 102) (aPast a) ∧ KeptM (aN a) (G 105) (G 106) (aKept a)
def MP (r : Int32 × AS) (F : FT) (G : GT) : Option Value → FT → GT → Prop := fun v F' G' => v = some (.int r.1) ∧ MR r.2 F' G' ∧ FrX F G F' G'
theorem FrX.rf {F : FT} {G : GT} : FrX F G F G := ⟨fun _ _ _ => rfl, fun _ _ => rfl⟩
theorem FrX.tr {F F1 F2 : FT} {G G1 G2 : GT} (h : FrX F G F1 G1) (g : FrX F1 G1 F2 G2) : FrX F G F2 G2 := ⟨fun c i hc => (g.1 c i hc).trans (h.1 c i hc), fun c hc => (g.2 c hc).trans (h.2 c hc)⟩
theorem FrX.u2 {F : FT} {G : GT} {F' : FT} {G' : GT} (h : FrX F G F' G') {i : Nat} {v : Int32} : FrX F G (u2 F' 89 i v) G' := ⟨fun c j hc => by rw [u2_c _ _ (by omega)]; exact h.1 c j hc, h.2⟩
theorem FrX.u1 {F : FT} {G : GT} {F' : FT} {G' : GT} (h : FrX F G F' G') {a : Nat} {l : List Int32} (ha : 89 ≤ a) : FrX F G F' (u1 G' a l) := ⟨h.1, fun c hc => by rw [u1_n _ _ (by omega)]; exact h.2 c hc⟩
theorem MP.rf {r : Int32} {a : AS} {F : FT} {G : GT} (h : MR a F G) : MP (r, a) F G (some (.int r)) F G := ⟨rfl, h, FrX.rf⟩
/-! THE INVARIANT -/
def Sym8 (l : List Int32) : Prop := ∀ i j, i < 8 → j < 8 → hasI (l.getD i 0) (nI j) = hasI (l.getD j 0) (nI i)
def LoI (n : Nat) (kd ln : List Int32) (x : LoS) : Prop := ((lCol x).length = 8 ∧ (lCd x).length = 8 ∧ (lOv x).length = 8 ∧ (lKn x).length = 8) ∧ (okS (lOv x) ∧ okS (lKn x) ∧ Acy (lOv x) ∧ Sym8 (lKn x)) ∧ (∀ q, n ≤ q → q < 8 → (lOv x).getD q 0 = 0 ∧ (lKn x).getD q 0 = 0) ∧ ∃ w c dd, lWhole x = nI w ∧ w < 2 ^ n ∧ lCut x = nI c ∧ c < 2 ^ n ∧ lDay x = nI dd ∧ dd ≤ 999 ∧ (∀ i, w.testBit i = true → c.testBit i = false) ∧ ∀ i, i < n → endB kd i = false → (w.testBit i = true → dd < sv (ln.getD i 0)) ∧ (c.testBit i = true → ∃ k, (lCd x).getD i 0 = nI k ∧ k < sv (ln.getD i 0))
def TeI (x : TeS) : Prop := (tN x ≤ 8 ∧ tM x ≤ 6) ∧ ((tKd x).length = 8 ∧ (tLn x).length = 8 ∧ (tCo x).length = 8 ∧ (tOv x).length = 8 ∧ (tKn x).length = 8 ∧ (tOt x).length = 6 ∧ (tOd x).length = 6) ∧ (okS (tOv x) ∧ okS (tKn x) ∧ Acy (tOv x) ∧ Sym8 (tKn x)) ∧ (∀ q, tN x ≤ q → q < 8 → (tOv x).getD q 0 = 0 ∧ (tKn x).getD q 0 = 0) ∧ (∀ i, i < tN x → ∃ l, (tLn x).getD i 0 = nI l ∧ 1 ≤ l ∧ l ≤ 60) ∧ ∀ o, o < tM x → ∃ j y, (tOt x).getD o 0 = nI j ∧ j < tN x ∧ (tOd x).getD o 0 = nI y ∧ y ≤ 99
abbrev LoA (a : AS) (x : LoS) : Prop := LoI (aN a) (aKd a) (aLn a) x
def InvA (a : AS) : Prop := TeI a.2.1 ∧ ((aTx a).length = 160 ∧ aLen a ≤ 160) ∧ LoA a (aNow a) ∧ (aPast a).length ≤ 8 ∧ (∀ x ∈ aPast a, LoA a x) ∧ (∀ x, (aKept a).1 = some x → LoA a x) ∧ ∀ x, (aKept a).2 = some x → LoA a x
theorem pow_256 {n w : Nat} (hn : n ≤ 8) (hw : w < 2 ^ n) : w < 256 := Nat.lt_of_lt_of_le hw (Nat.pow_le_pow_right (n := 2) (by decide) hn)
theorem LoI.lk {n : Nat} {kd ln : List Int32} {x : LoS} (hn : n ≤ 8) (h : LoI n kd ln x) : LkO n x := by
  obtain ⟨-, ⟨ho, hk, ha, -⟩, -, w, c, dd, hw, hw2, -⟩ := h
  exact ⟨hn, ⟨w, hw, hw2⟩, ho, hk, fun i hi => top_ends ho ha _ i hi⟩
theorem LoI.fall {n : Nat} {kd ln : List Int32} {x : LoS} (hn : n ≤ 8) (h : LoI n kd ln x) {t : Nat} (ht : t < n) : mFall n kd x t = fallI kd (lOv x) (lKn x) (lWhole x) t := mFall_eq (h.lk hn) (fun q h1 h2 => (h.2.2.1 q h1 h2).2) ht
theorem LoI.sub {n : Nat} {kd ln : List Int32} {x : LoS} (hn : n ≤ 8) (h : LoI n kd ln x) {t : Nat} (ht : t < n) (kd' : List Int32) : ∀ i, i < n → hasI (fallI kd' (lOv x) (lKn x) (lWhole x) t) (nI i) = true → hasI (lWhole x) (nI i) = true := by
  obtain ⟨-, ⟨ho, hk, ha, -⟩, -, w, c, dd, hw, hw2, -⟩ := h
  intro i hi hq
  rw [hw] at hq ⊢
  exact fall_in ho hk (pow_256 hn hw2) (by omega) (by omega) hq
theorem MR.mc {a : AS} {F : FT} {G : GT} (h : MR a F G) (hI : InvA a) : McR (aN a) (aKd a) (aLn a) (aNow a) F G := by
  obtain ⟨⟨e2, -⟩, ⟨g90, g91, -⟩, ⟨g95, -⟩, -⟩ := h
  obtain ⟨l1, l2, l3, l4⟩ := hI.2.2.1.1
  exact ⟨e2, g90, g91, g95, l1, l2, l3, l4⟩
theorem m_fallA (d : Nat) (hd : 3 ≤ d) (F : FT) (G : GT) (a : AS) (hM : MR a F G) (hI : InvA a) (t : Nat) (ht : t < aN a) : Kp DX7_fallsOn d [.ref 89, .int (nI t)] F G (some (.int (fallA a t))) := by
  have hn : aN a ≤ 8 := hI.1.1.1
  have h := m_fallsOn d hd F G (aN a) (aKd a) (aLn a) (aNow a) (hM.mc hI) (hI.2.2.1.lk hn) t ht
  rw [hI.2.2.1.fall hn ht] at h
  exact h
theorem m_lossA (d : Nat) (hd : 2 ≤ d) (F : FT) (G : GT) (a : AS) (hM : MR a F G) (hI : InvA a) (t : Nat) (ht : t < aN a) : Kp DX7_lossOf d [.ref 89, .int (fallA a t)] F G (some (.int (lossA a t))) := by
  have hn : aN a ≤ 8 := hI.1.1.1
  exact m_lossOf d hd F G (aN a) (aKd a) (aLn a) (aNow a) (hM.mc hI) hn (fallA a t) (hI.2.2.1.sub hn ht _)
theorem m_wholesA (d : Nat) (hd : 1 ≤ d) (F : FT) (G : GT) (a : AS) (hM : MR a F G) (hI : InvA a) : Kp DX7_wholes d [.ref 89] F G (some (.int (lWhole (aNow a)))) := by
  obtain ⟨-, -, -, w, c, dd, hw, hw2, -⟩ := hI.2.2.1
  exact m_wholes d hd F G (aN a) (aKd a) (aLn a) (aNow a) (hM.mc hI) hI.1.1.1 w hw hw2
theorem in_c {x lo hi : Int32} {l h : Int64} (e1 : l = lo.toInt64) (e2 : h = hi.toInt64) : inL x.toInt64 l h = !decide (x < lo ∨ hi < x) := by
  subst e1 e2
  rw [in_I]
  by_cases h1 : x < lo ∨ hi < x
  · rw [decide_eq_true h1, decide_eq_false (fun z => h1.elim (Int32.not_lt.mpr z.1) (Int32.not_lt.mpr z.2))]; rfl
  · rw [decide_eq_false h1, decide_eq_true ⟨Int32.not_lt.mp (fun z => h1 (Or.inl z)), Int32.not_lt.mp (fun z => h1 (Or.inr z))⟩]; rfl
theorem nt_t {p : Prop} [Decidable p] (h : (!decide p) = true) : ¬ p := fun z => by rw [decide_eq_true z] at h; cases h
theorem nt_f {p : Prop} [Decidable p] (h : (!decide p) = false) : p := by
  by_cases q : p
  · exact q
  · rw [decide_eq_false q] at h; cases h
theorem m_thread (d : Nat) (hd : 20 ≤ d) (F : FT) (G : GT) (a : AS) (hM : MR a F G) (hI : InvA a) (t w : Int32) : Kp DX7_thread d [.ref 89, .int t, .int w] F G (some (.int (r_thread a t w))) := by
  obtain ⟨⟨e2, e5, e9, e23⟩, ⟨g90, g91, g92, g93, g94⟩, ⟨g95, g96⟩, hP, hK⟩ := id hM
  have hn : aN a ≤ 8 := hI.1.1.1
  obtain ⟨l1, l2, l3, l4⟩ := hI.2.2.1.1
  refine Kc.ofT [some (.ref 89), some (.int t), some (.int w)] pn_X7 (Nat.le_of_ble_eq_true rfl) rfl ?_
  refine T_al0 dX7_thread_0 ?_
  refine T_il1 dX7_thread_1 ?_
  refine T_pV1 lX7_172 rfl (by decide) (cell_89 _ _) (m_isThread _ (by omega) _ _ _ (by assumption) (by assumption) _) (by omega) (Nat.le_of_ble_eq_true rfl) dX7_thread_2 ?_
  refine T_bne 11 dX7_thread_5 (by decide) (fun h1 => ?_) (fun h1 => ?_)
  · obtain ⟨k, hk, rfl⟩ := knB_ok hn h1
    have hs : sv (nI k) = k := sv_nI (by omega)
    refine T_il2 dX7_thread_11 ?_
    cases hw : swN 6 w with
    | none =>
      refine T_tableOut 119 dX7_thread_12 (sw_out (by decide) hw) (by decide) ?_
      refine T_bipush (v := -3) dX7_thread_119 (by decide +kernel) ?_
      refine T_iret rfl dX7_thread_121 ?_
      exact ⟨by rw [r_thread, if_pos h1, hw], rfl, rfl⟩
    | some j =>
      obtain ⟨hj, rfl⟩ := sw_in (by decide) hw
      match j, hj with
      | 0, _ =>
        refine T_tableIn 56 dX7_thread_12 (by decide +kernel) (by decide +kernel) (off := 44) (by decide +kernel) (by decide) ?_
        refine T_al0 dX7_thread_56 ?_
        refine T_g7 gX7_7 (cell_89 _ _) rfl dX7_thread_57 ?_
        refine T_il1 dX7_thread_60 ?_
        refine T_aldN rfl (show _ < 8 by omega) dX7_thread_61 ?_
        refine T_iret rfl dX7_thread_62 ?_
        exact ⟨by simp only [r_thread, h1, if_true, hw, hs, g90], rfl, rfl⟩
      | 1, _ =>
        refine T_tableIn 63 dX7_thread_12 (by decide +kernel) (by decide +kernel) (off := 51) (by decide +kernel) (by decide) ?_
        refine T_al0 dX7_thread_63 ?_
        refine T_g7 gX7_13 (cell_89 _ _) rfl dX7_thread_64 ?_
        refine T_il1 dX7_thread_67 ?_
        refine T_aldN rfl (show _ < 8 by omega) dX7_thread_68 ?_
        refine T_iret rfl dX7_thread_69 ?_
        exact ⟨by simp only [r_thread, h1, if_true, hw, hs, g91], rfl, rfl⟩
      | 2, _ =>
        refine T_tableIn 70 dX7_thread_12 (by decide +kernel) (by decide +kernel) (off := 58) (by decide +kernel) (by decide) ?_
        refine T_al0 dX7_thread_70 ?_
        refine T_g7 gX7_25 (cell_89 _ _) rfl dX7_thread_71 ?_
        refine T_iconst (v := nI 0) dX7_thread_74 rfl ?_
        refine T_il1 dX7_thread_75 ?_
        first | refine T_iaddN dX7_thread_76 ?_ | refine T_iadd dX7_thread_76 ?_
        refine T_aldN rfl (show _ < 42 by omega) dX7_thread_77 ?_
        refine T_iret rfl dX7_thread_78 ?_
        exact ⟨by simp only [r_thread, h1, if_true, hw, hs]; rw [g95, enc_col l1 (by omega)], rfl, rfl⟩
      | 3, _ =>
        refine T_tableIn 79 dX7_thread_12 (by decide +kernel) (by decide +kernel) (off := 67) (by decide +kernel) (by decide) ?_
        refine T_al0 dX7_thread_79 ?_
        refine T_g7 gX7_25 (cell_89 _ _) rfl dX7_thread_80 ?_
        refine T_bipush (v := nI 8) dX7_thread_83 (by decide +kernel) ?_
        refine T_il1 dX7_thread_85 ?_
        first | refine T_iaddN dX7_thread_86 ?_ | refine T_iadd dX7_thread_86 ?_
        refine T_aldN rfl (show _ < 42 by omega) dX7_thread_87 ?_
        refine T_iret rfl dX7_thread_88 ?_
        exact ⟨by simp only [r_thread, h1, if_true, hw]; rw [g95, enc_how l1 (by omega), howI, if_pos hk]; rfl, rfl, rfl⟩
      | 4, _ =>
        refine T_tableIn 89 dX7_thread_12 (by decide +kernel) (by decide +kernel) (off := 77) (by decide +kernel) (by decide) ?_
        refine T_al0 dX7_thread_89 ?_
        refine T_g7 gX7_25 (cell_89 _ _) rfl dX7_thread_90 ?_
        refine T_bipush (v := nI 24) dX7_thread_93 (by decide +kernel) ?_
        refine T_il1 dX7_thread_95 ?_
        first | refine T_iaddN dX7_thread_96 ?_ | refine T_iadd dX7_thread_96 ?_
        refine T_aldN rfl (show _ < 42 by omega) dX7_thread_97 ?_
        refine T_iret rfl dX7_thread_98 ?_
        exact ⟨by simp only [r_thread, h1, if_true, hw, hs]; rw [g95, enc_ov l1 l2 l3 (by omega)], rfl, rfl⟩
      | 5, _ =>
        refine T_tableIn 99 dX7_thread_12 (by decide +kernel) (by decide +kernel) (off := 87) (by decide +kernel) (by decide) ?_
        refine T_al0 dX7_thread_99 ?_
        refine T_g7 gX7_25 (cell_89 _ _) rfl dX7_thread_100 ?_
        refine T_bipush (v := nI 32) dX7_thread_103 (by decide +kernel) ?_
        refine T_il1 dX7_thread_105 ?_
        first | refine T_iaddN dX7_thread_106 ?_ | refine T_iadd dX7_thread_106 ?_
        refine T_aldN rfl (show _ < 42 by omega) dX7_thread_107 ?_
        refine T_iret rfl dX7_thread_108 ?_
        exact ⟨by simp only [r_thread, h1, if_true, hw, hs]; rw [g95, enc_kn l1 l2 l3 l4 (by omega)], rfl, rfl⟩
      | 6, _ =>
        refine T_tableIn 109 dX7_thread_12 (by decide +kernel) (by decide +kernel) (off := 97) (by decide +kernel) (by decide) ?_
        refine T_al0 dX7_thread_109 ?_
        refine T_g7 gX7_25 (cell_89 _ _) rfl dX7_thread_110 ?_
        refine T_bipush (v := nI 16) dX7_thread_113 (by decide +kernel) ?_
        refine T_il1 dX7_thread_115 ?_
        first | refine T_iaddN dX7_thread_116 ?_ | refine T_iadd dX7_thread_116 ?_
        refine T_aldN rfl (show _ < 42 by omega) dX7_thread_117 ?_
        refine T_iret rfl dX7_thread_118 ?_
        exact ⟨by simp only [r_thread, h1, if_true, hw, hs]; rw [g95, enc_cd l1 l2 (by omega)], rfl, rfl⟩
      | j + 7, hj => exact absurd hj (by omega)
  · refine T_bipush (v := -2) dX7_thread_8 (by decide +kernel) ?_
    refine T_iret rfl dX7_thread_10 ?_
    exact ⟨by rw [r_thread, if_neg (by rw [h1]; decide)], rfl, rfl⟩
theorem m_as (d : Nat) (hd : 20 ≤ d) (F : FT) (G : GT) (a : AS) (hM : MR a F G) (hI : InvA a) (t k : Int32) : Kp DX7_as d [.ref 89, .int t, .int k] F G (some (.int (r_as a t k))) := by
  obtain ⟨⟨e2, e5, e9, e23⟩, ⟨g90, g91, g92, g93, g94⟩, ⟨g95, g96⟩, hP, hK⟩ := id hM
  have hn : aN a ≤ 8 := hI.1.1.1
  refine Kc.ofT [some (.ref 89), some (.int t), some (.int k), none, none] pn_X7 (Nat.le_of_ble_eq_true rfl) rfl ?_
  refine T_al0 dX7_as_0 ?_
  refine T_il1 dX7_as_1 ?_
  refine T_pV1 lX7_172 rfl (by decide) (cell_89 _ _) (m_isThread _ (by omega) _ _ _ (by assumption) (by assumption) _) (by omega) (Nat.le_of_ble_eq_true rfl) dX7_as_2 ?_
  refine T_bne 11 dX7_as_5 (by decide) (fun h1 => ?_) (fun h1 => ?_)
  · obtain ⟨j, hk, rfl⟩ := knB_ok hn h1
    have hs : sv (nI j) = j := sv_nI (by omega)
    refine T_il2 dX7_as_11 ?_
    refine T_i2l dX7_as_12 ?_
    refine T_lconst (v := 0) dX7_as_13 (by decide +kernel) ?_
    refine T_ldc2 kX7_175 dX7_as_14 ?_
    refine T_pS3 lX7_78 (m_in _ _ _ _ _ _) (by omega) (Nat.le_of_ble_eq_true rfl) dX7_as_17 ?_
    rw [in_c (lo := 0) (hi := nI 4) (by decide +kernel) (by decide +kernel)]
    refine T_bne 26 dX7_as_20 (by decide) (fun h2 => ?_) (fun h2 => ?_)
    · have h2 := nt_t h2
      refine T_al0 dX7_as_26 ?_
      refine T_g7 gX7_7 (cell_89 _ _) rfl dX7_as_27 ?_
      refine T_il1 dX7_as_30 ?_
      refine T_aldN rfl (show _ < 8 by omega) dX7_as_31 ?_
      refine T_is3 dX7_as_32 rfl ?_
      rw [g90]
      generalize hc : (aKd a).getD j 0 = c
      have yes : isKd k c = true → T DX7_as d 59 [some (.ref 89), some (.int (nI j)), some (.int k), some (.int c), none] [] F G (fun v F' G' => v = some (.int (r_as a (nI j) k)) ∧ F' = F ∧ G' = G) := by
        intro h3
        refine T_iconst (v := nI 1) dX7_as_59 rfl ?_
        refine T_goto 64 dX7_as_60 (by decide) ?_
        refine T_is4 dX7_as_64 rfl ?_
        refine T_il4 dX7_as_66 ?_
        refine T_if_eq_f 79 dX7_as_68 (by decide) (nI_ne0 (by decide) (by decide)) ?_
        refine T_al0 dX7_as_71 ?_
        refine T_il1 dX7_as_72 ?_
        refine T_pV1 lX7_177 rfl (by decide) (cell_89 _ _) (m_yearsOf _ (by omega) F G (aN a) (aKd a) (aLn a) (aNow a) (hM.mc hI) hn j hk) (by omega) (Nat.le_of_ble_eq_true rfl) dX7_as_73 ?_
        refine T_goto 81 dX7_as_76 (by decide) ?_
        refine T_iret rfl dX7_as_81 ?_
        exact ⟨by rw [r_as, if_pos h1, if_neg h2, hs, hc, if_pos h3, yrM], rfl, rfl⟩
      have no : isKd k c = false → T DX7_as d 63 [some (.ref 89), some (.int (nI j)), some (.int k), some (.int c), none] [] F G (fun v F' G' => v = some (.int (r_as a (nI j) k)) ∧ F' = F ∧ G' = G) := by
        intro h3
        refine T_iconst (v := nI 0) dX7_as_63 rfl ?_
        refine T_is4 dX7_as_64 rfl ?_
        refine T_il4 dX7_as_66 ?_
        refine T_if_eq_t 79 dX7_as_68 (by decide) nI_0 ?_
        refine T_bipush (v := -4) dX7_as_79 (by decide +kernel) ?_
        refine T_iret rfl dX7_as_81 ?_
        exact ⟨by rw [r_as, if_pos h1, if_neg h2, hs, hc, if_neg (by rw [h3]; decide)], rfl, rfl⟩
      refine T_il2 dX7_as_33 ?_
      refine T_if_eq 59 dX7_as_34 (by decide) (fun h3 => ?_) (fun h3 => ?_)
      · exact yes (decide_eq_true (Or.inl h3))
      · refine T_il2 dX7_as_37 ?_
        refine T_iconst (v := nI 1) dX7_as_38 rfl ?_
        refine T_icmp_ne 47 dX7_as_39 (by decide) (fun h4 => ?_) (fun h4 => ?_)
        · refine T_il2 dX7_as_47 ?_
          refine T_iconst (v := nI 1) dX7_as_48 rfl ?_
          refine T_icmp_le 63 dX7_as_49 (by decide) (fun h5 => ?_) (fun h5 => ?_)
          · exfalso
            obtain ⟨q, hq, rfl⟩ := nI_of (fun z => h2 (Or.inl z))
            have := (nI_leI hq (by decide)).mp h5
            have : q = 0 ∨ q = 1 := by omega
            rcases this with rfl | rfl
            · exact h3 nI_0
            · exact h4 rfl
          · refine T_il3 dX7_as_52 ?_
            refine T_il2 dX7_as_53 ?_
            refine T_iconst (v := nI 1) dX7_as_54 rfl ?_
            refine T_isub dX7_as_55 ?_
            refine T_icmp_ne 63 dX7_as_56 (by decide) (fun h6 => ?_) (fun h6 => ?_)
            · exact no (decide_eq_false (fun z => z.elim h3 (fun z => z.elim (fun e => h6 (by rw [e, Int32.add_sub_cancel])) (fun e => h4 e.1))))
            · exact yes (decide_eq_true (Or.inr (Or.inl (by rw [h6, Int32.sub_add_cancel]))))
        · refine T_il3 dX7_as_42 ?_
          refine T_iconst (v := nI 3) dX7_as_43 rfl ?_
          refine T_icmp_ne 59 dX7_as_44 (by decide) (fun h5 => ?_) (fun h5 => ?_)
          · exact yes (decide_eq_true (Or.inr (Or.inr ⟨h4, h5⟩)))
          · refine T_il2 dX7_as_47 ?_
            refine T_iconst (v := nI 1) dX7_as_48 rfl ?_
            refine T_icmp_le_t 63 dX7_as_49 (by decide) (by rw [h4]; exact Int32.le_refl _) ?_
            exact no (by rw [h4, h5]; decide +kernel)
    · have h2 := nt_f h2
      refine T_bipush (v := -3) dX7_as_23 (by decide +kernel) ?_
      refine T_iret rfl dX7_as_25 ?_
      exact ⟨by rw [r_as, if_pos h1, if_pos h2], rfl, rfl⟩
  · refine T_bipush (v := -2) dX7_as_8 (by decide +kernel) ?_
    refine T_iret rfl dX7_as_10 ?_
    exact ⟨by rw [r_as, if_neg (by rw [h1]; decide)], rfl, rfl⟩
theorem m_order (d : Nat) (hd : 20 ≤ d) (F : FT) (G : GT) (a : AS) (hM : MR a F G) (hI : InvA a) (o w : Int32) : Kp DX7_order d [.ref 89, .int o, .int w] F G (some (.int (r_order a o w))) := by
  obtain ⟨⟨e2, e5, e9, e23⟩, ⟨g90, g91, g92, g93, g94⟩, ⟨g95, g96⟩, hP, hK⟩ := id hM
  have hm : aM a ≤ 6 := hI.1.1.2
  refine Kc.ofT [some (.ref 89), some (.int o), some (.int w)] pn_X7 (Nat.le_of_ble_eq_true rfl) rfl ?_
  refine T_il1 dX7_order_0 ?_
  refine T_i2l dX7_order_1 ?_
  refine T_lconst (v := 0) dX7_order_2 (by decide +kernel) ?_
  refine T_al0 dX7_order_3 ?_
  refine T_g7 gX7_156 (cell_89 _ _) rfl dX7_order_4 ?_
  rw [e5]
  refine T_iconst (v := nI 1) dX7_order_7 rfl ?_
  refine T_isub dX7_order_8 ?_
  refine T_i2l dX7_order_9 ?_
  refine T_pS3 lX7_78 (m_in _ _ _ _ _ _) (by omega) (Nat.le_of_ble_eq_true rfl) dX7_order_10 ?_
  rw [in_kn (show aM a ≤ 8 from Nat.le_trans hm (by decide))]
  refine T_bne 19 dX7_order_13 (by decide) (fun h1 => ?_) (fun h1 => ?_)
  · obtain ⟨j, hk, rfl⟩ := knB_ok (show aM a ≤ 8 from Nat.le_trans hm (by decide)) h1
    have hk6 : j < 6 := Nat.lt_of_lt_of_le hk hm
    have hs : sv (nI j) = j := sv_nI (by omega)
    refine T_il2 dX7_order_19 ?_
    refine T_if_ne 32 dX7_order_20 (by decide) (fun h2 => ?_) (fun h2 => ?_)
    · refine T_il2 dX7_order_32 ?_
      refine T_iconst (v := nI 1) dX7_order_33 rfl ?_
      refine T_icmp_ne 46 dX7_order_34 (by decide) (fun h3 => ?_) (fun h3 => ?_)
      · refine T_bipush (v := -3) dX7_order_46 (by decide +kernel) ?_
        refine T_iret rfl dX7_order_48 ?_
        have hw : swN 1 w = none := by
          cases hq : swN 1 w with
          | none => rfl
          | some q =>
            obtain ⟨hj, rfl⟩ := sw_in (by decide) hq
            have : q = 0 ∨ q = 1 := by omega
            rcases this with rfl | rfl
            · exact absurd nI_0 h2
            · exact absurd rfl h3
        exact ⟨by rw [r_order, if_pos h1, hw], rfl, rfl⟩
      · subst h3
        refine T_al0 dX7_order_37 ?_
        refine T_g7 gX7_19 (cell_89 _ _) rfl dX7_order_38 ?_
        refine T_il1 dX7_order_41 ?_
        refine T_aldN rfl (show _ < 6 by omega) dX7_order_42 ?_
        refine T_goto 48 dX7_order_43 (by decide) ?_
        refine T_iret rfl dX7_order_48 ?_
        exact ⟨by rw [r_order, if_pos h1, show swN 1 (nI 1) = some 1 by decide +kernel, hs, g93]; rfl, rfl, rfl⟩
    · subst h2
      refine T_al0 dX7_order_23 ?_
      refine T_g7 gX7_16 (cell_89 _ _) rfl dX7_order_24 ?_
      refine T_il1 dX7_order_27 ?_
      refine T_aldN rfl (show _ < 6 by omega) dX7_order_28 ?_
      refine T_goto 48 dX7_order_29 (by decide) ?_
      refine T_iret rfl dX7_order_48 ?_
      exact ⟨by rw [r_order, if_pos h1, show swN 1 0 = some 0 by decide +kernel, hs, g92]; rfl, rfl, rfl⟩
  · refine T_bipush (v := -2) dX7_order_16 (by decide +kernel) ?_
    refine T_iret rfl dX7_order_18 ?_
    exact ⟨by rw [r_order, if_neg (by rw [h1]; decide)], rfl, rfl⟩
theorem m_isWholeA (d : Nat) (F : FT) (G : GT) (a : AS) (hM : MR a F G) (hI : InvA a) (t : Nat) (ht : t < aN a) : Kp DX7_isWhole d [.ref 89, .int (nI t)] F G (some (.int (bI (hasI (lWhole (aNow a)) (nI t))))) := m_isWhole d F G (aN a) (aKd a) (aLn a) (aNow a) (hM.mc hI) hI.1.1.1 t ht
theorem m_top (d : Nat) (hd : 20 ≤ d) (F : FT) (G : GT) (a : AS) (hM : MR a F G) (hI : InvA a) (t : Int32) : Kp DX7_top d [.ref 89, .int t] F G (some (.int (r_top a t))) := by
  obtain ⟨⟨e2, -⟩, -⟩ := id hM
  have hn : aN a ≤ 8 := hI.1.1.1
  obtain ⟨-, ⟨w, hw, hw2⟩, ho, hkn, hE⟩ := hI.2.2.1.lk hn
  refine Kc.ofT [some (.ref 89), some (.int t)] pn_X7 (Nat.le_of_ble_eq_true rfl) rfl ?_
  refine T_al0 dX7_top_0 ?_
  refine T_il1 dX7_top_1 ?_
  refine T_pV1 lX7_172 rfl (by decide) (cell_89 _ _) (m_isThread _ (by omega) _ _ _ (by assumption) (by assumption) _) (by omega) (Nat.le_of_ble_eq_true rfl) dX7_top_2 ?_
  refine T_bne 11 dX7_top_5 (by decide) (fun h1 => ?_) (fun h1 => ?_)
  · obtain ⟨j, hk, rfl⟩ := knB_ok hn h1
    have hs : sv (nI j) = j := sv_nI (by omega)
    refine T_al0 dX7_top_11 ?_
    refine T_il1 dX7_top_12 ?_
    refine T_pV1 lX7_169 rfl (by decide) (cell_89 _ _) (m_isWholeA _ F G a hM hI j hk) (by omega) (Nat.le_of_ble_eq_true rfl) dX7_top_13 ?_
    refine T_beq 27 dX7_top_16 (by decide) (fun h2 => ?_) (fun h2 => ?_)
    · refine T_bipush (v := -4) dX7_top_27 (by decide +kernel) ?_
      refine T_iret rfl dX7_top_29 ?_
      exact ⟨by rw [r_top, if_pos h1, if_neg (by rw [h2]; decide)], rfl, rfl⟩
    · refine T_al0 dX7_top_19 ?_
      refine T_il1 dX7_top_20 ?_
      refine T_pV1 lX7_183 rfl (by decide) (cell_89 _ _) (m_topOf _ (by omega) F G (aN a) (aKd a) (aLn a) (aNow a) (hM.mc hI) hn w hw hw2 ho hE j (by omega)) (by omega) (Nat.le_of_ble_eq_true rfl) dX7_top_21 ?_
      refine T_goto 29 dX7_top_24 (by decide) ?_
      refine T_iret rfl dX7_top_29 ?_
      exact ⟨by rw [r_top, if_pos h1, if_pos h2, hs], rfl, rfl⟩
  · refine T_bipush (v := -2) dX7_top_8 (by decide +kernel) ?_
    refine T_iret rfl dX7_top_10 ?_
    exact ⟨by rw [r_top, if_neg (by rw [h1]; decide)], rfl, rfl⟩
theorem m_takes (d : Nat) (hd : 20 ≤ d) (F : FT) (G : GT) (a : AS) (hM : MR a F G) (hI : InvA a) (t : Int32) : Kp DX7_takes d [.ref 89, .int t] F G (some (.int (r_takes a t))) := by
  obtain ⟨⟨e2, -⟩, -⟩ := id hM
  have hn : aN a ≤ 8 := hI.1.1.1
  refine Kc.ofT [some (.ref 89), some (.int t)] pn_X7 (Nat.le_of_ble_eq_true rfl) rfl ?_
  refine T_al0 dX7_takes_0 ?_
  refine T_il1 dX7_takes_1 ?_
  refine T_pV1 lX7_172 rfl (by decide) (cell_89 _ _) (m_isThread _ (by omega) _ _ _ (by assumption) (by assumption) _) (by omega) (Nat.le_of_ble_eq_true rfl) dX7_takes_2 ?_
  refine T_beq 16 dX7_takes_5 (by decide) (fun h1 => ?_) (fun h1 => ?_)
  · refine T_bipush (v := -2) dX7_takes_16 (by decide +kernel) ?_
    refine T_iret rfl dX7_takes_18 ?_
    exact ⟨by rw [r_takes, if_neg (by rw [h1]; decide)], rfl, rfl⟩
  · obtain ⟨j, hk, rfl⟩ := knB_ok hn h1
    have hs : sv (nI j) = j := sv_nI (by omega)
    refine T_al0 dX7_takes_8 ?_
    refine T_il1 dX7_takes_9 ?_
    refine T_pV1 lX7_186 rfl (by decide) (cell_89 _ _) (m_fallA _ (by omega) F G a hM hI j hk) (by omega) (Nat.le_of_ble_eq_true rfl) dX7_takes_10 ?_
    refine T_goto 18 dX7_takes_13 (by decide) ?_
    refine T_iret rfl dX7_takes_18 ?_
    exact ⟨by rw [r_takes, if_pos h1, hs], rfl, rfl⟩
theorem m_loss (d : Nat) (hd : 20 ≤ d) (F : FT) (G : GT) (a : AS) (hM : MR a F G) (hI : InvA a) (t : Int32) : Kp DX7_loss d [.ref 89, .int t] F G (some (.int (r_loss a t))) := by
  obtain ⟨⟨e2, -⟩, -⟩ := id hM
  have hn : aN a ≤ 8 := hI.1.1.1
  refine Kc.ofT [some (.ref 89), some (.int t)] pn_X7 (Nat.le_of_ble_eq_true rfl) rfl ?_
  refine T_al0 dX7_loss_0 ?_
  refine T_il1 dX7_loss_1 ?_
  refine T_pV1 lX7_172 rfl (by decide) (cell_89 _ _) (m_isThread _ (by omega) _ _ _ (by assumption) (by assumption) _) (by omega) (Nat.le_of_ble_eq_true rfl) dX7_loss_2 ?_
  refine T_beq 20 dX7_loss_5 (by decide) (fun h1 => ?_) (fun h1 => ?_)
  · refine T_bipush (v := -2) dX7_loss_20 (by decide +kernel) ?_
    refine T_iret rfl dX7_loss_22 ?_
    exact ⟨by rw [r_loss, if_neg (by rw [h1]; decide)], rfl, rfl⟩
  · obtain ⟨j, hk, rfl⟩ := knB_ok hn h1
    have hs : sv (nI j) = j := sv_nI (by omega)
    refine T_al0 dX7_loss_8 ?_
    refine T_al0 dX7_loss_9 ?_
    refine T_il1 dX7_loss_10 ?_
    refine T_pV1 lX7_186 rfl (by decide) (cell_89 _ _) (m_fallA _ (by omega) F G a hM hI j hk) (by omega) (Nat.le_of_ble_eq_true rfl) dX7_loss_11 ?_
    refine T_pV1 lX7_189 rfl (by decide) (cell_89 _ _) (m_lossA _ (by omega) F G a hM hI j hk) (by omega) (Nat.le_of_ble_eq_true rfl) dX7_loss_14 ?_
    refine T_goto 22 dX7_loss_17 (by decide) ?_
    refine T_iret rfl dX7_loss_22 ?_
    exact ⟨by rw [r_loss, if_pos h1, hs], rfl, rfl⟩
theorem m_lifts (d : Nat) (hd : 20 ≤ d) (F : FT) (G : GT) (a : AS) (hM : MR a F G) (hI : InvA a) (t w : Int32) : Kp DX7_lifts d [.ref 89, .int t, .int w] F G (some (.int (r_lifts a t w))) := by
  obtain ⟨⟨e2, -⟩, -, ⟨g95, -⟩, -⟩ := id hM
  have hn : aN a ≤ 8 := hI.1.1.1
  obtain ⟨l1, l2, l3, l4⟩ := hI.2.2.1.1
  have ho := hI.2.2.1.2.1.1
  refine Kc.ofT [some (.ref 89), some (.int t), some (.int w), none] pn_X7 (Nat.le_of_ble_eq_true rfl) rfl ?_
  refine T_al0 dX7_lifts_0 ?_
  refine T_il1 dX7_lifts_1 ?_
  refine T_pV1 lX7_172 rfl (by decide) (cell_89 _ _) (m_isThread _ (by omega) _ _ _ (by assumption) (by assumption) _) (by omega) (Nat.le_of_ble_eq_true rfl) dX7_lifts_2 ?_
  refine T_bne 11 dX7_lifts_5 (by decide) (fun h1 => ?_) (fun h1 => ?_)
  · obtain ⟨j, hk, rfl⟩ := knB_ok hn h1
    have hs : sv (nI j) = j := sv_nI (by omega)
    refine T_il2 dX7_lifts_11 ?_
    refine T_i2l dX7_lifts_12 ?_
    refine T_lconst (v := 0) dX7_lifts_13 (by decide +kernel) ?_
    refine T_lconst (v := 1) dX7_lifts_14 (by decide +kernel) ?_
    refine T_pS3 lX7_78 (m_in _ _ _ _ _ _) (by omega) (Nat.le_of_ble_eq_true rfl) dX7_lifts_15 ?_
    rw [in_c (lo := 0) (hi := nI 1) (by decide +kernel) (by decide +kernel)]
    refine T_bne 24 dX7_lifts_18 (by decide) (fun h2 => ?_) (fun h2 => ?_)
    · have h2 := nt_t h2
      refine T_al0 dX7_lifts_24 ?_
      refine T_il1 dX7_lifts_25 ?_
      refine T_pV1 lX7_169 rfl (by decide) (cell_89 _ _) (m_isWholeA _ F G a hM hI j hk) (by omega) (Nat.le_of_ble_eq_true rfl) dX7_lifts_26 ?_
      refine T_bne 35 dX7_lifts_29 (by decide) (fun h3 => ?_) (fun h3 => ?_)
      · refine T_al0 dX7_lifts_35 ?_
        refine T_g7 gX7_25 (cell_89 _ _) rfl dX7_lifts_36 ?_
        refine T_bipush (v := nI 24) dX7_lifts_39 (by decide +kernel) ?_
        refine T_il1 dX7_lifts_41 ?_
        first | refine T_iaddN dX7_lifts_42 ?_ | refine T_iadd dX7_lifts_42 ?_
        refine T_aldN rfl (show _ < 42 by omega) dX7_lifts_43 ?_
        refine T_al0 dX7_lifts_44 ?_
        refine T_pV0 lX7_180 rfl (by decide) (cell_89 _ _) (m_wholesA _ (by omega) F G a hM hI) (by omega) (Nat.le_of_ble_eq_true rfl) dX7_lifts_45 ?_
        rw [g95, enc_ov l1 l2 l3 (by omega)]
        obtain ⟨m, hm, em⟩ := S8_and (ho j) (lWhole (aNow a))
        refine T_iand dX7_lifts_48 ?_
        rw [em]
        refine T_is3 dX7_lifts_49 rfl ?_
        refine T_il2 dX7_lifts_50 ?_
        refine T_if_ne 61 dX7_lifts_51 (by decide) (fun h4 => ?_) (fun h4 => ?_)
        · refine T_il3 dX7_lifts_61 ?_
          refine T_iret rfl dX7_lifts_62 ?_
          exact ⟨by rw [r_lifts, if_pos h1, if_neg h2, if_pos h3, if_neg h4, hs, em], rfl, rfl⟩
        · refine T_il3 dX7_lifts_54 ?_
          refine T_pS1 lX7_198 (m_ones _ _ _ _ (by assumption)) (by omega) (Nat.le_of_ble_eq_true rfl) dX7_lifts_55 ?_
          refine T_goto 62 dX7_lifts_58 (by decide) ?_
          refine T_iret rfl dX7_lifts_62 ?_
          exact ⟨by rw [r_lifts, if_pos h1, if_neg h2, if_pos h3, if_pos h4, hs, em, sv_nI (by omega)], rfl, rfl⟩
      · refine T_bipush (v := -4) dX7_lifts_32 (by decide +kernel) ?_
        refine T_iret rfl dX7_lifts_34 ?_
        exact ⟨by rw [r_lifts, if_pos h1, if_neg h2, if_neg (by rw [h3]; decide)], rfl, rfl⟩
    · have h2 := nt_f h2
      refine T_bipush (v := -3) dX7_lifts_21 (by decide +kernel) ?_
      refine T_iret rfl dX7_lifts_23 ?_
      exact ⟨by rw [r_lifts, if_pos h1, if_pos h2], rfl, rfl⟩
  · refine T_bipush (v := -2) dX7_lifts_8 (by decide +kernel) ?_
    refine T_iret rfl dX7_lifts_10 ?_
    exact ⟨by rw [r_lifts, if_neg (by rw [h1]; decide)], rfl, rfl⟩
