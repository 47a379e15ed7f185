/-! rows that a loop writes, each place once -/
theorem own_at {N M : Nat} {f : Nat → List Int32 → List Int32} {own : Nat → Nat} {val : Nat → Int32} (h : ∀ t l, t < M → l.length = N → (f t l).length = N ∧ ∀ j, j < N → (f t l).getD j 0 = if own j = t then val j else l.getD j 0) : ∀ n k l, k + n ≤ M → l.length = N → (iter f n k l).length = N ∧ ∀ j, j < N → (iter f n k l).getD j 0 = if k ≤ own j ∧ own j < k + n then val j else l.getD j 0 := by
  intro n
  induction n with
  | zero => intro k l _ hl; exact ⟨hl, fun j hj => by rw [if_neg (by omega)]; rfl⟩
  | succ n ih =>
    intro k l hk hl
    obtain ⟨h1, h2⟩ := h k l (by omega) hl
    obtain ⟨h3, h4⟩ := ih (k + 1) (f k l) (by omega) h1
    refine ⟨h3, fun j hj => ?_⟩
    rw [iter, h4 j hj, h2 j hj]
    by_cases e : own j = k
    · rw [if_neg (by omega), if_pos e, if_pos (by omega)]
    · rw [if_neg e]
      by_cases q : k + 1 ≤ own j ∧ own j < k + 1 + n
      · rw [if_pos q, if_pos (by omega)]
      · rw [if_neg q, if_neg (by omega)]
def teS (te : TeS) : Nat → List Int32 → List Int32 := fun t l => ((l.set (3 * t) ((tKd te).getD t 0)).set (3 * t + 1) ((tLn te).getD t 0)).set (3 * t + 2) ((tCo te).getD t 0)
theorem teS_8 {te : TeS} {l : List Int32} (hl : l.length = 24) : iter (teS te) 8 0 l = rtL te := by
  obtain ⟨h1, h2⟩ := own_at (N := 24) (M := 8) (f := teS te) (own := fun j => j / 3) (val := fun j => (rtL te).getD j 0) (fun t l ht hl => ⟨by rw [teS, List.length_set, List.length_set, List.length_set]; exact hl, fun j hj => by
    rw [teS]
    by_cases e2 : j = 3 * t + 2
    · subst e2
      rw [getD_set_eq (by rw [List.length_set, List.length_set]; omega), if_pos (by omega), rtL_2 te ht]
    · rw [getD_set_ne (fun z => e2 z.symm)]
      by_cases e1 : j = 3 * t + 1
      · subst e1
        rw [getD_set_eq (by rw [List.length_set]; omega), if_pos (by omega), rtL_1 te ht]
      · rw [getD_set_ne (fun z => e1 z.symm)]
        by_cases e0 : j = 3 * t
        · subst e0
          rw [getD_set_eq (by omega), if_pos (by omega), rtL_0 te ht]
        · rw [getD_set_ne (fun z => e0 z.symm), if_neg (by omega)]⟩) 8 0 l (by omega) hl
  refine getD_ext (by rw [h1, rtL_len]) (fun j hj => ?_)
  rw [h1] at hj
  rw [h2 j hj, if_pos (by omega)]
theorem iter3 {α β γ : Type} (f : Nat → α → α) (g : Nat → β → β) (h : Nat → γ → γ) : ∀ n k p, iter (fun t (p : α × β × γ) => (f t p.1, g t p.2.1, h t p.2.2)) n k p = (iter f n k p.1, iter g n k p.2.1, iter h n k p.2.2) := by
  intro n
  induction n with
  | zero => intro k p; rfl
  | succ n ih => intro k p; rw [iter, ih]; rfl
theorem iter2 {α β : Type} (f : Nat → α → α) (g : Nat → β → β) : ∀ n k p, iter (fun t (p : α × β) => (f t p.1, g t p.2)) n k p = (iter f n k p.1, iter g n k p.2) := by
  intro n
  induction n with
  | zero => intro k p; rfl
  | succ n ih => intro k p; rw [iter, ih]; rfl
theorem told_at {a : AS} (b3 : (aCo a).length = 8) (b4 : (aOv a).length = 8) (b5 : (aKn a).length = 8) {t : Nat} (ht : t < 8) : (aCo a ++ (aOv a ++ aKn a)).getD t 0 = (aCo a).getD t 0 ∧ (aCo a ++ (aOv a ++ aKn a)).getD (8 + t) 0 = (aOv a).getD t 0 ∧ (aCo a ++ (aOv a ++ aKn a)).getD (16 + t) 0 = (aKn a).getD t 0 := by
  refine ⟨getD_apl (by omega), ?_, ?_⟩
  · rw [show 8 + t = (aCo a).length + t by omega, getD_app, getD_apl (by omega)]
  · rw [show 16 + t = (aCo a).length + ((aOv a).length + t) by omega, getD_app, getD_app]
theorem qF_start {F : FT} {te : TeS} (h2 : F 89 2 = nI te.1) (h5 : F 89 5 = nI te.2.1) : u2 (u2 (u2 (u2 F 89 10 (nI 0)) 89 21 (nI 0)) 89 14 (nI te.1)) 89 18 (nI te.2.1) = qF F 0 (F 89 11).toBitVec.toNat (F 89 12) (F 89 13).toBitVec.toNat 0 te := by
  funext c i
  simp only [u2_at, qF]
  by_cases hc : c = 89
  · subst hc
    by_cases h10 : i = 10
    · subst h10; simp
    by_cases h11 : i = 11
    · subst h11; simp [← nI_any]
    by_cases h12 : i = 12
    · subst h12; simp
    by_cases h13 : i = 13
    · subst h13; simp [← nI_any]
    by_cases h14 : i = 14
    · subst h14; simp
    by_cases h18 : i = 18
    · subst h18; simp
    by_cases h21 : i = 21
    · subst h21; simp
    simp [h10, h11, h12, h13, h14, h18, h21]
  · simp [hc]
theorem m_readText (d : Nat) (hd : 7 ≤ d) (F : FT) (G : GT) (a : AS) (hM : MR a F G) (hI : InvA a) : Kc DX7_readText d [.ref 89] F G (RT F G (ffA a)) := by
  refine Kc.len (fun hlen => ?_)
  obtain ⟨⟨e2, e5, e9, e23⟩, ⟨g90, g91, g92, g93, g94⟩, ⟨g95, g96⟩, hP, hK⟩ := id hM
  obtain ⟨⟨a1, a2⟩, ⟨b1, b2, b3, b4, b5, b6, b7⟩, -⟩ := id hI.1
  have hl : aLen a ≤ 160 := hI.2.1.2
  refine Kc.ofT [some (.ref 89), none] pn_X7 (Nat.le_of_ble_eq_true rfl) rfl ?_
  refine T_al0 dX7_readText_0 ?_
  refine T_iconst (v := nI 0) dX7_readText_1 rfl ?_
  refine T_put7_10 pX7_87 dX7_readText_2 ?_
  refine T_al0 dX7_readText_5 ?_
  refine T_iconst (v := nI 0) dX7_readText_6 rfl ?_
  refine T_put7_21 pX7_153 dX7_readText_7 ?_
  refine T_al0 dX7_readText_10 ?_
  refine T_al0 dX7_readText_11 ?_
  refine T_g7 gX7_74 (cell_89 _ _) rfl dX7_readText_12 ?_
  rw [u2_f _ _ (by decide), u2_f _ _ (by decide), e2]
  refine T_put7_14 pX7_128 dX7_readText_15 ?_
  refine T_al0 dX7_readText_18 ?_
  refine T_al0 dX7_readText_19 ?_
  refine T_g7 gX7_156 (cell_89 _ _) rfl dX7_readText_20 ?_
  rw [u2_f _ _ (by decide), u2_f _ _ (by decide), u2_f _ _ (by decide), e5]
  refine T_put7_18 pX7_135 dX7_readText_23 ?_
  rw [qF_start (te := a.2.1) e2 e5]
  generalize (F 89 11).toBitVec.toNat = tk0
  generalize F 89 12 = vl0
  generalize (F 89 13).toBitVec.toNat = bg0
  refine T_iconst (v := nI 0) dX7_readText_26 rfl ?_
  refine T_is1 dX7_readText_27 rfl ?_
  have e1 : G = u1 (u1 (u1 G 97 (G 97)) 98 (G 98)) 99 (G 99) := by rw [u1_id, u1_id, u1_id]
  refine T_G e1 ?_
  refine for_up (fun t (p : List Int32 × List Int32 × List Int32) => (teS a.2.1 t p.1, updR 0 (fun k => (aOv a).getD k 0) t p.2.1, updR 0 (fun k => (aKn a).getD k 0) t p.2.2)) 8 (fun t p => T DX7_readText d 28 [some (.ref 89), some (.int (nI t))] [] (qF F 0 tk0 vl0 bg0 0 a.2.1) (u1 (u1 (u1 G 97 p.1) 98 p.2.1) 99 p.2.2) _) ?_ 8 0 (G 97, G 98, G 99) rfl ?_
  · intro t p ht h
    obtain ⟨c1, c2, c3⟩ := told_at (a := a) b3 b4 b5 ht
    have nG : ∀ (G : GT) (l m n : List Int32) (c : Nat), c ≠ 97 → c ≠ 98 → c ≠ 99 → u1 (u1 (u1 G 97 l) 98 m) 99 n c = G c := fun G l m n c q1 q2 q3 => by rw [u1_n _ _ q3, u1_n _ _ q2, u1_n _ _ q1]
    have s97 : ∀ (G : GT) (l m n k : List Int32), u1 (u1 (u1 (u1 G 97 l) 98 m) 99 n) 97 k = u1 (u1 (u1 G 97 k) 98 m) 99 n := fun G l m n k => by
      funext c; simp only [u1_at]; by_cases q : c = 97 <;> simp [q]
    have s98 : ∀ (G : GT) (l m n k : List Int32), u1 (u1 (u1 (u1 G 97 l) 98 m) 99 n) 98 k = u1 (u1 (u1 G 97 l) 98 k) 99 n := fun G l m n k => by
      funext c; simp only [u1_at]; by_cases q : c = 98 <;> simp [q]
    have r97 : ∀ (G : GT) (l m n : List Int32), u1 (u1 (u1 G 97 l) 98 m) 99 n 97 = l := fun G l m n => by rw [u1_n _ _ (by decide), u1_n _ _ (by decide), u1_s]
    have r98 : ∀ (G : GT) (l m n : List Int32), u1 (u1 (u1 G 97 l) 98 m) 99 n 98 = m := fun G l m n => by rw [u1_n _ _ (by decide), u1_s]
    refine T_il1 dX7_readText_28 ?_
    refine T_bipush (v := nI 8) dX7_readText_29 (by decide +kernel) ?_
    refine T_nge_f 116 dX7_readText_31 (by decide) (by omega) (by omega) (by omega) ?_
    refine T_al0 dX7_readText_34 ?_
    refine T_g7 gX7_31 (cell_89 _ _) rfl dX7_readText_35 ?_
    refine T_iconst (v := nI 3) dX7_readText_38 rfl ?_
    refine T_il1 dX7_readText_39 ?_
    first | refine T_imulN dX7_readText_40 ?_ | refine T_imul dX7_readText_40 ?_
    refine T_al0 dX7_readText_41 ?_
    refine T_g7 gX7_7 (cell_89 _ _) rfl dX7_readText_42 ?_
    refine T_il1 dX7_readText_45 ?_
    refine T_aldN rfl (show _ < 8 by omega) dX7_readText_46 ?_
    rw [nG _ _ _ _ 90 (by decide) (by decide) (by decide), g90]
    refine T_astN (a := 97) rfl (show 3 * t < 24 by omega) dX7_readText_47 ?_
    rw [r97, s97]
    refine T_al0 dX7_readText_48 ?_
    refine T_g7 gX7_31 (cell_89 _ _) rfl dX7_readText_49 ?_
    refine T_iconst (v := nI 3) dX7_readText_52 rfl ?_
    refine T_il1 dX7_readText_53 ?_
    first | refine T_imulN dX7_readText_54 ?_ | refine T_imul dX7_readText_54 ?_
    refine T_iconst (v := nI 1) dX7_readText_55 rfl ?_
    first | refine T_iaddN dX7_readText_56 ?_ | refine T_iadd dX7_readText_56 ?_
    refine T_al0 dX7_readText_57 ?_
    refine T_g7 gX7_13 (cell_89 _ _) rfl dX7_readText_58 ?_
    refine T_il1 dX7_readText_61 ?_
    refine T_aldN rfl (show _ < 8 by omega) dX7_readText_62 ?_
    rw [nG _ _ _ _ 91 (by decide) (by decide) (by decide), g91]
    refine T_astN (a := 97) rfl (show 3 * t + 1 < 24 by omega) dX7_readText_63 ?_
    rw [r97, s97]
    refine T_al0 dX7_readText_64 ?_
    refine T_g7 gX7_31 (cell_89 _ _) rfl dX7_readText_65 ?_
    refine T_iconst (v := nI 3) dX7_readText_68 rfl ?_
    refine T_il1 dX7_readText_69 ?_
    first | refine T_imulN dX7_readText_70 ?_ | refine T_imul dX7_readText_70 ?_
    refine T_iconst (v := nI 2) dX7_readText_71 rfl ?_
    first | refine T_iaddN dX7_readText_72 ?_ | refine T_iadd dX7_readText_72 ?_
    refine T_al0 dX7_readText_73 ?_
    refine T_g7 gX7_22 (cell_89 _ _) rfl dX7_readText_74 ?_
    refine T_il1 dX7_readText_77 ?_
    refine T_aldN rfl (show _ < 24 by omega) dX7_readText_78 ?_
    rw [nG _ _ _ _ 94 (by decide) (by decide) (by decide), g94, c1]
    refine T_astN (a := 97) rfl (show 3 * t + 2 < 24 by omega) dX7_readText_79 ?_
    rw [r97, s97]
    refine T_al0 dX7_readText_80 ?_
    refine T_g7 gX7_34 (cell_89 _ _) rfl dX7_readText_81 ?_
    refine T_il1 dX7_readText_84 ?_
    refine T_al0 dX7_readText_85 ?_
    refine T_g7 gX7_22 (cell_89 _ _) rfl dX7_readText_86 ?_
    refine T_bipush (v := nI 8) dX7_readText_89 (by decide +kernel) ?_
    refine T_il1 dX7_readText_91 ?_
    first | refine T_iaddN dX7_readText_92 ?_ | refine T_iadd dX7_readText_92 ?_
    refine T_aldN rfl (show _ < 24 by omega) dX7_readText_93 ?_
    rw [nG _ _ _ _ 94 (by decide) (by decide) (by decide), g94, c2]
    refine T_astN (a := 98) rfl (show t < 8 by omega) dX7_readText_94 ?_
    rw [r98, s98]
    refine T_al0 dX7_readText_95 ?_
    refine T_g7 gX7_37 (cell_89 _ _) rfl dX7_readText_96 ?_
    refine T_il1 dX7_readText_99 ?_
    refine T_al0 dX7_readText_100 ?_
    refine T_g7 gX7_22 (cell_89 _ _) rfl dX7_readText_101 ?_
    refine T_bipush (v := nI 16) dX7_readText_104 (by decide +kernel) ?_
    refine T_il1 dX7_readText_106 ?_
    first | refine T_iaddN dX7_readText_107 ?_ | refine T_iadd dX7_readText_107 ?_
    refine T_aldN rfl (show _ < 24 by omega) dX7_readText_108 ?_
    rw [nG _ _ _ _ 94 (by decide) (by decide) (by decide), g94, c3]
    refine T_astN (a := 99) rfl (show t < 8 by omega) dX7_readText_109 ?_
    rw [u1_s, u1_u1]
    refine T_ii1 dX7_readText_110 (by first | exact nI_inc _ | exact nI_dec _ | rfl) rfl ?_
    refine T_goto 28 dX7_readText_113 (by decide) ?_
    rw [updR, updR, Nat.zero_add] at h
    exact h
  · have h98 : iter (updR 0 (fun k => (aOv a).getD k 0)) 8 0 (G 98) = aOv a := updR_all rfl (hlen 98) b4 (fun _ _ => rfl)
    have h99 : iter (updR 0 (fun k => (aKn a).getD k 0)) 8 0 (G 99) = aKn a := updR_all rfl (hlen 99) b5 (fun _ _ => rfl)
    have h100 : iter (updR 0 (fun k => (aOt a).getD k 0)) 6 0 (G 100) = aOt a := updR_all rfl (hlen 100) b6 (fun _ _ => rfl)
    have h101 : iter (updR 0 (fun k => (aOd a).getD k 0)) 6 0 (G 101) = aOd a := updR_all rfl (hlen 101) b7 (fun _ _ => rfl)
    rw [iter3]
    dsimp only
    rw [teS_8 (hlen 97), h98, h99]
    refine T_il1 dX7_readText_28 ?_
    refine T_bipush (v := nI 8) dX7_readText_29 (by decide +kernel) ?_
    refine T_nge_t 116 dX7_readText_31 (by decide) (by omega) (by omega) (by omega) ?_
    refine T_iconst (v := nI 0) dX7_readText_116 rfl ?_
    refine T_is1 dX7_readText_117 rfl ?_
    have e1 : u1 (u1 (u1 G 97 (rtL a.2.1)) 98 (aOv a)) 99 (aKn a) = u1 (u1 (u1 (u1 (u1 G 97 (rtL a.2.1)) 98 (aOv a)) 99 (aKn a)) 100 (G 100)) 101 (G 101) := by
      funext c
      simp only [u1_at]
      by_cases q1 : c = 101
      · subst q1; rfl
      by_cases q2 : c = 100
      · subst q2; rfl
      rw [if_neg q1, if_neg q2]
    refine T_G e1 ?_
    refine for_up (fun t (p : List Int32 × List Int32) => (updR 0 (fun k => (aOt a).getD k 0) t p.1, updR 0 (fun k => (aOd a).getD k 0) t p.2)) 6 (fun t p => T DX7_readText d 118 [some (.ref 89), some (.int (nI t))] [] (qF F 0 tk0 vl0 bg0 0 a.2.1) (u1 (u1 (u1 (u1 (u1 G 97 (rtL a.2.1)) 98 (aOv a)) 99 (aKn a)) 100 p.1) 101 p.2) _) ?_ 6 0 (G 100, G 101) rfl ?_
    · intro t p ht h
      rw [updR, updR, Nat.zero_add] at h
      refine T_il1 dX7_readText_118 ?_
      refine T_bipush (v := nI 6) dX7_readText_119 (by decide +kernel) ?_
      refine T_nge_f 154 dX7_readText_121 (by decide) (by omega) (by omega) (by omega) ?_
      refine T_al0 dX7_readText_124 ?_
      refine T_g7 gX7_40 (cell_89 _ _) rfl dX7_readText_125 ?_
      refine T_il1 dX7_readText_128 ?_
      refine T_al0 dX7_readText_129 ?_
      refine T_g7 gX7_16 (cell_89 _ _) rfl dX7_readText_130 ?_
      refine T_il1 dX7_readText_133 ?_
      refine T_aldN rfl (show _ < 6 by omega) dX7_readText_134 ?_
      rw [u1_n _ _ (by decide), u1_n _ _ (by decide), u1_n _ _ (by decide), u1_n _ _ (by decide), u1_n _ _ (by decide), g92]
      refine T_astN (a := 100) rfl (show t < 6 by omega) dX7_readText_135 ?_
      rw [u1_n _ _ (show (100 : Nat) ≠ 101 by decide), u1_s]
      refine T_al0 dX7_readText_136 ?_
      refine T_g7 gX7_43 (cell_89 _ _) rfl dX7_readText_137 ?_
      refine T_il1 dX7_readText_140 ?_
      refine T_al0 dX7_readText_141 ?_
      refine T_g7 gX7_19 (cell_89 _ _) rfl dX7_readText_142 ?_
      refine T_il1 dX7_readText_145 ?_
      refine T_aldN rfl (show _ < 6 by omega) dX7_readText_146 ?_
      rw [u1_n _ _ (by decide), u1_n _ _ (by decide), u1_n _ _ (by decide), u1_n _ _ (by decide), u1_n _ _ (by decide), u1_n _ _ (by decide), g93]
      refine T_astN (a := 101) rfl (show t < 6 by omega) dX7_readText_147 ?_
      rw [u1_n _ _ (show (101 : Nat) ≠ 100 by decide), u1_s]
      have e3 : ∀ (G : GT) (l m l' m' : List Int32), u1 (u1 (u1 (u1 G 100 l) 101 m) 100 l') 101 m' = u1 (u1 G 100 l') 101 m' := fun G l m l' m' => by
        funext c; simp only [u1_at]; by_cases q : c = 101
        · simp [q]
        · by_cases q2 : c = 100 <;> simp [q, q2]
      rw [e3]
      refine T_ii1 dX7_readText_148 (by first | exact nI_inc _ | exact nI_dec _ | rfl) rfl ?_
      refine T_goto 118 dX7_readText_151 (by decide) ?_
      exact h
    · rw [iter2]
      dsimp only
      rw [h100, h101]
      have eq : u1 (u1 (u1 (u1 (u1 G 97 (rtL a.2.1)) 98 (aOv a)) 99 (aKn a)) 100 (aOt a)) 101 (aOd a) = qG G a.2.1 := by
        refine qG_eq ?_ ?_ ?_ ?_ (u1_s _ _ _) (fun c hc => ?_)
        · rw [u1_n _ _ (by decide), u1_n _ _ (by decide), u1_n _ _ (by decide), u1_n _ _ (by decide), u1_s]
        · rw [u1_n _ _ (by decide), u1_n _ _ (by decide), u1_n _ _ (by decide), u1_s]
        · rw [u1_n _ _ (by decide), u1_n _ _ (by decide), u1_s]
        · rw [u1_n _ _ (by decide), u1_s]
        · rw [u1_n _ _ (by omega), u1_n _ _ (by omega), u1_n _ _ (by omega), u1_n _ _ (by omega), u1_n _ _ (by omega)]
      rw [eq]
      refine T_il1 dX7_readText_118 ?_
      refine T_bipush (v := nI 6) dX7_readText_119 (by decide +kernel) ?_
      refine T_nge_t 154 dX7_readText_121 (by decide) (by omega) (by omega) (by omega) ?_
      exact m_readLoop d hd F G (aTx a) (aLen a) hl e9 g96 _ 14 0 0 tk0 vl0 bg0 a.2.1 rfl (by decide) (by omega) hI.1
theorem MR.q {a : AS} {F : FT} {G : GT} (h : MR a F G) (pl tk : Nat) (vl : Int32) (bg cl : Nat) (te : TeS) : MR a (qF F pl tk vl bg cl te) (qG G te) := by
  obtain ⟨⟨e2, e5, e9, e23⟩, ⟨g90, g91, g92, g93, g94⟩, ⟨g95, g96⟩, hP, hK⟩ := h
  refine ⟨⟨?_, ?_, ?_, ?_⟩, ⟨?_, ?_, ?_, ?_, ?_⟩, ⟨?_, ?_⟩, ?_, ?_⟩
  · rw [q2]; exact e2
  · rw [q5]; exact e5
  · rw [q9]; exact e9
  · rw [show qF F pl tk vl bg cl te 89 23 = F 89 23 by simp [qF]]; exact e23
  · rw [qG_o _ _ (by decide)]; exact g90
  · rw [qG_o _ _ (by decide)]; exact g91
  · rw [qG_o _ _ (by decide)]; exact g92
  · rw [qG_o _ _ (by decide)]; exact g93
  · rw [qG_o _ _ (by decide)]; exact g94
  · rw [qG_o _ _ (by decide)]; exact g95
  · rw [qG_o _ _ (by decide)]; exact g96
  · rw [qG_o _ _ (by decide)]; exact hP
  · rw [qG_o _ _ (by decide), qG_o _ _ (by decide)]; exact hK
theorem FrX.q {F : FT} {G : GT} (pl tk : Nat) (vl : Int32) (bg cl : Nat) (te : TeS) : FrX F G (qF F pl tk vl bg cl te) (qG G te) := by
  refine ⟨fun c i hc => ?_, fun c hc => qG_o _ _ (by omega)⟩
  simp only [qF]
  rw [if_neg (by omega), if_neg (by omega), if_neg (by omega), if_neg (by omega), if_neg (by omega), if_neg (by omega), if_neg (by omega)]
theorem m_fault (d : Nat) (hd : 20 ≤ d) (F : FT) (G : GT) (a : AS) (hM : MR a F G) (hI : InvA a) : Kc DX7_fault d [.ref 89] F G (MP ((ffA a).1, a) F G) := by
  refine Kc.ofT [some (.ref 89)] pn_X7 (Nat.le_of_ble_eq_true rfl) rfl ?_
  refine T_al0 dX7_fault_0 ?_
  refine T_cV0 lX7_163 rfl (by decide) (cell_89 _ _) (m_readText _ (by omega) F G a hM hI) (by omega) (Nat.le_of_ble_eq_true rfl) dX7_fault_1 (fun v F' G' hP => ?_)
  obtain ⟨rfl, pl, tk, vl, bg, cl, rfl, rfl, h1, h2⟩ := hP
  refine T_beq 11 dX7_fault_4 (by decide) (fun h3 => ?_) (fun h3 => ?_)
  · have h3 := of_decide_eq_false h3
    refine T_al0 dX7_fault_11 ?_
    refine T_g7 gX7_94 (cell_89 _ _) rfl dX7_fault_12 ?_
    rw [q13]
    refine T_iret rfl dX7_fault_15 ?_
    exact ⟨by rw [h2 h3], hM.q _ _ _ _ _ _, FrX.q _ _ _ _ _ _⟩
  · have h3 := of_decide_eq_true h3
    refine T_iconst (v := -1) dX7_fault_7 rfl ?_
    refine T_goto 15 dX7_fault_8 (by decide) ?_
    refine T_iret rfl dX7_fault_15 ?_
    exact ⟨by rw [h3], hM.q _ _ _ _ _ _, FrX.q _ _ _ _ _ _⟩
