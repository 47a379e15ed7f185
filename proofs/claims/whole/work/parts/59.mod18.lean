def clS : Nat → List Int32 × List Int32 → List Int32 × List Int32 := fun k p => (updR 0 (fun _ => nI 0) k p.1, updR 0 (fun _ => nI 0) k p.2)
theorem clS_it : ∀ n k p, iter clS n k p = (iter (updR 0 (fun _ => nI 0)) n k p.1, iter (updR 0 (fun _ => nI 0)) n k p.2) := by
  intro n
  induction n with
  | zero => intro k p; rfl
  | succ n ih => intro k p; rw [iter, ih]; rfl
theorem clS_8 {l m : List Int32} (hl : l.length = 8) (hm : m.length = 8) : iter clS 8 0 (l, m) = (List.replicate 8 (nI 0), List.replicate 8 (nI 0)) := by
  have hr : ∀ i, i < 8 → nI 0 = (List.replicate 8 (nI 0)).getD i 0 := fun i hi => by rw [rep_0]; exact nI_0
  rw [clS_it, updR_all rfl hl rfl hr, updR_all rfl hm rfl hr]
theorem m_readClause (d : Nat) (hd : 5 ≤ d) (F : FT) (G : GT) (tx : List Int32) (n : Nat) (vl : Int32) (b cl : Nat) (te : TeS) (hn : n ≤ 160) (hF : F 89 9 = nI n) (hG : G 96 = tx) (hb : b ≤ n) (hT : TeI te) : Kc DX7_readClause d [.ref 89] (qF F (tokE tx n b) (tkN tx n b) vl b cl te) (qG G te) (RM F G tx n cl (clP tx n te (b, tokE tx n b))) := by
  have hle := tokE_le tx hb
  obtain ⟨⟨a1, a2⟩, ⟨b1, b2, b3, b4, b5, b6, b7⟩, -⟩ := id hT
  have hG' : qG G te 96 = tx := by rw [qG_o _ _ (by omega)]; exact hG
  refine Kc.ofT [some (.ref 89), none, none] pn_X7 (Nat.le_of_ble_eq_true rfl) rfl ?_
  have clear : ∀ (v : Nat) (x : TeS) (pl tk : Nat) (vl : Int32), v < 10 → ¬ v = 8 → pl ≤ n → (tOv x).length = 8 → (tKn x).length = 8 → T DX7_readClause d 74 [some (.ref 89), some (.int (nI v)), none] [] (qF F pl tk vl b cl x) (qG G x) (RM F G tx n cl (true, looT x, stepP tx n pl)) := by
    intro v x pl tk vl hv hv8 hpl hl hm
    refine T_iconst (v := nI 0) dX7_readClause_74 rfl ?_
    refine T_is2 dX7_readClause_75 rfl ?_
    rw [show qG G x = qG G (tKnW (tOvW x (tOv x)) (tKn x)) from rfl]
    refine for_up clS 8 (fun k p => T DX7_readClause d 76 [some (.ref 89), some (.int (nI v)), some (.int (nI k))] [] (qF F pl tk vl b cl x) (qG G (tKnW (tOvW x p.1) p.2)) _) ?_ 8 0 (tOv x, tKn x) rfl ?_
    · intro k p hk h
      rw [clS, updR, updR, Nat.zero_add] at h
      refine T_il2 dX7_readClause_76 ?_
      refine T_bipush (v := nI 8) dX7_readClause_77 (by decide +kernel) ?_
      refine T_nge_f 108 dX7_readClause_79 (by decide) (by omega) (by omega) (by omega) ?_
      refine T_il1 dX7_readClause_82 ?_
      refine T_bipush (v := nI 8) dX7_readClause_83 (by decide +kernel) ?_
      refine T_neq_f 108 dX7_readClause_85 (by decide) (by omega) (by omega) (by omega) ?_
      refine T_al0 dX7_readClause_88 ?_
      refine T_g7 gX7_34 (cell_89 _ _) rfl dX7_readClause_89 ?_
      refine T_il2 dX7_readClause_92 ?_
      refine T_iconst (v := nI 0) dX7_readClause_93 rfl ?_
      refine T_astN (a := 98) rfl (show k < 8 by omega) dX7_readClause_94 ?_
      rw [qG_98, qG_u98]
      refine T_al0 dX7_readClause_95 ?_
      refine T_g7 gX7_37 (cell_89 _ _) rfl dX7_readClause_96 ?_
      refine T_il2 dX7_readClause_99 ?_
      refine T_iconst (v := nI 0) dX7_readClause_100 rfl ?_
      refine T_astN (a := 99) rfl (show k < 8 by omega) dX7_readClause_101 ?_
      rw [qG_99, qG_u99]
      refine T_ii2 dX7_readClause_102 (by first | exact nI_inc _ | exact nI_dec _ | rfl) rfl ?_
      refine T_goto 76 dX7_readClause_105 (by decide) ?_
      exact h
    · rw [clS_8 hl hm]
      refine T_il2 dX7_readClause_76 ?_
      refine T_bipush (v := nI 8) dX7_readClause_77 (by decide +kernel) ?_
      refine T_nge_t 108 dX7_readClause_79 (by decide) (by omega) (by omega) (by omega) ?_
      refine T_iconst (v := nI 1) dX7_readClause_108 rfl ?_
      refine T_bret1 rfl dX7_readClause_109 ?_
      exact RM.yes (te := looT x) hpl rfl
  refine T_al0 dX7_readClause_0 ?_
  refine T_pV0 lX7_142 rfl (by decide) (cell_89 _ _) (m_verb _ (by omega) F _ tx n vl b cl te hn hG' hb) (by omega) (Nat.le_of_ble_eq_true rfl) dX7_readClause_1 ?_
  rcases word_c tx b (tokE tx n b) with h | ⟨w, hw, ew⟩
  · rw [clP, if_pos (Or.inl h), h, show vbI (-1) = -1 by decide]
    refine T_is1 dX7_readClause_4 rfl ?_
    refine T_il1 dX7_readClause_5 ?_
    refine T_if_ge_f 11 dX7_readClause_6 (by decide) m1_neg ?_
    refine T_iconst (v := nI 0) dX7_readClause_9 rfl ?_
    refine T_bret0 rfl dX7_readClause_10 ?_
    exact RM.no hle.2.1 rfl
  · have hne : ¬ wordI tx b (tokE tx n b) = -1 := by rw [ew]; exact fun z => by have := nI_pos' (n := w) (by omega); rw [z] at this; exact m1_neg this
    rw [clP]
    dsimp only
    rw [ew, vb_at w hw, sv_nI (by omega)]
    match w, hw, ew, hne with
    | 0, _, ew, hne | 1, _, ew, hne | 2, _, ew, hne | 3, _, ew, hne =>
      simp only [show vb 0 = 0 from rfl, show vb 1 = 1 from rfl, show vb 2 = 2 from rfl, show vb 3 = 3 from rfl]
      refine T_is1 dX7_readClause_4 rfl ?_
      refine T_il1 dX7_readClause_5 ?_
      refine T_if_ge_t 11 dX7_readClause_6 (by decide) (nI_pos' (by decide)) ?_
      refine T_il1 dX7_readClause_11 ?_
      refine T_iconst (v := nI 4) dX7_readClause_12 rfl ?_
      refine T_nge_f 22 dX7_readClause_13 (by decide) (by omega) (by omega) (by omega) ?_
      refine T_al0 dX7_readClause_16 ?_
      refine T_il1 dX7_readClause_17 ?_
      refine T_cV1 lX7_146 rfl (by decide) (cell_89 _ _) (m_readThread (d - 1) (by omega) F G tx n (tokE tx n b) (tkN tx n b) vl b cl _ te hn hF hG hle.2.1 hT) (by omega) (Nat.le_of_ble_eq_true rfl) dX7_readClause_18 (fun v F' G' hP => ?_)
      obtain ⟨rfl, hR⟩ := hP
      refine T_bret rfl dX7_readClause_21 ?_
      have e : ∀ w : Nat, w ≤ 3 → (if nI w = -1 ∨ roomB te w = false then ((false, te, b, tokE tx n b) : RdS) else bodyP tx n w te (stepP tx n (tokE tx n b))) = if tN te < 8 then thP tx n w te (stepP tx n (tokE tx n b)) else (false, te, b, tokE tx n b) := by
        intro w hw
        rw [roomB, if_pos hw]
        by_cases h8 : tN te < 8
        · rw [if_pos h8, if_neg (fun z => z.elim (fun z => by have := nI_pos' (n := w) (by omega); rw [z] at this; exact m1_neg this) (fun z => by rw [decide_eq_true h8] at z; cases z))]
          rw [bodyP, if_neg (by omega), if_neg (by omega), if_neg (by omega), if_neg (by omega), if_neg (by omega), if_neg (by omega)]
        · rw [if_neg h8, if_pos (Or.inr (decide_eq_false h8))]
      rw [e _ (by decide)]
      exact ⟨rfl, hR⟩
    | 4, _, ew, hne =>
      rw [show vb 4 = 5 from rfl]
      refine T_is1 dX7_readClause_4 rfl ?_
      refine T_il1 dX7_readClause_5 ?_
      refine T_if_ge_t 11 dX7_readClause_6 (by decide) (nI_pos' (by decide)) ?_
      refine T_il1 dX7_readClause_11 ?_
      refine T_iconst (v := nI 4) dX7_readClause_12 rfl ?_
      refine T_nge_t 22 dX7_readClause_13 (by decide) (by omega) (by omega) (by omega) ?_
      refine T_il1 dX7_readClause_22 ?_
      refine T_bipush (v := nI 8) dX7_readClause_23 (by decide +kernel) ?_
      refine T_nge_f 39 dX7_readClause_25 (by decide) (by omega) (by omega) (by omega) ?_
      refine T_il1 dX7_readClause_28 ?_
      refine T_iconst (v := nI 4) dX7_readClause_29 rfl ?_
      refine T_nle_f 39 dX7_readClause_30 (by decide) (by omega) (by omega) (by omega) ?_
      refine T_al0 dX7_readClause_33 ?_
      refine T_il1 dX7_readClause_34 ?_
      refine T_cV1 lX7_150 rfl (by decide) (cell_89 _ _) (m_readTwo5 (d - 1) (by omega) F G tx n (tokE tx n b) (tkN tx n b) vl b cl te hn hF hG hle.2.1 hT) (by omega) (Nat.le_of_ble_eq_true rfl) dX7_readClause_35 (fun v F' G' hP => ?_)
      obtain ⟨rfl, hR⟩ := hP
      refine T_bret rfl dX7_readClause_38 ?_
      rw [if_neg (fun z => z.elim (by decide) (fun z => by cases z)), body4]
      exact ⟨rfl, hR⟩
    | 5, _, ew, hne =>
      rw [show vb 5 = 6 from rfl]
      refine T_is1 dX7_readClause_4 rfl ?_
      refine T_il1 dX7_readClause_5 ?_
      refine T_if_ge_t 11 dX7_readClause_6 (by decide) (nI_pos' (by decide)) ?_
      refine T_il1 dX7_readClause_11 ?_
      refine T_iconst (v := nI 4) dX7_readClause_12 rfl ?_
      refine T_nge_t 22 dX7_readClause_13 (by decide) (by omega) (by omega) (by omega) ?_
      refine T_il1 dX7_readClause_22 ?_
      refine T_bipush (v := nI 8) dX7_readClause_23 (by decide +kernel) ?_
      refine T_nge_f 39 dX7_readClause_25 (by decide) (by omega) (by omega) (by omega) ?_
      refine T_il1 dX7_readClause_28 ?_
      refine T_iconst (v := nI 4) dX7_readClause_29 rfl ?_
      refine T_nle_f 39 dX7_readClause_30 (by decide) (by omega) (by omega) (by omega) ?_
      refine T_al0 dX7_readClause_33 ?_
      refine T_il1 dX7_readClause_34 ?_
      refine T_cV1 lX7_150 rfl (by decide) (cell_89 _ _) (m_readTwo6 (d - 1) (by omega) F G tx n (tokE tx n b) (tkN tx n b) vl b cl te hn hF hG hle.2.1 hT) (by omega) (Nat.le_of_ble_eq_true rfl) dX7_readClause_35 (fun v F' G' hP => ?_)
      obtain ⟨rfl, hR⟩ := hP
      refine T_bret rfl dX7_readClause_38 ?_
      rw [if_neg (fun z => z.elim (by decide) (fun z => by cases z)), body5]
      exact ⟨rfl, hR⟩
    | 6, _, ew, hne =>
      rw [show vb 6 = 7 from rfl]
      refine T_is1 dX7_readClause_4 rfl ?_
      refine T_il1 dX7_readClause_5 ?_
      refine T_if_ge_t 11 dX7_readClause_6 (by decide) (nI_pos' (by decide)) ?_
      refine T_il1 dX7_readClause_11 ?_
      refine T_iconst (v := nI 4) dX7_readClause_12 rfl ?_
      refine T_nge_t 22 dX7_readClause_13 (by decide) (by omega) (by omega) (by omega) ?_
      refine T_il1 dX7_readClause_22 ?_
      refine T_bipush (v := nI 8) dX7_readClause_23 (by decide +kernel) ?_
      refine T_nge_f 39 dX7_readClause_25 (by decide) (by omega) (by omega) (by omega) ?_
      refine T_il1 dX7_readClause_28 ?_
      refine T_iconst (v := nI 4) dX7_readClause_29 rfl ?_
      refine T_nle_f 39 dX7_readClause_30 (by decide) (by omega) (by omega) (by omega) ?_
      refine T_al0 dX7_readClause_33 ?_
      refine T_il1 dX7_readClause_34 ?_
      refine T_cV1 lX7_150 rfl (by decide) (cell_89 _ _) (m_readTwo7 (d - 1) (by omega) F G tx n (tokE tx n b) (tkN tx n b) vl b cl te hn hF hG hle.2.1 hT) (by omega) (Nat.le_of_ble_eq_true rfl) dX7_readClause_35 (fun v F' G' hP => ?_)
      obtain ⟨rfl, hR⟩ := hP
      refine T_bret rfl dX7_readClause_38 ?_
      have e : (if nI 6 = -1 ∨ roomB te 6 = false then ((false, te, b, tokE tx n b) : RdS) else bodyP tx n 6 te (stepP tx n (tokE tx n b))) = if tM te < 6 then orP tx n te (stepP tx n (tokE tx n b)) else (false, te, b, tokE tx n b) := by
        rw [roomB, if_neg (show ¬ (6 : Nat) ≤ 3 by decide), body6]
        by_cases h6 : tM te < 6
        · rw [if_pos h6, if_neg (fun z => z.elim (by decide) (fun z => by rw [decide_eq_true (Or.inr h6)] at z; cases z))]
        · rw [if_neg h6, if_pos (Or.inr (decide_eq_false (fun z => z.elim (fun z => z rfl) h6)))]
      rw [e]
      exact ⟨rfl, hR⟩
    | 7, _, ew, hne =>
      rw [show vb 7 = 4 from rfl]
      rw [if_neg (fun z => z.elim (by decide) (fun z => by cases z)), body7]
      refine T_is1 dX7_readClause_4 rfl ?_
      refine T_il1 dX7_readClause_5 ?_
      refine T_if_ge_t 11 dX7_readClause_6 (by decide) (nI_pos' (by decide)) ?_
      refine T_il1 dX7_readClause_11 ?_
      refine T_iconst (v := nI 4) dX7_readClause_12 rfl ?_
      refine T_nge_t 22 dX7_readClause_13 (by decide) (by omega) (by omega) (by omega) ?_
      refine T_il1 dX7_readClause_22 ?_
      refine T_bipush (v := nI 8) dX7_readClause_23 (by decide +kernel) ?_
      refine T_nge_f 39 dX7_readClause_25 (by decide) (by omega) (by omega) (by omega) ?_
      refine T_il1 dX7_readClause_28 ?_
      refine T_iconst (v := nI 4) dX7_readClause_29 rfl ?_
      refine T_nle_t 39 dX7_readClause_30 (by decide) (by omega) (by omega) (by omega) ?_
      refine T_al0 dX7_readClause_39 ?_
      refine T_il1 dX7_readClause_40 ?_
      refine T_iconst (v := nI 4) dX7_readClause_41 rfl ?_
      refine T_nne_f 49 dX7_readClause_42 (by decide) (by omega) (by omega) (by omega) ?_
      refine T_iconst (v := nI 0) dX7_readClause_45 rfl ?_
      refine T_goto 53 dX7_readClause_46 (by decide) ?_
      refine T_put7_14 pX7_128 dX7_readClause_53 ?_
      rw [qu14]
      refine T_al0 dX7_readClause_56 ?_
      refine T_il1 dX7_readClause_57 ?_
      refine T_bipush (v := nI 9) dX7_readClause_58 (by decide +kernel) ?_
      refine T_nne_t 70 dX7_readClause_60 (by decide) (by omega) (by omega) (by omega) ?_
      refine T_iconst (v := nI 0) dX7_readClause_70 rfl ?_
      refine T_put7_18 pX7_135 dX7_readClause_71 ?_
      rw [qu18]
      exact clear 4 (0, 0, te.2.2) _ _ _ (by decide) (by decide) hle.2.1 b4 b5
    | 8, _, ew, hne =>
      rw [show vb 8 = 8 from rfl]
      rw [if_neg (fun z => z.elim (by decide) (fun z => by cases z)), body8]
      refine T_is1 dX7_readClause_4 rfl ?_
      refine T_il1 dX7_readClause_5 ?_
      refine T_if_ge_t 11 dX7_readClause_6 (by decide) (nI_pos' (by decide)) ?_
      refine T_il1 dX7_readClause_11 ?_
      refine T_iconst (v := nI 4) dX7_readClause_12 rfl ?_
      refine T_nge_t 22 dX7_readClause_13 (by decide) (by omega) (by omega) (by omega) ?_
      refine T_il1 dX7_readClause_22 ?_
      refine T_bipush (v := nI 8) dX7_readClause_23 (by decide +kernel) ?_
      refine T_nge_t 39 dX7_readClause_25 (by decide) (by omega) (by omega) (by omega) ?_
      refine T_al0 dX7_readClause_39 ?_
      refine T_il1 dX7_readClause_40 ?_
      refine T_iconst (v := nI 4) dX7_readClause_41 rfl ?_
      refine T_nne_t 49 dX7_readClause_42 (by decide) (by omega) (by omega) (by omega) ?_
      refine T_al0 dX7_readClause_49 ?_
      refine T_g7 gX7_128 (cell_89 _ _) rfl dX7_readClause_50 ?_
      rw [q14]
      refine T_put7_14 pX7_128 dX7_readClause_53 ?_
      rw [qu14]
      refine T_al0 dX7_readClause_56 ?_
      refine T_il1 dX7_readClause_57 ?_
      refine T_bipush (v := nI 9) dX7_readClause_58 (by decide +kernel) ?_
      refine T_nne_t 70 dX7_readClause_60 (by decide) (by omega) (by omega) (by omega) ?_
      refine T_iconst (v := nI 0) dX7_readClause_70 rfl ?_
      refine T_put7_18 pX7_135 dX7_readClause_71 ?_
      rw [qu18]
      refine T_iconst (v := nI 0) dX7_readClause_74 rfl ?_
      refine T_is2 dX7_readClause_75 rfl ?_
      refine T_il2 dX7_readClause_76 ?_
      refine T_bipush (v := nI 8) dX7_readClause_77 (by decide +kernel) ?_
      refine T_nge_f 108 dX7_readClause_79 (by decide) (by omega) (by omega) (by omega) ?_
      refine T_il1 dX7_readClause_82 ?_
      refine T_bipush (v := nI 8) dX7_readClause_83 (by decide +kernel) ?_
      refine T_neq_t 108 dX7_readClause_85 (by decide) (by omega) (by omega) (by omega) ?_
      refine T_iconst (v := nI 1) dX7_readClause_108 rfl ?_
      refine T_bret1 rfl dX7_readClause_109 ?_
      exact RM.yes (te := calT te) hle.2.1 rfl
    | 9, _, ew, hne =>
      rw [show vb 9 = 9 from rfl]
      rw [if_neg (fun z => z.elim (by decide) (fun z => by cases z)), body9]
      refine T_is1 dX7_readClause_4 rfl ?_
      refine T_il1 dX7_readClause_5 ?_
      refine T_if_ge_t 11 dX7_readClause_6 (by decide) (nI_pos' (by decide)) ?_
      refine T_il1 dX7_readClause_11 ?_
      refine T_iconst (v := nI 4) dX7_readClause_12 rfl ?_
      refine T_nge_t 22 dX7_readClause_13 (by decide) (by omega) (by omega) (by omega) ?_
      refine T_il1 dX7_readClause_22 ?_
      refine T_bipush (v := nI 8) dX7_readClause_23 (by decide +kernel) ?_
      refine T_nge_t 39 dX7_readClause_25 (by decide) (by omega) (by omega) (by omega) ?_
      refine T_al0 dX7_readClause_39 ?_
      refine T_il1 dX7_readClause_40 ?_
      refine T_iconst (v := nI 4) dX7_readClause_41 rfl ?_
      refine T_nne_t 49 dX7_readClause_42 (by decide) (by omega) (by omega) (by omega) ?_
      refine T_al0 dX7_readClause_49 ?_
      refine T_g7 gX7_128 (cell_89 _ _) rfl dX7_readClause_50 ?_
      rw [q14]
      refine T_put7_14 pX7_128 dX7_readClause_53 ?_
      rw [qu14]
      refine T_al0 dX7_readClause_56 ?_
      refine T_il1 dX7_readClause_57 ?_
      refine T_bipush (v := nI 9) dX7_readClause_58 (by decide +kernel) ?_
      refine T_nne_f 70 dX7_readClause_60 (by decide) (by omega) (by omega) (by omega) ?_
      refine T_al0 dX7_readClause_63 ?_
      refine T_g7 gX7_135 (cell_89 _ _) rfl dX7_readClause_64 ?_
      refine T_goto 71 dX7_readClause_67 (by decide) ?_
      rw [q18]
      refine T_put7_18 pX7_135 dX7_readClause_71 ?_
      rw [qu18]
      exact clear 9 te _ _ _ (by decide) (by decide) hle.2.1 b4 b5
    | w + 10, hw, _, _ => exact absurd hw (by omega)
/-! the whole text -/
def RT (F : FT) (G : GT) (r : Int32 × Nat × TeS) : Option Value → FT → GT → Prop := fun v F' G' => v = some (.int (bI (decide (r.1 = -1)))) ∧ ∃ (pl tk : Nat) (vl : Int32) (bg cl : Nat), F' = qF F pl tk vl bg cl r.2.2 ∧ G' = qG G r.2.2 ∧ (r.1 = -1 → cl = r.2.1) ∧ (¬ r.1 = -1 → r.1 = nI bg)
theorem nI_nm1 {n : Nat} (h : n < 2 ^ 31) : ¬ nI n = -1 := fun z => by
  have := nI_pos' h
  rw [z] at this
  exact m1_neg this
theorem srt_59 : srt (nI 59) = 0 := by decide +kernel
theorem m_readLoop (d : Nat) (hd : 7 ≤ d) (F : FT) (G : GT) (tx : List Int32) (n : Nat) (hn : n ≤ 160) (hF : F 89 9 = nI n) (hG : G 96 = tx) (o : Option Value) : ∀ (k c pl tk : Nat) (vl : Int32) (bg : Nat) (te : TeS), c + k = 14 → 0 < k → pl ≤ n → TeI te → T DX7_readText d 154 [some (.ref 89), o] [] (qF F pl tk vl bg c te) (qG G te) (RT F G (ffP tx n k c te (stepP tx n pl))) := by
  intro k
  induction k with
  | zero => intro c pl tk vl bg te _ h0; omega
  | succ k ih =>
    intro c pl tk vl bg te hc _ hpl hT
    have hG' : ∀ te, qG G te 96 = tx := fun te => by rw [qG_o _ _ (by omega)]; exact hG
    have s1 := stepP_le tx hpl
    refine T_al0 dX7_readText_154 ?_
    refine T_cV0 lX7_121 rfl (by decide) (cell_89 _ _) (m_nextToken _ (by omega) F _ tx n pl tk vl bg c te hn hF (hG' te) hpl) (by omega) (Nat.le_of_ble_eq_true rfl) dX7_readText_155 (fun v F' G' hP => ?_)
    obtain ⟨rfl, rfl, rfl⟩ := hP
    have hst : stepP tx n pl = ((stepP tx n pl).1, tokE tx n (stepP tx n pl).1) := rfl
    rw [show (stepP tx n pl).2 = tokE tx n (stepP tx n pl).1 from rfl]
    generalize hb : (stepP tx n pl).1 = b at s1 hst ⊢
    rw [hst]
    refine T_al0 dX7_readText_158 ?_
    refine T_cV0 lX7_159 rfl (by decide) (cell_89 _ _) (m_readClause _ (by omega) F G tx n _ b c te hn hF hG s1.2.1 hT) (by omega) (Nat.le_of_ble_eq_true rfl) dX7_readText_159 (fun v F' G' hP => ?_)
    have hT2 : TeI (clP tx n te (b, tokE tx n b)).2.1 := hT.cl
    obtain ⟨rfl, pl2, tk2, vl2, bg2, hpl2, rfl, rfl, hy, hno⟩ := hP
    have hok := (clP_ok (tx := tx) (x := te) (p := (b, tokE tx n b)) hT.1.1 hT.1.2 (tokE_le tx s1.2.1).2.1 (tokE_le tx s1.2.1).1).2.2
    rw [ffP]
    generalize clP tx n te (b, tokE tx n b) = r at hy hno hT2 hok ⊢
    refine T_bne 167 dX7_readText_162 (by decide) (fun h1 => ?_) (fun h1 => ?_)
    · rw [if_neg (by rw [h1]; decide), hy h1]
      refine T_al0 dX7_readText_167 ?_
      refine T_dup dX7_readText_168 rfl ?_
      refine T_g7 gX7_153 (cell_89 _ _) rfl dX7_readText_169 ?_
      rw [q21]
      refine T_iconst (v := nI 1) dX7_readText_172 rfl ?_
      first | refine T_iaddN dX7_readText_173 ?_ | refine T_iadd dX7_readText_173 ?_
      refine T_put7_21 pX7_153 dX7_readText_174 ?_
      rw [qu21]
      refine T_al0 dX7_readText_177 ?_
      refine T_cV0 lX7_121 rfl (by decide) (cell_89 _ _) (m_nextToken _ (by omega) F _ tx n pl2 tk2 vl2 bg2 (c + 1) r.2.1 hn hF (hG' _) hpl2) (by omega) (Nat.le_of_ble_eq_true rfl) dX7_readText_178 (fun v F' G' hP => ?_)
      obtain ⟨rfl, rfl, rfl⟩ := hP
      have s2 := stepP_le tx hpl2
      have h4 : tkN tx n (stepP tx n pl2).1 < 4 := by
        unfold tkN
        have := srt_lt (tx.getD (stepP tx n pl2).1 0)
        split <;> omega
      refine T_al0 dX7_readText_181 ?_
      refine T_g7 gX7_100 (cell_89 _ _) rfl dX7_readText_182 ?_
      rw [q11]
      refine T_iconst (v := nI 3) dX7_readText_185 rfl ?_
      refine T_nne 191 dX7_readText_186 (by decide) (by omega) (by omega) (fun h2 => ?_) (fun h2 => ?_)
      · have hlt : ¬ n ≤ (stepP tx n pl2).1 := fun z => h2 (by rw [tkN, if_pos z])
        have htk : tkN tx n (stepP tx n pl2).1 = srt (tx.getD (stepP tx n pl2).1 0) := by rw [tkN, if_neg hlt]
        rw [if_neg hlt]
        have no : (¬ tx.getD (stepP tx n pl2).1 0 = nI 59 ∨ c + 1 = 14) → T DX7_readText d 216 [some (.ref 89), o] [] (qF F (stepP tx n pl2).2 (tkN tx n (stepP tx n pl2).1) (tvI tx n (stepP tx n pl2).1 (stepP tx n pl2).2) (stepP tx n pl2).1 (c + 1) r.2.1) (qG G r.2.1) (RT F G (if ¬ tx.getD (stepP tx n pl2).1 0 = nI 59 ∨ c + 1 = 14 then (nI (stepP tx n pl2).1, c + 1, r.2.1) else ffP tx n k (c + 1) r.2.1 (stepP tx n (stepP tx n pl2).2))) := by
          intro hc2
          rw [if_pos hc2]
          refine T_iconst (v := nI 0) dX7_readText_216 rfl ?_
          refine T_bret0 rfl dX7_readText_217 ?_
          exact ⟨by rw [decide_eq_false (nI_nm1 (by omega))], _, _, _, _, _, rfl, rfl, fun z => absurd z (nI_nm1 (by omega)), fun _ => rfl⟩
        rw [htk] at no h4 ⊢
        refine T_al0 dX7_readText_191 ?_
        refine T_g7 gX7_100 (cell_89 _ _) rfl dX7_readText_192 ?_
        rw [q11]
        refine T_if_ne 216 dX7_readText_195 (by decide) (fun h3 => ?_) (fun h3 => ?_)
        · refine no (Or.inl (fun z => ?_))
          rw [z, srt_59] at h3
          exact h3 nI_0
        · have h3 : srt (tx.getD (stepP tx n pl2).1 0) = 0 := (nI_eq (by omega) (by decide)).mp (h3.trans nI_0.symm)
          have hv : tvI tx n (stepP tx n pl2).1 (stepP tx n pl2).2 = tx.getD (stepP tx n pl2).1 0 := by rw [tvI, if_neg hlt, h3, if_neg (by decide), if_neg (by decide)]
          rw [hv] at no ⊢
          refine T_al0 dX7_readText_198 ?_
          refine T_g7 gX7_97 (cell_89 _ _) rfl dX7_readText_199 ?_
          rw [q12]
          refine T_bipush (v := nI 59) dX7_readText_202 (by decide +kernel) ?_
          refine T_icmp_ne 216 dX7_readText_204 (by decide) (fun h5 => ?_) (fun h5 => ?_)
          · exact no (Or.inl h5)
          · refine T_al0 dX7_readText_207 ?_
            refine T_g7 gX7_153 (cell_89 _ _) rfl dX7_readText_208 ?_
            rw [q21]
            refine T_bipush (v := nI 14) dX7_readText_211 (by decide +kernel) ?_
            refine T_nne 154 dX7_readText_213 (by decide) (by omega) (by omega) (fun h6 => ?_) (fun h6 => ?_)
            · rw [if_neg (fun z => z.elim (fun z => z h5) h6)]
              exact ih (c + 1) _ _ _ _ r.2.1 (by omega) (by omega) s2.2.2.2 hT2
            · exact no (Or.inr h6)
      · have hle : n ≤ (stepP tx n pl2).1 := by
          unfold tkN at h2
          split at h2
          · rename_i q; exact q
          · have := srt_lt (tx.getD (stepP tx n pl2).1 0); omega
        rw [if_pos hle]
        refine T_iconst (v := nI 1) dX7_readText_189 rfl ?_
        refine T_bret1 rfl dX7_readText_190 ?_
        exact ⟨by rw [decide_eq_true rfl], _, _, _, _, _, rfl, rfl, fun _ => rfl, fun z => absurd rfl z⟩
    · have hbg := hno h1
      rw [if_pos h1, hbg]
      refine T_iconst (v := nI 0) dX7_readText_165 rfl ?_
      refine T_bret0 rfl dX7_readText_166 ?_
      have hnm : ¬ nI bg2 = -1 := nI_nm1 (by omega)
      exact ⟨by rw [decide_eq_false hnm], _, _, _, _, _, rfl, rfl, (fun z => absurd z hnm), (fun _ => rfl)⟩
