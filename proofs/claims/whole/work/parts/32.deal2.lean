def insL (day : Int32) : Nat → List Int32 → List Int32
  | 0, l => l.set 0 day
  | k + 1, l => if day < l.getD k 0 then insL day k (l.set (k + 1) (l.getD k 0)) else l.set (k + 1) day
theorem c_addDay (d : Nat) (F : FT) (G : GT) (sl : Nat) (hF : F 82 4 = nI sl) (hsl : sl < 6) (day : Int32) : Kc DX0_addDay d [.ref 82, .int day] F G (fun v F' G' => v = none ∧ F' = u2 F 82 4 (nI (sl + 1)) ∧ G' = u1 G 83 (insL day sl (G 83))) := by
  refine Kc.ofT [some (.ref 82), some (.int day), none] pn_X0 (Nat.le_of_ble_eq_true rfl) rfl ?_
  refine T_al0 dX0_addDay_0 ?_
  refine T_g0 gX0_29 (cell_82 _ _) rfl dX0_addDay_1 ?_
  refine T_bipush (v := nI 6) dX0_addDay_4 (by decide +kernel) ?_
  rw [hF]
  refine T_nlt_t 10 dX0_addDay_6 (by decide) (by omega) (by omega) (by omega) ?_
  refine T_al0 dX0_addDay_10 ?_
  refine T_g0 gX0_29 (cell_82 _ _) rfl dX0_addDay_11 ?_
  rw [hF]
  refine T_is2 dX0_addDay_14 rfl ?_
  refine T_G (u1_id G 83).symm ?_
  have fin : ∀ (k : Nat) (l : List Int32), k < 6 → T DX0_addDay d 51 [some (.ref 82), some (.int day), some (.int (nI k))] [] F (u1 G 83 l) (fun v F' G' => v = none ∧ F' = u2 F 82 4 (nI (sl + 1)) ∧ G' = u1 G 83 (l.set k day)) := by
    intro k l hk
    refine T_al0 dX0_addDay_51 ?_
    refine T_g0 gX0_9 (cell_82 _ _) rfl dX0_addDay_52 ?_
    refine T_il2 dX0_addDay_55 ?_
    refine T_il1 dX0_addDay_56 ?_
    refine T_astN rfl (show _ < 6 by omega) dX0_addDay_57 ?_
    rw [u1_u1, u1_s]
    refine T_al0 dX0_addDay_58 ?_
    refine T_dup dX0_addDay_59 rfl ?_
    refine T_g0 gX0_29 (cell_82 _ _) rfl dX0_addDay_60 ?_
    rw [hF]
    refine T_iconst (v := nI 1) dX0_addDay_63 rfl ?_
    first | refine T_iaddN dX0_addDay_64 ?_ | refine T_iadd dX0_addDay_64 ?_
    refine T_put0_4 pX0_29 dX0_addDay_65 ?_
    refine T_vret rfl dX0_addDay_68 ?_
    exact ⟨rfl, rfl, rfl⟩
  suffices h : ∀ (k : Nat) (l : List Int32), k < 6 → T DX0_addDay d 15 [some (.ref 82), some (.int day), some (.int (nI k))] [] F (u1 G 83 l) (fun v F' G' => v = none ∧ F' = u2 F 82 4 (nI (sl + 1)) ∧ G' = u1 G 83 (insL day k l)) from h sl (G 83) hsl
  intro k
  induction k with
  | zero =>
    intro l hk
    refine T_il2 dX0_addDay_15 ?_
    refine T_if_le_t 51 dX0_addDay_16 (by decide) (by decide) ?_
    exact fin 0 l hk
  | succ k ih =>
    intro l hk
    rw [insL]
    refine T_il2 dX0_addDay_15 ?_
    refine T_if_le_f 51 dX0_addDay_16 (by decide) (nI_nle (by omega) (by omega)) ?_
    refine T_al0 dX0_addDay_19 ?_
    refine T_g0 gX0_9 (cell_82 _ _) rfl dX0_addDay_20 ?_
    refine T_il2 dX0_addDay_23 ?_
    refine T_iconst (v := nI 1) dX0_addDay_24 rfl ?_
    refine T_isubN dX0_addDay_25 (by omega) ?_
    refine T_aldN rfl (show _ < 6 by omega) dX0_addDay_26 ?_
    rw [u1_s, Nat.add_sub_cancel]
    refine T_il1 dX0_addDay_27 ?_
    refine T_icmp_le 51 dX0_addDay_28 (by decide) (fun h1 => ?_) (fun h1 => ?_)
    · rw [if_neg (Int32.not_lt.mpr h1)]
      exact fin (k + 1) l hk
    · rw [if_pos (Int32.not_le.mp h1)]
      refine T_al0 dX0_addDay_31 ?_
      refine T_g0 gX0_9 (cell_82 _ _) rfl dX0_addDay_32 ?_
      refine T_il2 dX0_addDay_35 ?_
      refine T_al0 dX0_addDay_36 ?_
      refine T_g0 gX0_9 (cell_82 _ _) rfl dX0_addDay_37 ?_
      refine T_il2 dX0_addDay_40 ?_
      refine T_iconst (v := nI 1) dX0_addDay_41 rfl ?_
      refine T_isubN dX0_addDay_42 (by omega) ?_
      refine T_aldN rfl (show _ < 6 by omega) dX0_addDay_43 ?_
      rw [u1_s, Nat.add_sub_cancel]
      refine T_astN (a := 83) rfl (show k + 1 < 6 by omega) dX0_addDay_44 ?_
      rw [u1_u1, u1_s]
      refine T_ii2 dX0_addDay_45 (nI_dec _) rfl ?_
      refine T_goto 15 dX0_addDay_48 (by decide) ?_
      exact ih _ (by omega)
/-- row, days, slots, coming -/
abbrev DcS : Type := List Int32 × List Int32 × Nat × Int32
def dcS (od : List Int32) (now : Int32) : Nat → DcS → DcS := fun i x => if od.getD i 0 < now then (x.1.set i (od.getD i 0), x.2) else (x.1.set i (od.getD i 0), insL (od.getD i 0) x.2.2.1 x.2.1, x.2.2.1 + 1, x.2.2.2 ||| bitI (nI i))
theorem dcS_sl (od : List Int32) (now : Int32) : ∀ n k x, x.2.2.1 ≤ k → (iter (dcS od now) n k x).2.2.1 ≤ k + n := by
  intro n
  induction n with
  | zero => intro k x h; exact h
  | succ n ih =>
    intro k x h
    rw [iter]
    have := ih (k + 1) (dcS od now k x) (by unfold dcS; split <;> simp only <;> omega)
    omega
def dcA (a : AS) (r ds : List Int32) : DcS := iter (dcS (aOd a) (lDay (aNow a))) (aM a) 0 (r, ds, 0, nI 0)
def dlE (a : AS) (ds : List Int32) : DlE := (aN a, aM a, aKd a, aLn a, lOv (aNow a), lKn (aNow a), aOt a, ds)
def dlA (a : AS) (r ds f : List Int32) : DlS := dealQ (dlE a (dcA a r ds).2.1) (dcA a r ds).2.2.1 0 0 (dcA a r ds).2.2.2 (lWhole (aNow a)) (nI 0) ((dcA a r ds).1, f, nI 961)
theorem XR.deal {a : AS} {F : FT} {G : GT} (h : XR a F G) {F' : FT} {G' : GT} (f1 : ∀ c i, c ≠ 82 → F' c i = F c i) (g1 : ∀ c, (c < 83 ∨ 85 < c) → G' c = G c) : XR a F' G' := by
  obtain ⟨hT, ⟨t1, t2, t3, t4, t5, t6, t7, t8, t9⟩, hn, ⟨p, p1, p2, p3, p4, p5⟩, k1, k2, k3⟩ := h
  have go : ∀ k : Nat, k + 4 < 82 → gL F' G' k = gL F G k := fun k hk => gL_o (fun i => f1 _ _ (by omega)) (fun c hc _ => g1 _ (by omega))
  refine ⟨⟨by rw [g1 _ (by decide)]; exact hT.1, by rw [f1 _ _ (by decide)]; exact hT.2⟩, ⟨by rw [f1 _ _ (by decide)]; exact t1, by rw [f1 _ _ (by decide)]; exact t2, by rw [g1 _ (by decide)]; exact t3, by rw [g1 _ (by decide)]; exact t4, by rw [g1 _ (by decide)]; exact t5, by rw [g1 _ (by decide)]; exact t6, by rw [g1 _ (by decide)]; exact t7, by rw [g1 _ (by decide)]; exact t8, by rw [g1 _ (by decide)]; exact t9⟩, by rw [go _ (by decide)]; exact hn, ⟨p, p1, by rw [f1 _ _ (by decide)]; exact p2, by rw [f1 _ _ (by decide)]; exact p3, p4, fun j x hj => by rw [go _ (by omega)]; exact p5 j x hj⟩, by rw [f1 _ _ (by decide)]; exact k1, fun x hx => by rw [go _ (by decide)]; exact k2 x hx, fun x hx => by rw [go _ (by decide)]; exact k3 x hx⟩
/-- while the days are gathered -/
def cF (F : FT) (sl : Nat) : FT := u2 F 82 4 (nI sl)
def cG (G : GT) (r ds : List Int32) : GT := u1 (u1 G 84 r) 83 ds
theorem cG_84 (G : GT) (r ds : List Int32) : cG G r ds 84 = r := by simp [cG, u1_at]
theorem cG_83 (G : GT) (r ds : List Int32) : cG G r ds 83 = ds := by simp [cG, u1_at]
theorem cG_o (G : GT) (r ds : List Int32) {c : Nat} (h : c < 83 ∨ 84 < c) : cG G r ds c = G c := by simp only [cG, u1_at]; rw [if_neg (by omega), if_neg (by omega)]
theorem cG_u84 (G : GT) (r ds l : List Int32) : u1 (cG G r ds) 84 l = cG G l ds := by
  funext c; simp only [cG, u1_at]; by_cases h : c = 84 <;> simp [h]
theorem cG_u83 (G : GT) (r ds l : List Int32) : u1 (cG G r ds) 83 l = cG G r l := by
  funext c; simp only [cG, u1_at]; by_cases h : c = 83 <;> simp [h]
theorem c_deal (d : Nat) (hd : 18 ≤ d) (F : FT) (G : GT) (a : AS) (hX : XR a F G) (hn : aN a ≤ 8) (hm : aM a ≤ 6) (ho : okS (lOv (aNow a))) (hO : ∀ o, o < aM a → ∃ j, j < 8 ∧ (aOt a).getD o 0 = nI j) : Kc DX0_deal d [.ref 82] F G (fun v F' G' => v = none ∧ XR a F' G' ∧ FrM F G F' G' ∧ F' 82 6 = (dlA a (G 84) (G 83) (G 85)).2.2 ∧ G' 85 = (dlA a (G 84) (G 83) (G 85)).2.1) := by
  obtain ⟨e0, e1, e4, e5, e9, e10, f1, f2, f3, f4, g0, g1, g2, g3⟩ := hX.eqs
  refine Kc.ofT [some (.ref 82), none, none] pn_X0 (Nat.le_of_ble_eq_true rfl) rfl ?_
  refine T_al0 dX0_deal_0 ?_
  refine T_iconst (v := nI 0) dX0_deal_1 rfl ?_
  refine T_put0_4 pX0_29 dX0_deal_2 ?_
  refine T_iconst (v := nI 0) dX0_deal_5 rfl ?_
  refine T_is1 dX0_deal_6 rfl ?_
  refine T_iconst (v := nI 0) dX0_deal_7 rfl ?_
  refine T_is2 dX0_deal_8 rfl ?_
  have eG : G = cG G (G 84) (G 83) := by
    funext c; simp only [cG, u1_at]; by_cases h8 : c = 83
    · simp [h8]
    · by_cases h7 : c = 84 <;> simp [h7, h8]
  refine T_G eG ?_
  have fo : ∀ (sl : Nat) (c i : Nat), c ≠ 82 → cF F sl c i = F c i := fun sl c i hc => u2_c _ _ hc
  refine for_inv (dcS (aOd a) (lDay (aNow a))) (aM a) (fun k x => T DX0_deal d 9 [some (.ref 82), some (.int x.2.2.2), some (.int (nI k))] [] (cF F x.2.2.1) (cG G x.1 x.2.1) _) (fun k x => x.2.2.1 ≤ k) (fun k x _ hx => by unfold dcS; split <;> simp only <;> omega) ?_ (aM a) 0 (G 84, G 83, 0, nI 0) (by omega) (Nat.le_refl 0) ?_
  · intro k x hk hx h
    refine T_il2 dX0_deal_9 ?_
    refine T_al0 dX0_deal_10 ?_
    refine T_g0 gX0_21 (cell_82 _ _) rfl dX0_deal_11 ?_
    refine T_g4 gX0_33 (by first | assumption | decide) (cell_T _ _ (by first | assumption | decide)) rfl dX0_deal_14 ?_
    rw [fo _ _ _ (by decide), e1]
    refine T_nge_f 74 dX0_deal_17 (by decide) (by omega) (by omega) (by omega) ?_
    refine T_al0 dX0_deal_20 ?_
    refine T_g0 gX0_15 (cell_82 _ _) rfl dX0_deal_21 ?_
    refine T_il2 dX0_deal_24 ?_
    refine T_al0 dX0_deal_25 ?_
    refine T_g0 gX0_21 (cell_82 _ _) rfl dX0_deal_26 ?_
    refine T_g4 gX0_38 (by first | assumption | decide) (cell_T _ _ (by first | assumption | decide)) rfl dX0_deal_29 ?_
    refine T_il2 dX0_deal_32 ?_
    refine T_aldN (isT_I (by first | assumption | decide)).2.2.2.2.2.2 (by rw [(gL_T (by first | assumption | decide)).2.2.2.2.2.2]; omega) dX0_deal_33 ?_
    rw [show cG G x.1 x.2.1 (3 + 7) = _ from (cG_o G _ _ (by decide)).trans e10]
    refine T_astN (a := 84) rfl (show k < 6 by omega) dX0_deal_34 ?_
    rw [cG_84, cG_u84]
    refine T_al0 dX0_deal_35 ?_
    refine T_g0 gX0_15 (cell_82 _ _) rfl dX0_deal_36 ?_
    refine T_il2 dX0_deal_39 ?_
    refine T_aldN rfl (show _ < 6 by omega) dX0_deal_40 ?_
    refine T_al0 dX0_deal_41 ?_
    refine T_g0 gX0_25 (cell_82 _ _) rfl dX0_deal_42 ?_
    refine T_g1 gX0_41 (by first | assumption | decide) (cell_L _ _ (by first | assumption | decide)) rfl dX0_deal_45 ?_
    rw [cG_84, fo _ _ _ (by decide), f1]
    have eg : ∀ v : Int32, (x.1.set k v).getD k 0 = v ∨ x.1.length ≤ k := fun v => by
      rcases Nat.lt_or_ge k x.1.length with q | q
      · left; rw [List.getD_eq_getElem?_getD, List.getElem?_set_self q]; rfl
      · exact Or.inr q
    refine T_len (fun hlen => ?_)
    have hl6 : x.1.length = 6 := by have := hlen 84; rw [cG_84, List.length_set] at this; exact this
    have eg := (eg ((aOd a).getD k 0)).resolve_right (by omega)
    rw [eg]
    refine T_icmp_lt 68 dX0_deal_48 (by decide) (fun h1 => ?_) (fun h1 => ?_)
    · rw [dcS, if_pos h1] at h
      refine T_ii2 dX0_deal_68 (by first | exact nI_inc _ | exact nI_dec _ | rfl) rfl ?_
      refine T_goto 9 dX0_deal_71 (by decide) ?_
      exact h
    · rw [dcS, if_neg h1] at h
      refine T_al0 dX0_deal_51 ?_
      refine T_al0 dX0_deal_52 ?_
      refine T_g0 gX0_15 (cell_82 _ _) rfl dX0_deal_53 ?_
      refine T_il2 dX0_deal_56 ?_
      refine T_aldN rfl (show _ < 6 by omega) dX0_deal_57 ?_
      rw [cG_84, eg]
      refine T_cV1 lX0_46 rfl (by decide) (cell_82 _ _) (c_addDay _ _ _ x.2.2.1 (u2_s _ _ _ _) (by omega) _) (by omega) (Nat.le_of_ble_eq_true rfl) dX0_deal_58 (fun v F' G' hP => ?_)
      obtain ⟨rfl, rfl, rfl⟩ := hP
      rw [cG_83, cG_u83, u2_u2]
      refine T_il1 dX0_deal_61 ?_
      refine T_il2 dX0_deal_62 ?_
      refine T_pT1 lX0_50 (c_bit _ _ _ _) (by omega) (Nat.le_of_ble_eq_true rfl) dX0_deal_63 ?_
      refine T_ior dX0_deal_66 ?_
      refine T_is1 dX0_deal_67 rfl ?_
      refine T_ii2 dX0_deal_68 (by first | exact nI_inc _ | exact nI_dec _ | rfl) rfl ?_
      refine T_goto 9 dX0_deal_71 (by decide) ?_
      exact h
  · intro hx
    have hdc : iter (dcS (aOd a) (lDay (aNow a))) (aM a) 0 (G 84, G 83, 0, nI 0) = dcA a (G 84) (G 83) := rfl
    rw [hdc] at hx ⊢
    rw [dlA]
    generalize dcA a (G 84) (G 83) = x at hx ⊢
    refine T_il2 dX0_deal_9 ?_
    refine T_al0 dX0_deal_10 ?_
    refine T_g0 gX0_21 (cell_82 _ _) rfl dX0_deal_11 ?_
    refine T_g4 gX0_33 (by first | assumption | decide) (cell_T _ _ (by first | assumption | decide)) rfl dX0_deal_14 ?_
    rw [fo _ _ _ (by decide), e1]
    refine T_nge_t 74 dX0_deal_17 (by decide) (by omega) (by omega) (by omega) ?_
    refine T_al0 dX0_deal_74 ?_
    refine T_sipush (v := nI 961) dX0_deal_75 (by decide +kernel) ?_
    refine T_put0_6 pX0_54 dX0_deal_78 ?_
    refine T_al0 dX0_deal_81 ?_
    refine T_iconst (v := nI 0) dX0_deal_82 rfl ?_
    refine T_iconst (v := -1) dX0_deal_83 rfl ?_
    refine T_il1 dX0_deal_84 ?_
    refine T_al0 dX0_deal_85 ?_
    refine T_g0 gX0_25 (cell_82 _ _) rfl dX0_deal_86 ?_
    refine T_g1 gX0_57 (by first | assumption | decide) (cell_L _ _ (by first | assumption | decide)) rfl dX0_deal_89 ?_
    rw [u2_c _ _ (by decide), fo _ _ _ (by decide), f3]
    refine T_iconst (v := nI 0) dX0_deal_92 rfl ?_
    have hR : DlR (dlE a x.2.1) x.2.2.1 (cF F x.2.2.1) (cG G x.1 x.2.1) := ⟨by rw [fo _ _ _ (by decide)]; exact e0, by rw [fo _ _ _ (by decide)]; exact e1, by rw [cG_o _ _ _ (by decide)]; exact e4, by rw [cG_o _ _ _ (by decide)]; exact e5, by rw [cG_o _ _ _ (by decide)]; exact g1, by rw [cG_o _ _ _ (by decide)]; exact g2, by rw [cG_o _ _ _ (by decide)]; exact e9, cG_83 _ _ _, u2_s _ _ _ _⟩
    have eG2 : cG G x.1 x.2.1 = dG (cG G x.1 x.2.1) x.1 (G 85) := by
      funext c; simp only [dG, u1_at]; by_cases h8 : c = 85
      · rw [if_pos h8, h8, cG_o _ _ _ (by decide)]
      · by_cases h7 : c = 84
        · rw [if_neg h8, if_pos h7, h7, cG_84]
        · rw [if_neg h8, if_neg h7]
    refine T_G eG2 ?_
    refine T_cV5 lX0_60 rfl (by decide) (cell_82 _ _) (c_dealFrom (cF F x.2.2.1) (cG G x.1 x.2.1) (dlE a x.2.1) x.2.2.1 hR (by omega) hn hm ho hO x.2.2.1 0 0 _ (-1) (x.1, G 85, nI 961) x.2.2.2 (lWhole (aNow a)) (nI 0) (by omega) (by omega) (Or.inl rfl)) (by omega) (Nat.le_of_ble_eq_true rfl) dX0_deal_93 (fun v F' G' hP => ?_)
    obtain ⟨rfl, rfl, rfl⟩ := hP
    refine T_vret rfl dX0_deal_96 ?_
    refine ⟨rfl, hX.deal (fun c i hc => ?_) (fun c hc => ?_), ⟨fun i => ?_, fun c hc => ?_⟩, dF_m _ _, dG_f _ _ _⟩
    · rw [dF_o _ _ _ hc, fo _ _ _ hc]
    · rw [dG_o _ _ _ (by omega), cG_o _ _ _ (by omega)]
    · rw [dF_o _ _ _ (by decide), fo _ _ _ (by decide)]
    · rw [dG_o _ _ _ (by omega), cG_o _ _ _ (by omega)]
def r_swapped (a : AS) (r ds f : List Int32) (o : Int32) : Int32 := if ¬ o = -1 ∧ knB (aM a) o = false then -2 else if o = -1 then (dlA a r ds f).2.2 else (dlA a r ds f).2.1.getD (sv o) 0
theorem x_swapped (d : Nat) (hd : 20 ≤ d) (F : FT) (G : GT) (a : AS) (hX : XR a F G) (hn : aN a ≤ 8) (hm : aM a ≤ 6) (ho : okS (lOv (aNow a))) (hO : ∀ o, o < aM a → ∃ j, j < 8 ∧ (aOt a).getD o 0 = nI j) (o : Int32) : Kc DX6_swapped d [.ref 0, .int o] F G (XP (r_swapped a (G 84) (G 83) (G 85) o, a) F G) := by
  obtain ⟨e0, e1, e4, e5, e9, e10, f1, f2, f3, f4, g0, g1, g2, g3⟩ := hX.eqs
  have key : ¬ (¬ o = -1 ∧ knB (aM a) o = false) → T DX6_swapped d 23 [some (.ref 0), some (.int o)] [] F G (XP (r_swapped a (G 84) (G 83) (G 85) o, a) F G) := by
    intro hc
    refine T_al0 dX6_swapped_23 ?_
    refine T_g6 gX6_58 (cell_0 _ _) rfl dX6_swapped_24 ?_
    refine T_cV0 lX6_199 rfl (by decide) (cell_82 _ _) (c_deal _ (by omega) F G a hX hn hm ho hO) (by omega) (Nat.le_of_ble_eq_true rfl) dX6_swapped_27 (fun v F' G' hP => ?_)
    obtain ⟨rfl, hX1, hM1, q1, q2⟩ := hP
    rw [r_swapped, if_neg hc]
    refine T_il1 dX6_swapped_30 ?_
    refine T_iconst (v := -1) dX6_swapped_31 rfl ?_
    refine T_icmp_ne 45 dX6_swapped_32 (by decide) (fun h1 => ?_) (fun h1 => ?_)
    · rw [if_neg h1]
      have hk : knB (aM a) o = true := by
        cases hq : knB (aM a) o with
        | true => rfl
        | false => exact absurd ⟨h1, hq⟩ hc
      obtain ⟨k, hk2, rfl⟩ := knB_ok (by omega) hk
      refine T_al0 dX6_swapped_45 ?_
      refine T_g6 gX6_58 (cell_0 _ _) rfl dX6_swapped_46 ?_
      refine T_g0 gX6_205 (cell_82 _ _) rfl dX6_swapped_49 ?_
      refine T_il1 dX6_swapped_52 ?_
      refine T_aldN rfl (show _ < 6 by omega) dX6_swapped_53 ?_
      rw [q2]
      refine T_iret rfl dX6_swapped_54 ?_
      rw [sv_nI (by omega)]
      exact ⟨rfl, hX1, hM1⟩
    · rw [if_pos h1]
      refine T_al0 dX6_swapped_35 ?_
      refine T_g6 gX6_58 (cell_0 _ _) rfl dX6_swapped_36 ?_
      refine T_g0 gX6_202 (cell_82 _ _) rfl dX6_swapped_39 ?_
      rw [q1]
      refine T_goto 54 dX6_swapped_42 (by decide) ?_
      refine T_iret rfl dX6_swapped_54 ?_
      exact ⟨rfl, hX1, hM1⟩
  have no : (¬ o = -1 ∧ knB (aM a) o = false) → T DX6_swapped d 20 [some (.ref 0), some (.int o)] [] F G (XP (r_swapped a (G 84) (G 83) (G 85) o, a) F G) := by
    intro hc
    refine T_bipush (v := -2) dX6_swapped_20 (by decide +kernel) ?_
    refine T_iret rfl dX6_swapped_22 ?_
    rw [r_swapped, if_pos hc]
    exact XP.rf hX
  refine Kc.ofT [some (.ref 0), some (.int o)] pn_X6 (Nat.le_of_ble_eq_true rfl) rfl ?_
  refine T_il1 dX6_swapped_0 ?_
  refine T_iconst (v := -1) dX6_swapped_1 rfl ?_
  refine T_icmp_eq 23 dX6_swapped_2 (by decide) (fun h1 => ?_) (fun h1 => ?_)
  · exact key (fun z => z.1 h1)
  · refine T_il1 dX6_swapped_5 ?_
    refine T_if_lt 20 dX6_swapped_6 (by decide) (fun h2 => ?_) (fun h2 => ?_)
    · exact no ⟨h1, decide_eq_false (fun z => z.1 h2)⟩
    · refine T_il1 dX6_swapped_9 ?_
      refine T_al0 dX6_swapped_10 ?_
      refine T_g6 gX6_19 (cell_0 _ _) rfl dX6_swapped_11 ?_
      refine T_g4 gX6_133 (by first | assumption | decide) (cell_T _ _ (by first | assumption | decide)) rfl dX6_swapped_14 ?_
      rw [e1]
      refine T_icmp_lt 23 dX6_swapped_17 (by decide) (fun h3 => ?_) (fun h3 => ?_)
      · exact key (fun z => by rw [show knB (aM a) o = true from decide_eq_true ⟨h2, h3⟩] at z; cases z.2)
      · exact no ⟨h1, decide_eq_false (fun z => h3 z.2)⟩
