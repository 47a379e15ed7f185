/-! THE REFERENCE: loom -/
def stS (te : TeS) : Nat → List Int32 → List Int32 := fun t l => ((((l.set (0 + t) ((tCo te).getD t 0)).set (8 + t) (nI 0)).set (16 + t) (-1)).set (24 + t) ((tOv te).getD t 0)).set (32 + t) ((tKn te).getD t 0)
def toS (te : TeS) : Nat → List Int32 → List Int32 := fun t l => ((l.set t ((tCo te).getD t 0)).set (8 + t) ((tOv te).getD t 0)).set (16 + t) ((tKn te).getD t 0)
def stV (te : TeS) (j : Nat) : Int32 := if j < 8 then (tCo te).getD j 0 else if j < 16 then nI 0 else if j < 24 then -1 else if j < 32 then (tOv te).getD (j - 24) 0 else (tKn te).getD (j - 32) 0
def toV (te : TeS) (j : Nat) : Int32 := if j < 8 then (tCo te).getD j 0 else if j < 16 then (tOv te).getD (j - 8) 0 else (tKn te).getD (j - 16) 0
theorem stS_st (te : TeS) : ∀ t l, t < 8 → l.length = 42 → (stS te t l).length = 42 ∧ ∀ j, j < 42 → (stS te t l).getD j 0 = if (if j < 40 then j % 8 else 99) = t then stV te j else l.getD j 0 := by
  intro t l ht hl
  refine ⟨by rw [stS, List.length_set, List.length_set, List.length_set, List.length_set, List.length_set]; exact hl, fun j hj => ?_⟩
  rw [stS]
  by_cases e4 : j = 32 + t
  · subst e4
    rw [getD_set_eq (by simp only [List.length_set]; omega), if_pos (by rw [if_pos (by omega)]; omega), stV, if_neg (by omega), if_neg (by omega), if_neg (by omega), if_neg (by omega), show 32 + t - 32 = t by omega]
  rw [getD_set_ne (fun z => e4 z.symm)]
  by_cases e3 : j = 24 + t
  · subst e3
    rw [getD_set_eq (by simp only [List.length_set]; omega), if_pos (by rw [if_pos (by omega)]; omega), stV, if_neg (by omega), if_neg (by omega), if_neg (by omega), if_pos (by omega), show 24 + t - 24 = t by omega]
  rw [getD_set_ne (fun z => e3 z.symm)]
  by_cases e2 : j = 16 + t
  · subst e2
    rw [getD_set_eq (by simp only [List.length_set]; omega), if_pos (by rw [if_pos (by omega)]; omega), stV, if_neg (by omega), if_neg (by omega), if_pos (by omega)]
  rw [getD_set_ne (fun z => e2 z.symm)]
  by_cases e1 : j = 8 + t
  · subst e1
    rw [getD_set_eq (by simp only [List.length_set]; omega), if_pos (by rw [if_pos (by omega)]; omega), stV, if_neg (by omega), if_pos (by omega)]
  rw [getD_set_ne (fun z => e1 z.symm)]
  by_cases e0 : j = 0 + t
  · subst e0
    rw [getD_set_eq (by omega), if_pos (by rw [if_pos (by omega)]; omega), stV, if_pos (by omega), Nat.zero_add]
  rw [getD_set_ne (fun z => e0 z.symm), if_neg]
  split <;> omega
theorem toS_st (te : TeS) : ∀ t l, t < 8 → l.length = 24 → (toS te t l).length = 24 ∧ ∀ j, j < 24 → (toS te t l).getD j 0 = if j % 8 = t then toV te j else l.getD j 0 := by
  intro t l ht hl
  refine ⟨by rw [toS, List.length_set, List.length_set, List.length_set]; exact hl, fun j hj => ?_⟩
  rw [toS]
  by_cases e2 : j = 16 + t
  · subst e2
    rw [getD_set_eq (by simp only [List.length_set]; omega), if_pos (by omega), toV, if_neg (by omega), if_neg (by omega), show 16 + t - 16 = t by omega]
  rw [getD_set_ne (fun z => e2 z.symm)]
  by_cases e1 : j = 8 + t
  · subst e1
    rw [getD_set_eq (by simp only [List.length_set]; omega), if_pos (by omega), toV, if_neg (by omega), if_pos (by omega), show 8 + t - 8 = t by omega]
  rw [getD_set_ne (fun z => e1 z.symm)]
  by_cases e0 : j = t
  · subst e0
    rw [getD_set_eq (by omega), if_pos (by omega), toV, if_pos (by omega)]
  rw [getD_set_ne (fun z => e0 z.symm), if_neg (by omega)]
theorem toS_8 {te : TeS} (b3 : (tCo te).length = 8) (b4 : (tOv te).length = 8) (b5 : (tKn te).length = 8) {l : List Int32} (hl : l.length = 24) : iter (toS te) 8 0 l = tCo te ++ (tOv te ++ tKn te) := by
  obtain ⟨h1, h2⟩ := own_at (toS_st te) 8 0 l (by omega) hl
  refine getD_ext (by rw [h1, List.length_append, List.length_append, b3, b4, b5]) (fun j hj => ?_)
  rw [h1] at hj
  rw [h2 j hj, if_pos (by omega), toV]
  by_cases q1 : j < 8
  · rw [if_pos q1, getD_apl (by omega)]
  · rw [if_neg q1]
    by_cases q2 : j < 16
    · rw [if_pos q2]
      have e : j = (tCo te).length + (j - 8) := by omega
      conv => rhs; rw [e]
      rw [getD_app, getD_apl (by omega)]
    · rw [if_neg q2]
      have e : j = (tCo te).length + ((tOv te).length + (j - 16)) := by omega
      conv => rhs; rw [e]
      rw [getD_app, getD_app]
theorem stS_8 {te : TeS} (hT : TeI te) {l : List Int32} (hl : l.length = 42) : ((iter (stS te) 8 0 l).set 40 (nI 0)).set 41 (nI 0) = enc (tN te) (begL (tN te) (tCo te) (tOv te) (tKn te)) := by
  obtain ⟨⟨a1, a2⟩, ⟨b1, b2, b3, b4, b5, b6, b7⟩, -⟩ := id hT
  obtain ⟨h1, h2⟩ := own_at (stS_st te) 8 0 l (by omega) hl
  have at_ : ∀ j, j < 40 → (((iter (stS te) 8 0 l).set 40 (nI 0)).set 41 (nI 0)).getD j 0 = stV te j := fun j hj => by
    rw [getD_set_ne (by omega), getD_set_ne (by omega), h2 j (by omega), if_pos (by rw [if_pos hj]; omega)]
  refine enc_of (x := begL (tN te) (tCo te) (tOv te) (tKn te)) b3 rfl b4 b5 (by rw [List.length_set, List.length_set]; exact h1) (fun i hi => ?_) (fun i hi => ?_) (fun i hi => ?_) (fun i hi => ?_) (fun i hi => ?_) ?_ ?_
  · rw [at_ _ (by omega), stV, if_pos (by omega), Nat.zero_add]; rfl
  · rw [at_ _ (by omega), stV, if_neg (by omega), if_pos (by omega)]
    show nI 0 = if i < tN te then (if hasI (bitI (nI (tN te)) - nI 1) (nI i) = true then 0 else _) else 0
    have hp : 0 < 2 ^ tN te := Nat.two_pow_pos _
    by_cases q : i < tN te
    · rw [if_pos q, all_n _ (by omega), hasI_tb _ (pow_256 a1 (by omega)) i hi, Nat.testBit_two_pow_sub_one, decide_eq_true q, if_pos rfl]; exact nI_0
    · rw [if_neg q]; exact nI_0
  · rw [at_ _ (by omega), stV, if_neg (by omega), if_neg (by omega), if_pos (by omega)]
    show -1 = (List.replicate 8 (-1)).getD i 0
    rw [List.getD_eq_getElem?_getD, List.getElem?_replicate, if_pos hi]; rfl
  · rw [at_ _ (by omega), stV, if_neg (by omega), if_neg (by omega), if_neg (by omega), if_pos (by omega), show 24 + i - 24 = i by omega]; rfl
  · rw [at_ _ (by omega), stV, if_neg (by omega), if_neg (by omega), if_neg (by omega), if_neg (by omega), show 32 + i - 32 = i by omega]; rfl
  · rw [getD_set_ne (by omega), getD_set_eq (by rw [h1]; omega)]; rfl
  · rw [getD_set_eq (by rw [List.length_set, h1]; omega)]; rfl
abbrev LwS : Type := List Int32 × List Int32 × List Int32 × List Int32
def lwG (G : GT) (p : LwS) : GT := u1 (u1 (u1 (u1 G 90 p.1) 91 p.2.1) 95 p.2.2.1) 94 p.2.2.2
theorem lw_90 (G : GT) (p : LwS) : lwG G p 90 = p.1 := by rw [lwG, u1_n _ _ (by decide), u1_n _ _ (by decide), u1_n _ _ (by decide), u1_s]
theorem lw_91 (G : GT) (p : LwS) : lwG G p 91 = p.2.1 := by rw [lwG, u1_n _ _ (by decide), u1_n _ _ (by decide), u1_s]
theorem lw_95 (G : GT) (p : LwS) : lwG G p 95 = p.2.2.1 := by rw [lwG, u1_n _ _ (by decide), u1_s]
theorem lw_94 (G : GT) (p : LwS) : lwG G p 94 = p.2.2.2 := by rw [lwG, u1_s]
theorem lw_o (G : GT) (p : LwS) {c : Nat} (h0 : c ≠ 90) (h1 : c ≠ 91) (h5 : c ≠ 95) (h4 : c ≠ 94) : lwG G p c = G c := by rw [lwG, u1_n _ _ h4, u1_n _ _ h5, u1_n _ _ h1, u1_n _ _ h0]
theorem lw_u90 (G : GT) (p : LwS) (l : List Int32) : u1 (lwG G p) 90 l = lwG G (l, p.2) := by
  funext c; simp only [lwG, u1_at]; by_cases q : c = 90 <;> simp [q]
theorem lw_u91 (G : GT) (p : LwS) (l : List Int32) : u1 (lwG G p) 91 l = lwG G (p.1, l, p.2.2) := by
  funext c; simp only [lwG, u1_at]; by_cases q : c = 91 <;> simp [q]
theorem lw_u95 (G : GT) (p : LwS) (l : List Int32) : u1 (lwG G p) 95 l = lwG G (p.1, p.2.1, l, p.2.2.2) := by
  funext c; simp only [lwG, u1_at]; by_cases q : c = 95 <;> simp [q]
theorem lw_u94 (G : GT) (p : LwS) (l : List Int32) : u1 (lwG G p) 94 l = lwG G (p.1, p.2.1, p.2.2.1, l) := by
  funext c; simp only [lwG, u1_at]; by_cases q : c = 94 <;> simp [q]
def lwS (te : TeS) : Nat → LwS → LwS := fun t p => (updR 0 (fun k => (tKd te).getD k 0) t p.1, updR 0 (fun k => (tLn te).getD k 0) t p.2.1, stS te t p.2.2.1, toS te t p.2.2.2)
theorem lwS_it (te : TeS) : ∀ n k p, iter (lwS te) n k p = (iter (updR 0 (fun k => (tKd te).getD k 0)) n k p.1, iter (updR 0 (fun k => (tLn te).getD k 0)) n k p.2.1, iter (stS te) n k p.2.2.1, iter (toS te) n k p.2.2.2) := by
  intro n
  induction n with
  | zero => intro k p; rfl
  | succ n ih => intro k p; rw [iter, ih]; rfl
theorem m_loom (d : Nat) (hd : 20 ≤ d) (F : FT) (G : GT) (a : AS) (hM : MR a F G) (hI : InvA a) : Kc DX7_loom d [.ref 89] F G (MP (s_loom a) F G) := by
  refine Kc.len (fun hlen => ?_)
  obtain ⟨-, -, ⟨-, g96⟩, -, k1, -⟩ := id hM
  refine Kc.ofT [some (.ref 89), none] pn_X7 (Nat.le_of_ble_eq_true rfl) rfl ?_
  refine T_al0 dX7_loom_0 ?_
  refine T_cV0 lX7_163 rfl (by decide) (cell_89 _ _) (m_readText _ (by omega) F G a hM hI) (by omega) (Nat.le_of_ble_eq_true rfl) dX7_loom_1 (fun v F' G' hP => ?_)
  obtain ⟨rfl, pl, tk, vl, bg, cl, rfl, rfl, h1, h2⟩ := hP
  rw [s_loom]
  have hT : TeI (ffA a).2.2 := TeI.ff _ _ _ _ hI.1
  refine T_bne 10 dX7_loom_4 (by decide) (fun h3 => ?_) (fun h3 => ?_)
  · have h3 := of_decide_eq_true h3
    rw [if_pos h3]
    have hcl := h1 h3
    subst hcl
    generalize (ffA a).2.2 = te at hT ⊢
    generalize (ffA a).2.1 = cl
    obtain ⟨⟨a1, a2⟩, ⟨b1, b2, b3, b4, b5, b6, b7⟩, hok, hz, -⟩ := id hT
    have eN : tN te = te.1 := rfl
    refine T_al0 dX7_loom_10 ?_
    refine T_iconst (v := nI 0) dX7_loom_11 rfl ?_
    refine T_put7_9 pX7_84 dX7_loom_12 ?_
    refine T_al0 dX7_loom_15 ?_
    refine T_al0 dX7_loom_16 ?_
    refine T_g7 gX7_128 (cell_89 _ _) rfl dX7_loom_17 ?_
    rw [u2_f _ _ (by decide), q14]
    refine T_put7_2 pX7_74 dX7_loom_20 ?_
    refine T_al0 dX7_loom_23 ?_
    refine T_al0 dX7_loom_24 ?_
    refine T_g7 gX7_135 (cell_89 _ _) rfl dX7_loom_25 ?_
    rw [u2_f _ _ (by decide), u2_f _ _ (by decide), q18]
    refine T_put7_5 pX7_156 dX7_loom_28 ?_
    generalize hF2 : u2 (u2 (u2 (qF F pl tk vl bg cl te) 89 9 (nI 0)) 89 2 (nI te.1)) 89 5 (nI te.2.1) = F2
    have f2 : F2 89 2 = nI te.1 := by rw [← hF2, u2_f _ _ (by decide), u2_s]
    have f5 : F2 89 5 = nI te.2.1 := by rw [← hF2, u2_s]
    have f9 : F2 89 9 = nI 0 := by rw [← hF2, u2_f _ _ (by decide), u2_f _ _ (by decide), u2_s]
    have f21 : F2 89 21 = nI cl := by rw [← hF2, u2_f _ _ (by decide), u2_f _ _ (by decide), u2_f _ _ (by decide), q21]
    have fX : FrX F G F2 (qG G te) := by rw [← hF2]; exact (FrX.q pl tk vl bg cl te).u2.u2.u2
    refine T_iconst (v := nI 0) dX7_loom_31 rfl ?_
    refine T_is1 dX7_loom_32 rfl ?_
    have e1 : qG G te = lwG (qG G te) (qG G te 90, qG G te 91, qG G te 95, qG G te 94) := by
      rw [lwG, u1_id, u1_id, u1_id, u1_id]
    have r90 : qG G te 90 = G 90 := qG_o _ _ (by decide)
    have r91 : qG G te 91 = G 91 := qG_o _ _ (by decide)
    have r95 : qG G te 95 = G 95 := qG_o _ _ (by decide)
    have r94 : qG G te 94 = G 94 := qG_o _ _ (by decide)
    refine T_G e1 ?_
    rw [r90, r91, r95, r94]
    refine for_inv (lwS te) 8 (fun t p => T DX7_loom d 33 [some (.ref 89), some (.int (nI t))] [] F2 (lwG (qG G te) p) _) (fun _ p => p.2.2.1.length = 42) (fun t p ht hp => (stS_st te t p.2.2.1 ht hp).1) ?_ 8 0 (G 90, G 91, G 95, G 94) rfl (hlen 95) ?_
    · intro t p ht hp h
      have l97 : ∀ p, lwG (qG G te) p 97 = rtL te := fun p => by rw [lw_o _ _ (by decide) (by decide) (by decide) (by decide), qG_97]
      have l98 : ∀ p, lwG (qG G te) p 98 = tOv te := fun p => by rw [lw_o _ _ (by decide) (by decide) (by decide) (by decide), qG_98]
      have l99 : ∀ p, lwG (qG G te) p 99 = tKn te := fun p => by rw [lw_o _ _ (by decide) (by decide) (by decide) (by decide), qG_99]
      obtain ⟨q1, q2⟩ := stS_st te t p.2.2.1 ht hp
      have q0 : (stS te t p.2.2.1).getD (0 + t) 0 = (tCo te).getD t 0 := by rw [q2 _ (by omega), if_pos (by rw [if_pos (by omega)]; omega), stV, if_pos (by omega), Nat.zero_add]
      have q24 : (stS te t p.2.2.1).getD (24 + t) 0 = (tOv te).getD t 0 := by rw [q2 _ (by omega), if_pos (by rw [if_pos (by omega)]; omega), stV, if_neg (by omega), if_neg (by omega), if_neg (by omega), if_pos (by omega), show 24 + t - 24 = t by omega]
      have q32 : (stS te t p.2.2.1).getD (32 + t) 0 = (tKn te).getD t 0 := by rw [q2 _ (by omega), if_pos (by rw [if_pos (by omega)]; omega), stV, if_neg (by omega), if_neg (by omega), if_neg (by omega), if_neg (by omega), show 32 + t - 32 = t by omega]
      rw [lwS, updR, updR, Nat.zero_add] at h
      refine T_il1 dX7_loom_33 ?_
      refine T_bipush (v := nI 8) dX7_loom_34 (by decide +kernel) ?_
      refine T_nge_f 217 dX7_loom_36 (by decide) (by omega) (by omega) (by omega) ?_
      refine T_al0 dX7_loom_39 ?_
      refine T_g7 gX7_7 (cell_89 _ _) rfl dX7_loom_40 ?_
      refine T_il1 dX7_loom_43 ?_
      refine T_al0 dX7_loom_44 ?_
      refine T_g7 gX7_31 (cell_89 _ _) rfl dX7_loom_45 ?_
      refine T_iconst (v := nI 3) dX7_loom_48 rfl ?_
      refine T_il1 dX7_loom_49 ?_
      first | refine T_imulN dX7_loom_50 ?_ | refine T_imul dX7_loom_50 ?_
      refine T_aldN rfl (show _ < 24 by omega) dX7_loom_51 ?_
      rw [l97, rtL_0 te ht]
      refine T_astN (a := 90) rfl (show t < 8 by omega) dX7_loom_52 ?_
      rw [lw_90, lw_u90]
      refine T_al0 dX7_loom_53 ?_
      refine T_g7 gX7_13 (cell_89 _ _) rfl dX7_loom_54 ?_
      refine T_il1 dX7_loom_57 ?_
      refine T_al0 dX7_loom_58 ?_
      refine T_g7 gX7_31 (cell_89 _ _) rfl dX7_loom_59 ?_
      refine T_iconst (v := nI 3) dX7_loom_62 rfl ?_
      refine T_il1 dX7_loom_63 ?_
      first | refine T_imulN dX7_loom_64 ?_ | refine T_imul dX7_loom_64 ?_
      refine T_iconst (v := nI 1) dX7_loom_65 rfl ?_
      first | refine T_iaddN dX7_loom_66 ?_ | refine T_iadd dX7_loom_66 ?_
      refine T_aldN rfl (show _ < 24 by omega) dX7_loom_67 ?_
      rw [l97, rtL_1 te ht]
      refine T_astN (a := 91) rfl (show t < 8 by omega) dX7_loom_68 ?_
      rw [lw_91, lw_u91]
      refine T_al0 dX7_loom_69 ?_
      refine T_g7 gX7_25 (cell_89 _ _) rfl dX7_loom_70 ?_
      refine T_iconst (v := nI 0) dX7_loom_73 rfl ?_
      refine T_il1 dX7_loom_74 ?_
      first | refine T_iaddN dX7_loom_75 ?_ | refine T_iadd dX7_loom_75 ?_
      refine T_al0 dX7_loom_76 ?_
      refine T_g7 gX7_31 (cell_89 _ _) rfl dX7_loom_77 ?_
      refine T_iconst (v := nI 3) dX7_loom_80 rfl ?_
      refine T_il1 dX7_loom_81 ?_
      first | refine T_imulN dX7_loom_82 ?_ | refine T_imul dX7_loom_82 ?_
      refine T_iconst (v := nI 2) dX7_loom_83 rfl ?_
      first | refine T_iaddN dX7_loom_84 ?_ | refine T_iadd dX7_loom_84 ?_
      refine T_aldN rfl (show _ < 24 by omega) dX7_loom_85 ?_
      rw [l97, rtL_2 te ht]
      refine T_astN (a := 95) rfl (show 0 + t < 42 by omega) dX7_loom_86 ?_
      rw [lw_95, lw_u95]
      refine T_al0 dX7_loom_87 ?_
      refine T_g7 gX7_25 (cell_89 _ _) rfl dX7_loom_88 ?_
      refine T_bipush (v := nI 8) dX7_loom_91 (by decide +kernel) ?_
      refine T_il1 dX7_loom_93 ?_
      first | refine T_iaddN dX7_loom_94 ?_ | refine T_iadd dX7_loom_94 ?_
      refine T_iconst (v := nI 0) dX7_loom_95 rfl ?_
      refine T_astN (a := 95) rfl (show 8 + t < 42 by omega) dX7_loom_96 ?_
      rw [lw_95, lw_u95]
      refine T_al0 dX7_loom_97 ?_
      refine T_g7 gX7_25 (cell_89 _ _) rfl dX7_loom_98 ?_
      refine T_bipush (v := nI 16) dX7_loom_101 (by decide +kernel) ?_
      refine T_il1 dX7_loom_103 ?_
      first | refine T_iaddN dX7_loom_104 ?_ | refine T_iadd dX7_loom_104 ?_
      refine T_iconst (v := -1) dX7_loom_105 rfl ?_
      refine T_astN (a := 95) rfl (show 16 + t < 42 by omega) dX7_loom_106 ?_
      rw [lw_95, lw_u95]
      dsimp only
      have tail : T DX7_loom d 161 [some (.ref 89), some (.int (nI t))] [] F2 (lwG (qG G te) (p.1.set t ((tKd te).getD t 0), p.2.1.set t ((tLn te).getD t 0), stS te t p.2.2.1, p.2.2.2)) (MP (nI cl, (aTx a, 0), te, begL (tN te) (tCo te) (tOv te) (tKn te), [], none, none) F G) := by
        refine T_al0 dX7_loom_161 ?_
        refine T_g7 gX7_22 (cell_89 _ _) rfl dX7_loom_162 ?_
        refine T_il1 dX7_loom_165 ?_
        refine T_al0 dX7_loom_166 ?_
        refine T_g7 gX7_25 (cell_89 _ _) rfl dX7_loom_167 ?_
        refine T_iconst (v := nI 0) dX7_loom_170 rfl ?_
        refine T_il1 dX7_loom_171 ?_
        first | refine T_iaddN dX7_loom_172 ?_ | refine T_iadd dX7_loom_172 ?_
        refine T_aldN rfl (show _ < 42 by omega) dX7_loom_173 ?_
        rw [lw_95, q0]
        refine T_astN (a := 94) rfl (show t < 24 by omega) dX7_loom_174 ?_
        rw [lw_94, lw_u94]
        refine T_al0 dX7_loom_175 ?_
        refine T_g7 gX7_22 (cell_89 _ _) rfl dX7_loom_176 ?_
        refine T_bipush (v := nI 8) dX7_loom_179 (by decide +kernel) ?_
        refine T_il1 dX7_loom_181 ?_
        first | refine T_iaddN dX7_loom_182 ?_ | refine T_iadd dX7_loom_182 ?_
        refine T_al0 dX7_loom_183 ?_
        refine T_g7 gX7_25 (cell_89 _ _) rfl dX7_loom_184 ?_
        refine T_bipush (v := nI 24) dX7_loom_187 (by decide +kernel) ?_
        refine T_il1 dX7_loom_189 ?_
        first | refine T_iaddN dX7_loom_190 ?_ | refine T_iadd dX7_loom_190 ?_
        refine T_aldN rfl (show _ < 42 by omega) dX7_loom_191 ?_
        rw [lw_95, q24]
        refine T_astN (a := 94) rfl (show 8 + t < 24 by omega) dX7_loom_192 ?_
        rw [lw_94, lw_u94]
        refine T_al0 dX7_loom_193 ?_
        refine T_g7 gX7_22 (cell_89 _ _) rfl dX7_loom_194 ?_
        refine T_bipush (v := nI 16) dX7_loom_197 (by decide +kernel) ?_
        refine T_il1 dX7_loom_199 ?_
        first | refine T_iaddN dX7_loom_200 ?_ | refine T_iadd dX7_loom_200 ?_
        refine T_al0 dX7_loom_201 ?_
        refine T_g7 gX7_25 (cell_89 _ _) rfl dX7_loom_202 ?_
        refine T_bipush (v := nI 32) dX7_loom_205 (by decide +kernel) ?_
        refine T_il1 dX7_loom_207 ?_
        first | refine T_iaddN dX7_loom_208 ?_ | refine T_iadd dX7_loom_208 ?_
        refine T_aldN rfl (show _ < 42 by omega) dX7_loom_209 ?_
        rw [lw_95, q32]
        refine T_astN (a := 94) rfl (show 16 + t < 24 by omega) dX7_loom_210 ?_
        rw [lw_94, lw_u94]
        refine T_ii1 dX7_loom_211 (by first | exact nI_inc _ | exact nI_dec _ | rfl) rfl ?_
        refine T_goto 33 dX7_loom_214 (by decide) ?_
        exact h
      by_cases hq : t < te.1
      · refine T_al0 dX7_loom_107 ?_
        refine T_g7 gX7_25 (cell_89 _ _) rfl dX7_loom_108 ?_
        refine T_bipush (v := nI 24) dX7_loom_111 (by decide +kernel) ?_
        refine T_il1 dX7_loom_113 ?_
        first | refine T_iaddN dX7_loom_114 ?_ | refine T_iadd dX7_loom_114 ?_
        refine T_il1 dX7_loom_115 ?_
        refine T_al0 dX7_loom_116 ?_
        refine T_g7 gX7_74 (cell_89 _ _) rfl dX7_loom_117 ?_
        rw [f2]
        refine T_nge_f 132 dX7_loom_120 (by decide) (by omega) (by omega) (by omega) ?_
        refine T_al0 dX7_loom_123 ?_
        refine T_g7 gX7_34 (cell_89 _ _) rfl dX7_loom_124 ?_
        refine T_il1 dX7_loom_127 ?_
        refine T_aldN rfl (show _ < 8 by omega) dX7_loom_128 ?_
        refine T_goto 133 dX7_loom_129 (by decide) ?_
        rw [l98]
        refine T_astN (a := 95) rfl (show 24 + t < 42 by omega) dX7_loom_133 ?_
        rw [lw_95, lw_u95]
        refine T_al0 dX7_loom_134 ?_
        refine T_g7 gX7_25 (cell_89 _ _) rfl dX7_loom_135 ?_
        refine T_bipush (v := nI 32) dX7_loom_138 (by decide +kernel) ?_
        refine T_il1 dX7_loom_140 ?_
        first | refine T_iaddN dX7_loom_141 ?_ | refine T_iadd dX7_loom_141 ?_
        refine T_il1 dX7_loom_142 ?_
        refine T_al0 dX7_loom_143 ?_
        refine T_g7 gX7_74 (cell_89 _ _) rfl dX7_loom_144 ?_
        rw [f2]
        refine T_nge_f 159 dX7_loom_147 (by decide) (by omega) (by omega) (by omega) ?_
        refine T_al0 dX7_loom_150 ?_
        refine T_g7 gX7_37 (cell_89 _ _) rfl dX7_loom_151 ?_
        refine T_il1 dX7_loom_154 ?_
        refine T_aldN rfl (show _ < 8 by omega) dX7_loom_155 ?_
        refine T_goto 160 dX7_loom_156 (by decide) ?_
        rw [l99]
        refine T_astN (a := 95) rfl (show 32 + t < 42 by omega) dX7_loom_160 ?_
        rw [lw_95, lw_u95]
        exact tail
      · obtain ⟨z1, z2⟩ := hz t (by omega) ht
        refine T_al0 dX7_loom_107 ?_
        refine T_g7 gX7_25 (cell_89 _ _) rfl dX7_loom_108 ?_
        refine T_bipush (v := nI 24) dX7_loom_111 (by decide +kernel) ?_
        refine T_il1 dX7_loom_113 ?_
        first | refine T_iaddN dX7_loom_114 ?_ | refine T_iadd dX7_loom_114 ?_
        refine T_il1 dX7_loom_115 ?_
        refine T_al0 dX7_loom_116 ?_
        refine T_g7 gX7_74 (cell_89 _ _) rfl dX7_loom_117 ?_
        rw [f2]
        refine T_nge_t 132 dX7_loom_120 (by decide) (by omega) (by omega) (by omega) ?_
        refine T_iconst (v := (tOv te).getD t 0) dX7_loom_132 (by rw [z1]; rfl) ?_
        refine T_astN (a := 95) rfl (show 24 + t < 42 by omega) dX7_loom_133 ?_
        rw [lw_95, lw_u95]
        refine T_al0 dX7_loom_134 ?_
        refine T_g7 gX7_25 (cell_89 _ _) rfl dX7_loom_135 ?_
        refine T_bipush (v := nI 32) dX7_loom_138 (by decide +kernel) ?_
        refine T_il1 dX7_loom_140 ?_
        first | refine T_iaddN dX7_loom_141 ?_ | refine T_iadd dX7_loom_141 ?_
        refine T_il1 dX7_loom_142 ?_
        refine T_al0 dX7_loom_143 ?_
        refine T_g7 gX7_74 (cell_89 _ _) rfl dX7_loom_144 ?_
        rw [f2]
        refine T_nge_t 159 dX7_loom_147 (by decide) (by omega) (by omega) (by omega) ?_
        refine T_iconst (v := (tKn te).getD t 0) dX7_loom_159 (by rw [z2]; rfl) ?_
        refine T_astN (a := 95) rfl (show 32 + t < 42 by omega) dX7_loom_160 ?_
        rw [lw_95, lw_u95]
        exact tail
    · intro hp
      have h90 : iter (updR 0 (fun k => (tKd te).getD k 0)) 8 0 (G 90) = tKd te := updR_all rfl (hlen 90) b1 (fun _ _ => rfl)
      have h91 : iter (updR 0 (fun k => (tLn te).getD k 0)) 8 0 (G 91) = tLn te := updR_all rfl (hlen 91) b2 (fun _ _ => rfl)
      have h92 : iter (updR 0 (fun k => (tOt te).getD k 0)) 6 0 (G 92) = tOt te := updR_all rfl (hlen 92) b6 (fun _ _ => rfl)
      have h93 : iter (updR 0 (fun k => (tOd te).getD k 0)) 6 0 (G 93) = tOd te := updR_all rfl (hlen 93) b7 (fun _ _ => rfl)
      have hst := stS_8 hT (hlen 95)
      rw [lwS_it]
      dsimp only
      rw [h90, h91, toS_8 b3 b4 b5 (hlen 94)]
      generalize iter (stS te) 8 0 (G 95) = L at hst ⊢
      refine T_il1 dX7_loom_33 ?_
      refine T_bipush (v := nI 8) dX7_loom_34 (by decide +kernel) ?_
      refine T_nge_t 217 dX7_loom_36 (by decide) (by omega) (by omega) (by omega) ?_
      refine T_iconst (v := nI 0) dX7_loom_217 rfl ?_
      refine T_is1 dX7_loom_218 rfl ?_
      generalize hG2 : lwG (qG G te) (tKd te, tLn te, L, tCo te ++ (tOv te ++ tKn te)) = G2
      have k90 : G2 90 = tKd te := by rw [← hG2, lw_90]
      have k91 : G2 91 = tLn te := by rw [← hG2, lw_91]
      have k95 : G2 95 = L := by rw [← hG2, lw_95]
      have k94 : G2 94 = tCo te ++ (tOv te ++ tKn te) := by rw [← hG2, lw_94]
      have k100 : G2 100 = tOt te := by rw [← hG2, lw_o _ _ (by decide) (by decide) (by decide) (by decide), qG_100]
      have k101 : G2 101 = tOd te := by rw [← hG2, lw_o _ _ (by decide) (by decide) (by decide) (by decide), qG_101]
      have kO : ∀ c, c ≠ 90 → c ≠ 91 → c ≠ 95 → c ≠ 94 → (c < 97 ∨ 101 < c) → G2 c = G c := fun c c0 c1 c5 c4 cc => by rw [← hG2, lw_o _ _ c0 c1 c5 c4, qG_o _ _ cc]
      have e2 : G2 = u1 (u1 G2 92 (G2 92)) 93 (G2 93) := by rw [u1_id, u1_id]
      refine T_G e2 ?_
      rw [kO 92 (by decide) (by decide) (by decide) (by decide) (by decide), kO 93 (by decide) (by decide) (by decide) (by decide) (by decide)]
      refine for_up (fun t (p : List Int32 × List Int32) => (updR 0 (fun k => (tOt te).getD k 0) t p.1, updR 0 (fun k => (tOd te).getD k 0) t p.2)) 6 (fun t p => T DX7_loom d 219 [some (.ref 89), some (.int (nI t))] [] F2 (u1 (u1 G2 92 p.1) 93 p.2) _) ?_ 6 0 (G 92, G 93) rfl ?_
      · intro t p ht h
        rw [updR, updR, Nat.zero_add] at h
        refine T_il1 dX7_loom_219 ?_
        refine T_bipush (v := nI 6) dX7_loom_220 (by decide +kernel) ?_
        refine T_nge_f 255 dX7_loom_222 (by decide) (by omega) (by omega) (by omega) ?_
        refine T_al0 dX7_loom_225 ?_
        refine T_g7 gX7_16 (cell_89 _ _) rfl dX7_loom_226 ?_
        refine T_il1 dX7_loom_229 ?_
        refine T_al0 dX7_loom_230 ?_
        refine T_g7 gX7_40 (cell_89 _ _) rfl dX7_loom_231 ?_
        refine T_il1 dX7_loom_234 ?_
        refine T_aldN rfl (show _ < 6 by omega) dX7_loom_235 ?_
        rw [u1_n _ _ (by decide), u1_n _ _ (by decide), k100]
        refine T_astN (a := 92) rfl (show t < 6 by omega) dX7_loom_236 ?_
        rw [u1_n _ _ (show (92 : Nat) ≠ 93 by decide), u1_s]
        refine T_al0 dX7_loom_237 ?_
        refine T_g7 gX7_19 (cell_89 _ _) rfl dX7_loom_238 ?_
        refine T_il1 dX7_loom_241 ?_
        refine T_al0 dX7_loom_242 ?_
        refine T_g7 gX7_43 (cell_89 _ _) rfl dX7_loom_243 ?_
        refine T_il1 dX7_loom_246 ?_
        refine T_aldN rfl (show _ < 6 by omega) dX7_loom_247 ?_
        rw [u1_n _ _ (by decide), u1_n _ _ (by decide), u1_n _ _ (by decide), k101]
        refine T_astN (a := 93) rfl (show t < 6 by omega) dX7_loom_248 ?_
        rw [u1_n _ _ (show (93 : Nat) ≠ 92 by decide), u1_s]
        have e3 : ∀ (G : GT) (l m l' m' : List Int32), u1 (u1 (u1 (u1 G 92 l) 93 m) 92 l') 93 m' = u1 (u1 G 92 l') 93 m' := fun G l m l' m' => by
          funext c; simp only [u1_at]; by_cases q : c = 93
          · simp [q]
          · by_cases q2 : c = 92 <;> simp [q, q2]
        rw [e3]
        refine T_ii1 dX7_loom_249 (by first | exact nI_inc _ | exact nI_dec _ | rfl) rfl ?_
        refine T_goto 219 dX7_loom_252 (by decide) ?_
        exact h
      · rw [iter2]
        dsimp only
        rw [h92, h93]
        refine T_il1 dX7_loom_219 ?_
        refine T_bipush (v := nI 6) dX7_loom_220 (by decide +kernel) ?_
        refine T_nge_t 255 dX7_loom_222 (by decide) (by omega) (by omega) (by omega) ?_
        refine T_al0 dX7_loom_255 ?_
        refine T_g7 gX7_25 (cell_89 _ _) rfl dX7_loom_256 ?_
        refine T_bipush (v := nI 40) dX7_loom_259 (by decide +kernel) ?_
        refine T_iconst (v := nI 0) dX7_loom_261 rfl ?_
        refine T_astN (a := 95) rfl (show 40 < 42 by decide) dX7_loom_262 ?_
        rw [u1_n _ _ (show (95 : Nat) ≠ 93 by decide), u1_n _ _ (show (95 : Nat) ≠ 92 by decide), k95]
        refine T_al0 dX7_loom_263 ?_
        refine T_g7 gX7_25 (cell_89 _ _) rfl dX7_loom_264 ?_
        refine T_bipush (v := nI 41) dX7_loom_267 (by decide +kernel) ?_
        refine T_iconst (v := nI 0) dX7_loom_269 rfl ?_
        refine T_astN (a := 95) rfl (show 41 < 42 by decide) dX7_loom_270 ?_
        rw [u1_s, u1_u1, hst]
        refine T_al0 dX7_loom_271 ?_
        refine T_iconst (v := nI 0) dX7_loom_272 rfl ?_
        refine T_put7_23 pX7_166 dX7_loom_273 ?_
        refine T_al0 dX7_loom_276 ?_
        refine T_g7 gX7_55 (cell_89 _ _) rfl dX7_loom_277 ?_
        refine T_iconst (v := nI 0) dX7_loom_280 rfl ?_
        refine T_iconst (v := nI 0) dX7_loom_281 rfl ?_
        refine T_zast (show 0 < 2 by decide) rfl dX7_loom_282 ?_
        refine T_al0 dX7_loom_283 ?_
        refine T_g7 gX7_55 (cell_89 _ _) rfl dX7_loom_284 ?_
        refine T_iconst (v := nI 1) dX7_loom_287 rfl ?_
        refine T_iconst (v := nI 0) dX7_loom_288 rfl ?_
        refine T_zast (show 1 < 2 by decide) rfl dX7_loom_289 ?_
        have z5 : u1 (u1 (u1 G2 92 (tOt te)) 93 (tOd te)) 95 (enc (tN te) (begL (tN te) (tCo te) (tOv te) (tKn te))) 105 = [bI (aKept a).1.isSome, bI (aKept a).2.isSome] := by
          rw [u1_n _ _ (by decide), u1_n _ _ (by decide), u1_n _ _ (by decide), kO 105 (by decide) (by decide) (by decide) (by decide) (by decide), k1]
        rw [u1_s, u1_u1, z5]
        refine T_al0 dX7_loom_290 ?_
        refine T_g7 gX7_153 (cell_89 _ _) rfl dX7_loom_291 ?_
        rw [u2_f _ _ (by decide), f21]
        refine T_iret rfl dX7_loom_294 ?_
        refine ⟨rfl, ⟨⟨?_, ?_, ?_, ?_⟩, ⟨?_, ?_, ?_, ?_, ?_⟩, ⟨?_, ?_⟩, ⟨by show 0 ≤ 8; omega, fun j z hj => by cases hj⟩, ?_, (fun z hz => by cases hz), (fun z hz => by cases hz)⟩, ⟨fun c i hc => ?_, fun c hc => ?_⟩⟩
        · rw [u2_f _ _ (by decide)]; exact f2
        · rw [u2_f _ _ (by decide)]; exact f5
        · rw [u2_f _ _ (by decide)]; exact f9
        · rw [u2_s]; rfl
        · rw [u1_n _ _ (by decide), u1_n _ _ (by decide), u1_n _ _ (by decide), u1_n _ _ (by decide)]; exact k90
        · rw [u1_n _ _ (by decide), u1_n _ _ (by decide), u1_n _ _ (by decide), u1_n _ _ (by decide)]; exact k91
        · rw [u1_n _ _ (by decide), u1_n _ _ (by decide), u1_n _ _ (by decide), u1_s]
        · rw [u1_n _ _ (by decide), u1_n _ _ (by decide), u1_s]
        · rw [u1_n _ _ (by decide), u1_n _ _ (by decide), u1_n _ _ (by decide), u1_n _ _ (by decide)]; exact k94
        · rw [u1_n _ _ (by decide), u1_s]
        · rw [u1_n _ _ (by decide), u1_n _ _ (by decide), u1_n _ _ (by decide), u1_n _ _ (by decide), kO 96 (by decide) (by decide) (by decide) (by decide) (by decide)]; exact g96
        · rw [u1_s]
          show [nI 0, nI 0] = [bI false, bI false]
          rw [show bI false = nI 0 by decide +kernel]
        · rw [u2_c _ _ (by omega)]; exact fX.1 c i hc
        · rw [u1_n _ _ (by omega), u1_n _ _ (by omega), u1_n _ _ (by omega), u1_n _ _ (by omega), kO c (by omega) (by omega) (by omega) (by omega) (by omega)]
  · have h3 := of_decide_eq_false h3
    rw [if_neg h3]
    refine T_bipush (v := -4) dX7_loom_7 (by decide +kernel) ?_
    refine T_iret rfl dX7_loom_9 ?_
    exact ⟨rfl, hM.q _ _ _ _ _ _, FrX.q _ _ _ _ _ _⟩
