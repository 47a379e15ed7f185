/-! SWAPPED: the reference -/
theorem in_m1 {m : Nat} (hm : m ≤ 8) (o : Int32) : inL o.toInt64 (-1) (nI m - nI 1).toInt64 = decide (o = -1 ∨ knB m o = true) := by
  rw [show (-1 : Int64) = (-1 : Int32).toInt64 by decide +kernel, in_I]
  apply decide_eq_decide.mpr
  have hm1 : ∀ m, m < 9 → (-1 : Int32) ≤ nI m - nI 1 := by decide +kernel
  by_cases h0 : o < 0
  · have hk : ¬ knB m o = true := fun z => (of_decide_eq_true z).1 h0
    constructor
    · intro ⟨h1, _⟩
      left
      apply Int32.toInt_inj.mp
      have a1 := Int32.le_iff_toInt_le.mp h1
      have a2 := Int32.lt_iff_toInt_lt.mp h0
      have e1 : (-1 : Int32).toInt = -1 := by decide +kernel
      have e2 : (0 : Int32).toInt = 0 := by decide +kernel
      rw [e1] at a1
      rw [e2] at a2
      rw [e1]
      omega
    · intro h
      have h := h.resolve_right hk
      subst h
      exact ⟨Int32.le_refl _, hm1 m (by omega)⟩
  · have hne : ¬ o = -1 := fun e => by subst e; exact h0 (by decide)
    have := in_kn hm o
    rw [show (0 : Int64) = (0 : Int32).toInt64 by decide +kernel, in_I] at this
    have hle0 : (0 : Int32) ≤ o := Int32.not_lt.mp h0
    constructor
    · intro ⟨_, h2⟩
      right
      rw [← this]
      exact decide_eq_true ⟨hle0, h2⟩
    · intro h
      have h := h.resolve_left hne
      rw [← this] at h
      have h := of_decide_eq_true h
      exact ⟨Int32.le_trans (by decide) hle0, h.2⟩
def opS (a : AS) : Nat → List Int32 × Nat → List Int32 × Nat := fun o p => if opB a o = true then (p.1.set p.2 (nI o), p.2 + 1) else p
def OpI (a : AS) (i : Nat) (p : List Int32 × Nat) : Prop := p.1.length = 6 ∧ p.2 = (csU a i).length ∧ ∀ k, k < p.2 → p.1.getD k 0 = nI ((csU a i).getD k 0)
theorem opS_ok {a : AS} {i : Nat} (hi : i < 6) {p : List Int32 × Nat} (h : OpI a i p) : OpI a (i + 1) (opS a i p) := by
  obtain ⟨h1, h2, h3⟩ := h
  have hcl := csU_len a i
  rw [opS]
  by_cases ho : opB a i = true
  · rw [if_pos ho]
    refine ⟨by rw [List.length_set]; exact h1, by rw [csU_s, if_pos ho]; simp [h2], fun k hk => ?_⟩
    have hk : k < p.2 + 1 := hk
    rw [csU_s, if_pos ho]
    show (p.1.set p.2 (nI i)).getD k 0 = _
    by_cases e : p.2 = k
    · subst e
      rw [getD_set_eq (by omega), h2, nget_r]
    · rw [getD_set_ne e, h3 k (by omega), nget_l (by omega)]
  · rw [if_neg ho]
    refine ⟨h1, ?_, fun k hk => ?_⟩
    · rw [csU_s, if_neg ho]; exact h2
    · rw [csU_s, if_neg ho]; exact h3 k hk
def SoR (v : List Nat) (x y : Nat) : Prop := (∀ i j, i < x → i < j → j < v.length → v.getD i 0 ≤ v.getD j 0) ∧ ∀ j, x < j → j < y → v.getD x 0 ≤ v.getD j 0
theorem so_sw {v : List Nat} {x y : Nat} (hxy : x < y) (hy : y < v.length) (h : SoR v x y) (hlt : v.getD y 0 < v.getD x 0) : SoR (swL v x y) x (y + 1) := by
  obtain ⟨h1, h2⟩ := h
  refine ⟨fun i j hi hij hj => ?_, fun j hj1 hj2 => ?_⟩
  · rw [swL_len] at hj
    rw [swL_at (by omega) hy, swL_at (by omega) hy, if_neg (show ¬ i = y by omega), if_neg (show ¬ i = x by omega)]
    by_cases e1 : j = y
    · rw [if_pos e1]; exact h1 i x hi hi (by omega)
    · rw [if_neg e1]
      by_cases e2 : j = x
      · rw [if_pos e2]; exact h1 i y hi (by omega) hy
      · rw [if_neg e2]; exact h1 i j hi hij hj
  · rw [swL_at (by omega) hy, swL_at (by omega) hy, if_neg (show ¬ x = y by omega), if_pos (show x = x from rfl)]
    by_cases e1 : j = y
    · rw [if_pos e1]; omega
    · rw [if_neg e1, if_neg (show ¬ j = x by omega)]
      have := h2 j hj1 (by omega)
      omega
theorem so_keep {v : List Nat} {x y : Nat} (h : SoR v x y) (hle : v.getD x 0 ≤ v.getD y 0) : SoR v x (y + 1) := by
  refine ⟨h.1, fun j hj1 hj2 => ?_⟩
  rcases Nat.lt_or_ge j y with e | e
  · exact h.2 j hj1 e
  · have : j = y := by omega
    subst this; exact hle
theorem so_up {v : List Nat} {x : Nat} (h : SoR v x v.length) : SoR v (x + 1) (x + 2) := by
  refine ⟨fun i j hi hij hj => ?_, fun j hj1 hj2 => absurd hj2 (by omega)⟩
  rcases Nat.lt_or_ge i x with e | e
  · exact h.1 i j e hij hj
  · have : i = x := by omega
    subst this; exact h.2 j hij hj
theorem LxN_asym {n : Nat} {v u : List Nat} (h : LxN n v u) : ¬ LxN n u v := by
  intro ⟨j, j1, j2, j3⟩
  obtain ⟨i, i1, i2, i3⟩ := h
  rcases Nat.lt_trichotomy i j with q | q | q
  · have := j2 i q; omega
  · subst q; omega
  · have := i2 j q; omega
theorem m_swapped (d : Nat) (hd : 20 ≤ d) (F : FT) (G : GT) (a : AS) (hM : MR a F G) (hI : InvA a) (r ds f : List Int32) (hr : r.length = 6) (hds : ds.length = 6) (z : Int32) : Kc DX7_swapped d [.ref 89, .int z] F G (MP (r_swapped a r ds f z, a) F G) := by
  refine Kc.len (fun hlen => ?_)
  obtain ⟨⟨e2, e5, e9, e23⟩, ⟨g90, g91, g92, g93, g94⟩, ⟨g95, g96⟩, hP0, hK⟩ := id hM
  have hn : aN a ≤ 8 := hI.1.1.1
  have hm : aM a ≤ 6 := hI.1.1.2
  obtain ⟨l1, l2, l3, l4⟩ := hI.2.2.1.1
  obtain ⟨⟨bR, bv, bB⟩, bl⟩ := deal_best hI r ds f hr hds
  have hcl := csU_len a (aM a)
  have hb7 : (aOd a).length = 6 := hI.1.2.1.2.2.2.2.2.2
  refine Kc.ofT [some (.ref 89), some (.int z), none, none, none, none, none, none] pn_X7 (Nat.le_of_ble_eq_true rfl) rfl ?_
  refine T_il1 dX7_swapped_0 ?_
  refine T_i2l dX7_swapped_1 ?_
  refine T_ldc2 kX7_227 dX7_swapped_2 ?_
  refine T_al0 dX7_swapped_5 ?_
  refine T_g7 gX7_156 (cell_89 _ _) rfl dX7_swapped_6 ?_
  rw [e5]
  refine T_iconst (v := nI 1) dX7_swapped_9 rfl ?_
  refine T_isub dX7_swapped_10 ?_
  refine T_i2l dX7_swapped_11 ?_
  refine T_pS3 lX7_78 (m_in _ _ _ _ _ _) (by omega) (Nat.le_of_ble_eq_true rfl) dX7_swapped_12 ?_
  rw [in_m1 (show aM a ≤ 8 by omega)]
  refine T_bne 21 dX7_swapped_15 (by decide) (fun h1 => ?_) (fun h1 => ?_)
  · have h1 := of_decide_eq_true h1
    have hz : ¬ (¬ z = -1 ∧ knB (aM a) z = false) := fun w => h1.elim w.1 (fun q => by rw [q] at w; cases w.2)
    refine T_al0 dX7_swapped_21 ?_
    refine T_cV0 lX7_211 rfl (by decide) (cell_89 _ _) (m_asTold _ F G) (by omega) (Nat.le_of_ble_eq_true rfl) dX7_swapped_22 (fun v F' G' hP => ?_)
    obtain ⟨rfl, rfl, rfl⟩ := hP
    rw [g93]
    refine T_iconst (v := nI 0) dX7_swapped_25 rfl ?_
    refine T_is2 dX7_swapped_26 rfl ?_
    refine T_iconst (v := nI 0) dX7_swapped_27 rfl ?_
    refine T_is3 dX7_swapped_28 rfl ?_
    have e1 : u1 G 104 (aOd a) = u1 (u1 G 104 (aOd a)) 108 (G 108) := by
      funext c; simp only [u1_at]; by_cases q : c = 108
      · subst q; rfl
      · rw [if_neg q]
    refine T_G e1 ?_
    refine for_inv (opS a) (aM a) (fun o p => T DX7_swapped d 29 [some (.ref 89), some (.int z), some (.int (nI p.2)), some (.int (nI o)), none, none, none, none] [] F' (u1 (u1 G 104 (aOd a)) 108 p.1) _) (fun o p => OpI a o p) (fun o p ho hp => opS_ok (by omega) hp) ?_ (aM a) 0 (G 108, 0) (by omega) ⟨hlen 108, rfl, fun k hk => absurd hk (by omega)⟩ ?_
    · intro o p ho hp h
      have hpl := csU_len a o
      have hp2 := hp.2.1
      refine T_il3 dX7_swapped_29 ?_
      refine T_al0 dX7_swapped_30 ?_
      refine T_g7 gX7_156 (cell_89 _ _) rfl dX7_swapped_31 ?_
      rw [e5]
      refine T_nge_f 69 dX7_swapped_34 (by decide) (by omega) (by omega) (by omega) ?_
      refine T_al0 dX7_swapped_37 ?_
      refine T_g7 gX7_19 (cell_89 _ _) rfl dX7_swapped_38 ?_
      refine T_il3 dX7_swapped_41 ?_
      refine T_aldN rfl (show _ < 6 by omega) dX7_swapped_42 ?_
      refine T_al0 dX7_swapped_43 ?_
      refine T_g7 gX7_25 (cell_89 _ _) rfl dX7_swapped_44 ?_
      refine T_bipush (v := nI 40) dX7_swapped_47 (by decide +kernel) ?_
      refine T_aldN rfl (show _ < 42 by omega) dX7_swapped_49 ?_
      rw [u1_n _ _ (show (93 : Nat) ≠ 108 by decide), u1_n _ _ (show (93 : Nat) ≠ 104 by decide), g93, u1_n _ _ (show (95 : Nat) ≠ 108 by decide), u1_n _ _ (show (95 : Nat) ≠ 104 by decide), g95, (enc_day l1 l2 l3 l4).1]
      rw [opS] at h
      refine T_icmp_lt 63 dX7_swapped_50 (by decide) (fun hq => ?_) (fun hq => ?_)
      · rw [if_neg (by rw [opB, decide_eq_true_eq]; exact fun w => w hq)] at h
        refine T_ii3 dX7_swapped_63 (by first | exact nI_inc _ | exact nI_dec _ | rfl) rfl ?_
        refine T_goto 29 dX7_swapped_66 (by decide) ?_
        exact h
      · rw [if_pos (show opB a o = true from decide_eq_true hq)] at h
        refine T_al0 dX7_swapped_53 ?_
        refine T_g7 gX7_65 (cell_89 _ _) rfl dX7_swapped_54 ?_
        refine T_il2 dX7_swapped_57 ?_
        refine T_il3 dX7_swapped_58 ?_
        refine T_astN (a := 108) rfl (show p.2 < 6 by omega) dX7_swapped_59 ?_
        rw [u1_s, u1_u1]
        refine T_ii2 dX7_swapped_60 (by first | exact nI_inc _ | exact nI_dec _ | rfl) rfl ?_
        refine T_ii3 dX7_swapped_63 (by first | exact nI_inc _ | exact nI_dec _ | rfl) rfl ?_
        refine T_goto 29 dX7_swapped_66 (by decide) ?_
        exact h
    · intro hp
      generalize iter (opS a) (aM a) 0 (G 108, 0) = p at hp ⊢
      obtain ⟨p1, p2, p3⟩ := hp
      have p2 : p.2 = (csO a).length := p2
      refine T_il3 dX7_swapped_29 ?_
      refine T_al0 dX7_swapped_30 ?_
      refine T_g7 gX7_156 (cell_89 _ _) rfl dX7_swapped_31 ?_
      rw [e5]
      refine T_nge_t 69 dX7_swapped_34 (by decide) (by omega) (by omega) (by omega) ?_
      refine T_iconst (v := nI 0) dX7_swapped_69 rfl ?_
      refine T_is3 dX7_swapped_70 rfl ?_
      rw [p2] at p3 ⊢
      have p3 : ∀ k, k < (csO a).length → p.1.getD k 0 = nI ((csO a).getD k 0) := p3
      have hcs6 : (csO a).length ≤ 6 := Nat.le_trans hcl hm
      have c6 : ∀ k, k < (csO a).length → (csO a).getD k 0 < 6 := fun k hk => by have := csO_mem (cs_mem a hk); omega
      have start : RwR a (aOd a) (vlR a (aOd a)) := by
        refine ⟨hb7, vl_len a _, fun k hk => ?_, fun x hx => ?_, fun o _ => rfl⟩
        · rw [vl_len] at hk
          rw [vl_at a _ hk]
          exact (hI.ods _ (csO_mem (cs_mem a hk))).1
        · obtain ⟨o, ho, eo⟩ := List.mem_map.mp hx
          rw [← eo]
          exact (hI.ods o (csO_mem ho)).2
      have fin : ∀ (F1 : FT) (G1 : GT) (B : List Int32) (x : Int32) (o2 o4 o5 o6 o7 : Option Value), IsB a (B, x) → B.length = 6 → MR a F1 G1 → FrX F' G F1 G1 → G1 109 = B → T DX7_swapped d 234 [some (.ref 89), some (.int z), o2, some (.int x), o4, o5, o6, o7] [] F1 G1 (MP (r_swapped a r ds f z, a) F' G) := by
        intro F1 G1 B x o2 o4 o5 o6 o7 hB hBl hM1 hX1 h109
        obtain ⟨u1', u2'⟩ := IsB_uni hB ⟨bR, bv, bB⟩ hBl bl
        rw [r_swapped, if_neg hz]
        rcases h1 with h1 | h1
        · subst h1
          refine T_il1 dX7_swapped_234 ?_
          refine T_if_ge_f 242 dX7_swapped_235 (by decide) m1_neg ?_
          refine T_il3 dX7_swapped_238 ?_
          refine T_goto 248 dX7_swapped_239 (by decide) ?_
          refine T_iret rfl dX7_swapped_248 ?_
          rw [if_pos rfl]
          exact ⟨by rw [← u1'], hM1, hX1⟩
        · have hne : ¬ z = -1 := fun e => by subst e; exact absurd (of_decide_eq_true h1).1 (by decide)
          obtain ⟨j, hj, rfl⟩ := knB_ok (show aM a ≤ 8 by omega) h1
          refine T_il1 dX7_swapped_234 ?_
          refine T_if_ge_t 242 dX7_swapped_235 (by decide) (nI_pos' (by omega)) ?_
          refine T_al0 dX7_swapped_242 ?_
          refine T_g7 gX7_68 (cell_89 _ _) rfl dX7_swapped_243 ?_
          refine T_il1 dX7_swapped_246 ?_
          refine T_aldN rfl (show _ < 6 by omega) dX7_swapped_247 ?_
          refine T_iret rfl dX7_swapped_248 ?_
          rw [if_neg hne, sv_nI (by omega), ← u2' j hj, h109]
          exact ⟨rfl, hM1, hX1⟩
      have loop : ∀ (N : Nat) (F1 : FT) (G1 : GT) (l B : List Int32) (v : List Nat) (x : Int32) (o5 o6 o7 : Option Value), 100 ^ 6 - cdL v ≤ N → RwR a l v → List.Perm v (vlR a (aOd a)) → PrR a l B x → MR a F1 G1 → FrX F' G F1 G1 → G1 104 = l → G1 108 = p.1 → G1 109 = B → B.length = 6 → T DX7_swapped d 147 [some (.ref 89), some (.int z), some (.int (nI (csO a).length)), some (.int x), some (.int (bI true)), o5, o6, o7] [] F1 G1 (MP (r_swapped a r ds f z, a) F' G) := by
        intro N
        induction N with
        | zero =>
          intro F1 G1 l B v x o5 o6 o7 hN hR hp hPr hM1 hX1 h104 h108 h109 hBl
          exfalso
          have h99 : ∀ y, y ∈ v → y ≤ 99 := hR.2.2.2.1
          have := cdL_lt v h99
          have hvl : v.length ≤ 6 := by rw [hR.2.1]; exact hcs6
          have := Nat.pow_le_pow_right (show 0 < 100 by decide) hvl
          omega
        | succ N ih =>
          intro F1 G1 l B v x o5 o6 o7 hN hR hp hPr hM1 hX1 h104 h108 h109 hBl
          have hvl : v.length = (csO a).length := hR.2.1
          have hRow : RowP a l := hR.row hp
          -- behind the weighing
          have step : ∀ (F2 : FT) (G2 : GT) (B1 : List Int32) (x1 : Int32) (o4 o5 o6 o7 : Option Value), BsR a l B1 x1 → MR a F2 G2 → FrX F' G F2 G2 → G2 104 = l → G2 108 = p.1 → G2 109 = B1 → o4 = some (.int (bI true)) → (∃ y5 y6 y7 : Int32, o5 = some (.int y5) ∧ o6 = some (.int y6) ∧ o7 = some (.int y7)) → T DX7_swapped d 224 [some (.ref 89), some (.int z), some (.int (nI (csO a).length)), some (.int x1), o4, o5, o6, o7] [] F2 G2 (MP (r_swapped a r ds f z, a) F' G) := by
            intro F2 G2 B1 x1 o4 o5 o6 o7 hBs hM2 hX2 k104 k108 k109 ho4 ⟨y5, y6, y7, ho5, ho6, ho7⟩
            subst ho4 ho5 ho6 ho7
            rw [← hvl]
            refine T_al0 dX7_swapped_224 ?_
            refine T_il2 dX7_swapped_225 ?_
            refine T_cV1 lX7_229 rfl (by decide) (cell_89 _ _) (m_nextRow _ (by omega) F2 G2 a hI v (by rw [k104]; exact hR) (fun k hk => by rw [k108]; exact p3 k (by omega))) (by omega) (Nat.le_of_ble_eq_true rfl) dX7_swapped_226 (fun v F' G' hP => ?_)
            obtain ⟨rfl, hP⟩ := hP
            rcases hP with ⟨rfl, rfl, hdn⟩ | ⟨rfl, k, j, l', ⟨q1, q2, q3, q4, q5, q6, q7⟩, rfl, hR'⟩
            · refine T_is4 dX7_swapped_229 rfl ?_
              refine T_goto 147 dX7_swapped_231 (by decide) ?_
              refine T_il4 dX7_swapped_147 ?_
              refine T_beq_t 234 dX7_swapped_149 (by decide) rfl ?_
              rw [hvl]
              have hdec : ∀ i j, i ≤ j → j < v.length → v.getD j 0 ≤ v.getD i 0 := by
                intro i j hij
                induction j with
                | zero => intro _; have : i = 0 := by omega
                          subst this; exact Nat.le_refl _
                | succ j ihj =>
                  intro hj
                  rcases Nat.eq_or_lt_of_le hij with e | e
                  · rw [e]; exact Nat.le_refl _
                  · exact Nat.le_trans (hdn j hj) (ihj (by omega) (by omega))
              refine fin _ _ B1 x1 _ _ _ _ _ ⟨hBs.2.2.1, hBs.1, fun g g1 g2 => hBs.2.2.2.2 g g1 g2 ?_⟩ hBs.2.1 hM2 hX2 k109
              have hno : ¬ LxR (aM a) l g := fun w => by
                rw [row_lx hRow g2, hR.vl, ← hvl] at w
                exact desc_max (g2.2.2.trans hp.symm) hdec w
              rcases Lx_tri g l (aM a) with w | w | w
              · exact Or.inl w
              · exact absurd w hno
              · exact Or.inr w
            · refine T_is4 dX7_swapped_229 rfl ?_
              refine T_goto 147 dX7_swapped_231 (by decide) ?_
              obtain ⟨n1, n2, n3, n4⟩ := nx_ok (by rw [hvl]; exact hcs6) q1 q2 q3 q4 q5 q6 q7
              have hp' := n2.trans hp
              have hRow' : RowP a l' := hR'.row hp'
              rw [hvl]
              have hcd := cdL_mono v (nxV v k j) n1.symm hR.2.2.2.1 n3
              have hcd2 := cdL_lt (nxV v k j) hR'.2.2.2.1
              have hpw := Nat.pow_le_pow_right (show 0 < 100 by decide) (show (nxV v k j).length ≤ 6 by rw [n1, hvl]; exact hcs6)
              refine ih _ _ l' B1 (nxV v k j) x1 _ _ _ (by omega) hR' hp' (bs_next hBs hRow hRow' ?_ (fun g g1 g2 g3 g4 => ?_)) hM2 (hX2.u1 (by decide)) (u1_s _ _ _) ?_ ?_ hBs.2.1
              · rw [row_lx hRow hRow', hR.vl, hR'.vl, ← hvl]
                exact n3
              · rw [row_lx hRow g2, hR.vl, ← hvl] at g3
                rw [row_lx g2 hRow', hR'.vl, ← hvl] at g4
                rcases n4 (vlR a g) (g2.2.2.trans hp.symm) g3 with w | w
                · exact LxN_asym w g4
                · rw [← w] at g4
                  exact LxN_asym g4 g4
              · rw [u1_n _ _ (by decide)]; exact k108
              · rw [u1_n _ _ (by decide)]; exact k109
          refine T_il4 dX7_swapped_147 ?_
          refine T_beq_f 234 dX7_swapped_149 (by decide) rfl ?_
          refine T_al0 dX7_swapped_152 ?_
          refine T_cV0 lX7_220 rfl (by decide) (cell_89 _ _) (m_doomBy _ (by omega) F1 G1 (aN a) (aM a) hn hm (aKd a) (aLn a) (aOt a) l (aNow a) (hM1.mc hI) hI.2.2.1 hI.1.2.2.2.2.1 hM1.1.2.1 hM1.2.1.2.2.1 h104 hI.ots) (by omega) (Nat.le_of_ble_eq_true rfl) dX7_swapped_153 (fun v F' G' hP => ?_)
          obtain ⟨rfl, rfl, hG⟩ := hP
          rw [doom_ls hI hR]
          generalize (iter (fun _ => dayU (aN a) (aM a) (aKd a) (aLn a) (aOt a) l) (100 - sv (lDay (aNow a))) 0 (nI 0, aNow a)).1 = dm
          have hM2 : MR a (u2 F1 89 29 dm) G' := by
            obtain ⟨⟨w2, w5, w9, w23⟩, ⟨v90, v91, v92, v93, v94⟩, ⟨v95, v96⟩, vP, vK⟩ := hM1
            exact ⟨⟨w2, w5, w9, w23⟩, ⟨by rw [hG 90 (by decide)]; exact v90, by rw [hG 91 (by decide)]; exact v91, by rw [hG 92 (by decide)]; exact v92, by rw [hG 93 (by decide)]; exact v93, by rw [hG 94 (by decide)]; exact v94⟩, ⟨by rw [hG 95 (by decide)]; exact v95, by rw [hG 96 (by decide)]; exact v96⟩, by rw [hG 102 (by decide)]; exact vP, by rw [hG 105 (by decide), hG 106 (by decide)]; exact vK⟩
          have hX2 : FrX F' G (u2 F1 89 29 dm) G' := ⟨fun c i hc => by rw [u2_c _ _ (by omega)]; exact hX1.1 c i hc, fun c hc => by rw [hG c (by omega)]; exact hX1.2 c hc⟩
          have k104 : G' 104 = l := by rw [hG 104 (by decide)]; exact h104
          have k108 : G' 108 = p.1 := by rw [hG 108 (by decide)]; exact h108
          have k109 : G' 109 = B := by rw [hG 109 (by decide)]; exact h109
          have f5 : u2 F1 89 29 dm 89 5 = nI (aM a) := hM2.1.2.1
          have better : (x < 0 ∨ lsP a l < x) → T DX7_swapped d 168 [some (.ref 89), some (.int z), some (.int (nI (csO a).length)), some (.int x), some (.int (bI true)), some (.int (lsP a l)), o6, o7] [] (u2 F1 89 29 dm) G' (MP (r_swapped a r ds f z, a) F' G) := by
            intro hb
            refine T_iconst (v := nI 1) dX7_swapped_168 rfl ?_
            refine T_goto 173 dX7_swapped_169 (by decide) ?_
            refine T_is6 dX7_swapped_173 rfl ?_
            refine T_il6 dX7_swapped_175 ?_
            refine T_if_eq_f 185 dX7_swapped_177 (by decide) (nI_ne0 (by decide) (by decide)) ?_
            refine T_il5 dX7_swapped_180 ?_
            refine T_goto 186 dX7_swapped_182 (by decide) ?_
            refine T_is3 dX7_swapped_186 rfl ?_
            refine T_iconst (v := nI 0) dX7_swapped_187 rfl ?_
            refine T_is7 dX7_swapped_188 rfl ?_
            refine T_G (u1_id G' 109).symm ?_
            rw [k109]
            refine for_up (updR 0 (fun k => l.getD k 0)) (aM a) (fun o b => T DX7_swapped d 190 [some (.ref 89), some (.int z), some (.int (nI (csO a).length)), some (.int (lsP a l)), some (.int (bI true)), some (.int (lsP a l)), some (.int (nI 1)), some (.int (nI o))] [] (u2 F1 89 29 dm) (u1 G' 109 b) _) ?_ (aM a) 0 B (by omega) ?_
            · intro o b ho h
              rw [updR, Nat.zero_add] at h
              refine T_il7 dX7_swapped_190 ?_
              refine T_al0 dX7_swapped_192 ?_
              refine T_g7 gX7_156 (cell_89 _ _) rfl dX7_swapped_193 ?_
              rw [f5]
              refine T_nge_f 224 dX7_swapped_196 (by decide) (by omega) (by omega) (by omega) ?_
              refine T_il6 dX7_swapped_199 ?_
              refine T_if_eq_f 224 dX7_swapped_201 (by decide) (nI_ne0 (by decide) (by decide)) ?_
              refine T_al0 dX7_swapped_204 ?_
              refine T_g7 gX7_68 (cell_89 _ _) rfl dX7_swapped_205 ?_
              refine T_il7 dX7_swapped_208 ?_
              refine T_al0 dX7_swapped_210 ?_
              refine T_g7 gX7_52 (cell_89 _ _) rfl dX7_swapped_211 ?_
              refine T_il7 dX7_swapped_214 ?_
              refine T_aldN rfl (show _ < 6 by omega) dX7_swapped_216 ?_
              rw [u1_n _ _ (show (104 : Nat) ≠ 109 by decide), k104]
              refine T_astN (a := 109) rfl (show o < 6 by omega) dX7_swapped_217 ?_
              rw [u1_s, u1_u1]
              refine T_ii7 dX7_swapped_218 (by first | exact nI_inc _ | exact nI_dec _ | rfl) rfl ?_
              refine T_goto 190 dX7_swapped_221 (by decide) ?_
              exact h
            · have hBl' : (iter (updR 0 (fun k => l.getD k 0)) (aM a) 0 B).length = 6 := by rw [updR_len]; exact hBl
              have hBj : ∀ j, j < aM a → (iter (updR 0 (fun k => l.getD k 0)) (aM a) 0 B).getD j 0 = l.getD j 0 := fun j hj => by
                have := updR_in 0 (fun k => l.getD k 0) (aM a) 0 B j (by omega) (by omega) (by omega)
                rw [Nat.zero_add] at this
                exact this
              generalize iter (updR 0 (fun k => l.getD k 0)) (aM a) 0 B = B1 at hBl' hBj ⊢
              refine T_il7 dX7_swapped_190 ?_
              refine T_al0 dX7_swapped_192 ?_
              refine T_g7 gX7_156 (cell_89 _ _) rfl dX7_swapped_193 ?_
              rw [f5]
              refine T_nge_t 224 dX7_swapped_196 (by decide) (by omega) (by omega) (by omega) ?_
              exact step _ _ B1 (lsP a l) _ _ _ _ (bs_new hI hPr hRow hBl' hBj hb) hM2 (hX2.u1 (by decide)) (by rw [u1_n _ _ (by decide)]; exact k104) (by rw [u1_n _ _ (by decide)]; exact k108) (u1_s _ _ _) rfl ⟨_, _, _, rfl, rfl, rfl⟩
          refine T_is5 dX7_swapped_156 rfl ?_
          refine T_il3 dX7_swapped_158 ?_
          refine T_if_lt 168 dX7_swapped_159 (by decide) (fun h5 => ?_) (fun h5 => ?_)
          · exact better (Or.inl h5)
          · refine T_il5 dX7_swapped_162 ?_
            refine T_il3 dX7_swapped_164 ?_
            refine T_icmp_ge 172 dX7_swapped_165 (by decide) (fun h6 => ?_) (fun h6 => ?_)
            · refine T_iconst (v := nI 0) dX7_swapped_172 rfl ?_
              refine T_is6 dX7_swapped_173 rfl ?_
              refine T_il6 dX7_swapped_175 ?_
              refine T_if_eq_t 185 dX7_swapped_177 (by decide) nI_0 ?_
              refine T_il3 dX7_swapped_185 ?_
              refine T_is3 dX7_swapped_186 rfl ?_
              refine T_iconst (v := nI 0) dX7_swapped_187 rfl ?_
              refine T_is7 dX7_swapped_188 rfl ?_
              have hBs := bs_old hPr h5 (Int32.not_lt.mpr h6)
              rcases Nat.eq_zero_or_pos (aM a) with q0 | q0
              · refine T_il7 dX7_swapped_190 ?_
                refine T_al0 dX7_swapped_192 ?_
                refine T_g7 gX7_156 (cell_89 _ _) rfl dX7_swapped_193 ?_
                rw [f5]
                refine T_nge_t 224 dX7_swapped_196 (by decide) (by omega) (by omega) (by omega) ?_
                exact step _ _ B x _ _ _ _ hBs hM2 hX2 k104 k108 k109 rfl ⟨_, _, _, rfl, rfl, rfl⟩
              · refine T_il7 dX7_swapped_190 ?_
                refine T_al0 dX7_swapped_192 ?_
                refine T_g7 gX7_156 (cell_89 _ _) rfl dX7_swapped_193 ?_
                rw [f5]
                refine T_nge_f 224 dX7_swapped_196 (by decide) (by omega) (by omega) (by omega) ?_
                refine T_il6 dX7_swapped_199 ?_
                refine T_if_eq_t 224 dX7_swapped_201 (by decide) nI_0 ?_
                exact step _ _ B x _ _ _ _ hBs hM2 hX2 k104 k108 k109 rfl ⟨_, _, _, rfl, rfl, rfl⟩
            · exact better (Or.inr (Int32.not_le.mp h6))
      have hML : ∀ l, MR a F' (u1 (u1 G 104 l) 108 p.1) := fun l => hM
      have hXL : ∀ l, FrX F' G F' (u1 (u1 G 104 l) 108 p.1) := fun l => (FrX.rf.u1 (by decide)).u1 (by decide)
      have main : ∀ (l : List Int32) (v : List Nat) (x4 : Option Value), RwR a l v → List.Perm v (vlR a (aOd a)) → (∀ i j, i ≤ j → j < v.length → v.getD i 0 ≤ v.getD j 0) → T DX7_swapped d 142 [some (.ref 89), some (.int z), some (.int (nI (csO a).length)), some (.int (nI (csO a).length)), x4, none, none, none] [] F' (u1 (u1 G 104 l) 108 p.1) (MP (r_swapped a r ds f z, a) F' G) := by
        intro l v x4 hR hp hs
        refine T_iconst (v := -1) dX7_swapped_142 rfl ?_
        refine T_is3 dX7_swapped_143 rfl ?_
        refine T_iconst (v := nI 1) dX7_swapped_144 rfl ?_
        refine T_is4 dX7_swapped_145 rfl ?_
        refine T_L (L' := [some (.ref 89), some (.int z), some (.int (nI (csO a).length)), some (.int (-1)), some (.int (bI true)), none, none, none]) (by rw [bI_1]) ?_
        have hRow := hR.row hp
        refine loop (100 ^ 6) _ _ l (G 109) v (-1) _ _ _ (by omega) hR hp (Or.inl ⟨rfl, fun g g1 g2 w => ?_⟩) (hML l) (hXL l) (by rw [u1_n _ _ (by decide), u1_s]) (u1_s _ _ _) (by rw [u1_n _ _ (by decide), u1_n _ _ (by decide)]) (hlen 109)
        rw [row_lx g2 hRow, hR.vl, ← hR.2.1] at w
        exact sorted_min (g2.2.2.trans hp.symm) hs w
      have c48 : ∀ l l' : List Int32, u1 (u1 (u1 G 104 l) 108 p.1) 104 l' = u1 (u1 G 104 l') 108 p.1 := fun l l' => by
        funext c; simp only [u1_at]; by_cases q : c = 104
        · simp [q]
        · by_cases q2 : c = 108 <;> simp [q, q2]
      suffices outer : ∀ (fu x : Nat) (l : List Int32) (v : List Nat) (x4 : Option Value), x + fu = (csO a).length → RwR a l v → List.Perm v (vlR a (aOd a)) → SoR v x (x + 1) → T DX7_swapped d 71 [some (.ref 89), some (.int z), some (.int (nI (csO a).length)), some (.int (nI x)), x4, none, none, none] [] F' (u1 (u1 G 104 l) 108 p.1) (MP (r_swapped a r ds f z, a) F' G) from outer (csO a).length 0 (aOd a) (vlR a (aOd a)) none (by omega) start (List.Perm.refl _) ⟨fun i j hi => absurd hi (by omega), fun j h1 h2 => absurd h2 (by omega)⟩
      intro fu
      induction fu with
      | zero =>
        intro x l v x4 hx hR hp hs
        have : x = (csO a).length := by omega
        subst this
        refine T_il3 dX7_swapped_71 ?_
        refine T_il2 dX7_swapped_72 ?_
        refine T_nge_t 142 dX7_swapped_73 (by decide) (by omega) (by omega) (by omega) ?_
        refine main l v x4 hR hp (fun i j hij hj => ?_)
        rcases Nat.eq_or_lt_of_le hij with e | e
        · rw [e]; exact Nat.le_refl _
        · exact hs.1 i j (by have := hR.2.1; omega) e hj
      | succ fu ihO =>
        intro x l v x4 hx hR hp hs
        refine T_il3 dX7_swapped_71 ?_
        refine T_il2 dX7_swapped_72 ?_
        refine T_nge_f 142 dX7_swapped_73 (by decide) (by omega) (by omega) (by omega) ?_
        refine T_il3 dX7_swapped_76 ?_
        refine T_iconst (v := nI 1) dX7_swapped_77 rfl ?_
        first | refine T_iaddN dX7_swapped_78 ?_ | refine T_iadd dX7_swapped_78 ?_
        refine T_is4 dX7_swapped_79 rfl ?_
        suffices inner : ∀ (fi y : Nat) (l : List Int32) (v : List Nat), y + fi = (csO a).length → x < y → RwR a l v → List.Perm v (vlR a (aOd a)) → SoR v x y → T DX7_swapped d 81 [some (.ref 89), some (.int z), some (.int (nI (csO a).length)), some (.int (nI x)), some (.int (nI y)), none, none, none] [] F' (u1 (u1 G 104 l) 108 p.1) (MP (r_swapped a r ds f z, a) F' G) from inner fu (x + 1) l v (by omega) (by omega) hR hp hs
        intro fi
        induction fi with
        | zero =>
          intro y l v hy hxy hR hp hs
          have : y = (csO a).length := by omega
          subst this
          refine T_il4 dX7_swapped_81 ?_
          refine T_il2 dX7_swapped_83 ?_
          refine T_nge_t 136 dX7_swapped_84 (by decide) (by omega) (by omega) (by omega) ?_
          refine T_ii3 dX7_swapped_136 (by first | exact nI_inc _ | exact nI_dec _ | rfl) rfl ?_
          refine T_goto 71 dX7_swapped_139 (by decide) ?_
          refine ihO (x + 1) l v _ (by omega) hR hp ?_
          have hs' : SoR v x v.length := by rw [hR.2.1]; exact hs
          exact so_up hs'
        | succ fi ihI =>
          intro y l v hy hxy hR hp hs
          have hvl : v.length = (csO a).length := hR.2.1
          have vy := hR.v99 (show y < v.length by omega)
          have vx := hR.v99 (show x < v.length by omega)
          have r104 : ∀ l : List Int32, u1 (u1 G 104 l) 108 p.1 104 = l := fun l => by rw [u1_n _ _ (by decide), u1_s]
          refine T_il4 dX7_swapped_81 ?_
          refine T_il2 dX7_swapped_83 ?_
          refine T_nge_f 136 dX7_swapped_84 (by decide) (by omega) (by omega) (by omega) ?_
          refine T_al0 dX7_swapped_87 ?_
          refine T_g7 gX7_52 (cell_89 _ _) rfl dX7_swapped_88 ?_
          refine T_al0 dX7_swapped_91 ?_
          refine T_g7 gX7_65 (cell_89 _ _) rfl dX7_swapped_92 ?_
          refine T_il4 dX7_swapped_95 ?_
          refine T_aldN (a := 108) rfl (show y < 6 by omega) dX7_swapped_97 ?_
          rw [u1_s, p3 y (by omega)]
          refine T_aldN (a := 104) rfl (show _ < 6 from c6 y (by omega)) dX7_swapped_98 ?_
          rw [r104, hR.2.2.1 y (by omega)]
          refine T_al0 dX7_swapped_99 ?_
          refine T_g7 gX7_52 (cell_89 _ _) rfl dX7_swapped_100 ?_
          refine T_al0 dX7_swapped_103 ?_
          refine T_g7 gX7_65 (cell_89 _ _) rfl dX7_swapped_104 ?_
          refine T_il3 dX7_swapped_107 ?_
          refine T_aldN (a := 108) rfl (show x < 6 by omega) dX7_swapped_108 ?_
          rw [u1_s, p3 x (by omega)]
          refine T_aldN (a := 104) rfl (show _ < 6 from c6 x (by omega)) dX7_swapped_109 ?_
          rw [r104, hR.2.2.1 x (by omega)]
          refine T_nge 130 dX7_swapped_110 (by decide) (by omega) (by omega) (fun hq => ?_) (fun hq => ?_)
          · refine T_ii4 dX7_swapped_130 (by first | exact nI_inc _ | exact nI_dec _ | rfl) rfl ?_
            refine T_goto 81 dX7_swapped_133 (by decide) ?_
            exact ihI (y + 1) l v (by omega) (by omega) hR hp (so_keep hs hq)
          · refine T_al0 dX7_swapped_113 ?_
            refine T_al0 dX7_swapped_114 ?_
            refine T_g7 gX7_65 (cell_89 _ _) rfl dX7_swapped_115 ?_
            refine T_il3 dX7_swapped_118 ?_
            refine T_aldN (a := 108) rfl (show x < 6 by omega) dX7_swapped_119 ?_
            rw [u1_s, p3 x (by omega)]
            refine T_al0 dX7_swapped_120 ?_
            refine T_g7 gX7_65 (cell_89 _ _) rfl dX7_swapped_121 ?_
            refine T_il4 dX7_swapped_124 ?_
            refine T_aldN (a := 108) rfl (show y < 6 by omega) dX7_swapped_126 ?_
            rw [u1_s, p3 y (by omega)]
            refine T_cV2 lX7_223 rfl (by decide) (cell_89 _ _) (m_exchange _ F' _ _ _ (c6 x (by omega)) (c6 y (by omega))) (by omega) (Nat.le_of_ble_eq_true rfl) dX7_swapped_127 (fun v F' G' hP => ?_)
            obtain ⟨rfl, rfl, rfl⟩ := hP
            rw [r104, c48]
            refine T_ii4 dX7_swapped_130 (by first | exact nI_inc _ | exact nI_dec _ | rfl) rfl ?_
            refine T_goto 81 dX7_swapped_133 (by decide) ?_
            exact ihI (y + 1) _ _ (by omega) (by omega) (hR.sw hI (by omega) (by omega)) ((swL_perm (by omega) (by omega)).trans hp) (so_sw hxy (by omega) hs hq)
  · have h1 := of_decide_eq_false h1
    refine T_bipush (v := -2) dX7_swapped_18 (by decide +kernel) ?_
    refine T_iret rfl dX7_swapped_20 ?_
    have hk : knB (aM a) z = false := by
      cases hq : knB (aM a) z with
      | false => rfl
      | true => exact absurd (Or.inr hq) h1
    rw [r_swapped, if_pos ⟨fun w => h1 (Or.inl w), hk⟩]
    exact MP.rf hM
