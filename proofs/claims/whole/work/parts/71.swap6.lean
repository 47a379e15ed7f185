/-! SWAPPED: the reference's next row -/
theorem cs_lt (a : AS) {i j : Nat} (hij : i < j) (hj : j < (csO a).length) : (csO a).getD i 0 < (csO a).getD j 0 := by
  have h : (csO a).Pairwise (· < ·) := List.Pairwise.filter _ List.pairwise_lt_range
  rw [List.getD_eq_getElem?_getD, List.getD_eq_getElem?_getD, List.getElem?_eq_getElem (by omega), List.getElem?_eq_getElem hj]
  exact List.pairwise_iff_getElem.mp h i j (by omega) hj hij
theorem cs_mem (a : AS) {k : Nat} (hk : k < (csO a).length) : (csO a).getD k 0 ∈ csO a := by
  rw [List.getD_eq_getElem?_getD, List.getElem?_eq_getElem hk]
  exact List.getElem_mem hk
theorem cs_ne (a : AS) {i j : Nat} (hi : i < (csO a).length) (hj : j < (csO a).length) (h : i ≠ j) : (csO a).getD i 0 ≠ (csO a).getD j 0 := by
  rcases Nat.lt_or_ge i j with q | q
  · have := cs_lt a q hj; omega
  · have := cs_lt a (show j < i by omega) hi; omega
def RwR (a : AS) (l : List Int32) (v : List Nat) : Prop := l.length = 6 ∧ v.length = (csO a).length ∧ (∀ k, k < v.length → l.getD ((csO a).getD k 0) 0 = nI (v.getD k 0)) ∧ (∀ x, x ∈ v → x ≤ 99) ∧ ∀ o, o ∉ csO a → l.getD o 0 = (aOd a).getD o 0
theorem RwR.v99 {a : AS} {l : List Int32} {v : List Nat} (h : RwR a l v) {k : Nat} (hk : k < v.length) : v.getD k 0 ≤ 99 := h.2.2.2.1 _ (by
  rw [List.getD_eq_getElem?_getD, List.getElem?_eq_getElem hk]
  exact List.getElem_mem hk)
def exI (l : List Int32) (x y : Nat) : List Int32 := (l.set x (l.getD y 0)).set y (l.getD x 0)
theorem exI_at {l : List Int32} {x y : Nat} (hx : x < l.length) (hy : y < l.length) (o : Nat) : (exI l x y).getD o 0 = if o = y then l.getD x 0 else if o = x then l.getD y 0 else l.getD o 0 := by
  rw [exI]
  by_cases h1 : o = y
  · subst h1; rw [if_pos rfl, getD_set_eq (by rw [List.length_set]; exact hy)]
  · rw [if_neg h1, getD_set_ne (fun e => h1 e.symm)]
    by_cases h2 : o = x
    · subst h2; rw [if_pos rfl, getD_set_eq hx]
    · rw [if_neg h2, getD_set_ne (fun e => h2 e.symm)]
theorem RwR.sw {a : AS} (hI : InvA a) {l : List Int32} {v : List Nat} (h : RwR a l v) {i j : Nat} (hi : i < v.length) (hj : j < v.length) : RwR a (exI l ((csO a).getD i 0) ((csO a).getD j 0)) (swL v i j) := by
  obtain ⟨h1, h2, h3, h4, h5⟩ := h
  have hm : aM a ≤ 6 := hI.1.1.2
  have c6 : ∀ k, k < v.length → (csO a).getD k 0 < 6 := fun k hk => by have := csO_mem (cs_mem a (show k < (csO a).length by omega)); omega
  refine ⟨by rw [exI, List.length_set, List.length_set]; exact h1, by rw [swL_len]; exact h2, fun k hk => ?_, fun x hx => h4 x ((swL_perm hi hj).mem_iff.mp hx), fun o ho => ?_⟩
  · rw [swL_len] at hk
    have := c6 i hi
    have := c6 j hj
    rw [exI_at (by omega) (by omega), swL_at hi hj]
    by_cases e1 : k = j
    · subst e1; rw [if_pos rfl, if_pos rfl, h3 i hi]
    · rw [if_neg (cs_ne a (by omega) (by omega) e1), if_neg e1]
      by_cases e2 : k = i
      · subst e2; rw [if_pos rfl, if_pos rfl, h3 j hj]
      · rw [if_neg (cs_ne a (by omega) (by omega) e2), if_neg e2, h3 k hk]
  · have := c6 i hi
    have := c6 j hj
    rw [exI_at (by omega) (by omega), if_neg (fun e => by rw [e] at ho; exact ho (cs_mem a (by omega))), if_neg (fun e => by rw [e] at ho; exact ho (cs_mem a (by omega)))]
    exact h5 o ho
theorem m_exchange (d : Nat) (F : FT) (G : GT) (x y : Nat) (hx : x < 6) (hy : y < 6) : Kc DX7_exchange d [.ref 89, .int (nI x), .int (nI y)] F G (fun v F' G' => v = none ∧ F' = F ∧ G' = u1 G 104 (exI (G 104) x y)) := by
  refine Kc.ofT [some (.ref 89), some (.int (nI x)), some (.int (nI y)), none] pn_X7 (Nat.le_of_ble_eq_true rfl) rfl ?_
  refine T_al0 dX7_exchange_0 ?_
  refine T_g7 gX7_52 (cell_89 _ _) rfl dX7_exchange_1 ?_
  refine T_il1 dX7_exchange_4 ?_
  refine T_aldN rfl (show _ < 6 by omega) dX7_exchange_5 ?_
  refine T_is3 dX7_exchange_6 rfl ?_
  refine T_al0 dX7_exchange_7 ?_
  refine T_g7 gX7_52 (cell_89 _ _) rfl dX7_exchange_8 ?_
  refine T_il1 dX7_exchange_11 ?_
  refine T_al0 dX7_exchange_12 ?_
  refine T_g7 gX7_52 (cell_89 _ _) rfl dX7_exchange_13 ?_
  refine T_il2 dX7_exchange_16 ?_
  refine T_aldN rfl (show _ < 6 by omega) dX7_exchange_17 ?_
  refine T_astN (a := 104) rfl (show x < 6 from hx) dX7_exchange_18 ?_
  refine T_al0 dX7_exchange_19 ?_
  refine T_g7 gX7_52 (cell_89 _ _) rfl dX7_exchange_20 ?_
  refine T_il2 dX7_exchange_23 ?_
  refine T_il3 dX7_exchange_24 ?_
  refine T_astN (a := 104) rfl (show y < 6 from hy) dX7_exchange_25 ?_
  rw [u1_s, u1_u1]
  refine T_vret rfl dX7_exchange_26 ?_
  exact ⟨rfl, rfl, rfl⟩
theorem sub2 (m : Nat) : nI (m + 1) - nI 2 = nI m - nI 1 := by
  rw [show nI (m + 1) = nI m + nI 1 from (nI_add m 1).symm, Int32.sub_eq_add_neg, Int32.sub_eq_add_neg, Int32.add_assoc, show nI 1 + -nI 2 = -nI 1 by decide +kernel]
def NrP (a : AS) (v : List Nat) (F : FT) (G : GT) : Option Value → FT → GT → Prop := fun x F' G' => F' = F ∧ ((x = some (.int (bI false)) ∧ G' = G ∧ ∀ i, i + 1 < v.length → v.getD (i + 1) 0 ≤ v.getD i 0) ∨ (x = some (.int (bI true)) ∧ ∃ k j l', (k + 1 < v.length ∧ v.getD k 0 < v.getD (k + 1) 0 ∧ (∀ i, k < i → i + 1 < v.length → v.getD (i + 1) 0 ≤ v.getD i 0) ∧ k < j ∧ j < v.length ∧ v.getD k 0 < v.getD j 0 ∧ ∀ i, j < i → i < v.length → v.getD i 0 ≤ v.getD k 0) ∧ G' = u1 G 104 l' ∧ RwR a l' (nxV v k j)))
theorem m_nextRow (d : Nat) (hd : 1 ≤ d) (F : FT) (G : GT) (a : AS) (hI : InvA a) (v : List Nat) (hR : RwR a (G 104) v) (hO : ∀ k, k < v.length → (G 108).getD k 0 = nI ((csO a).getD k 0)) : Kc DX7_nextRow d [.ref 89, .int (nI v.length)] F G (NrP a v F G) := by
  have hm : aM a ≤ 6 := hI.1.1.2
  obtain ⟨h1, h2, h3, h4, h5⟩ := id hR
  have hcl := csU_len a (aM a)
  have hvl : v.length ≤ 6 := by rw [h2]; exact Nat.le_trans hcl hm
  have c6 : ∀ k, k < v.length → (csO a).getD k 0 < 6 := fun k hk => by have := csO_mem (cs_mem a (show k < (csO a).length by omega)); omega
  refine Kc.ofT [some (.ref 89), some (.int (nI v.length)), none, none, none, none] pn_X7 (Nat.le_of_ble_eq_true rfl) rfl ?_
  have turn : ∀ (f p q : Nat) (l : List Int32) (w : List Nat) (x2 x3 : Int32) (P : Option Value → FT → GT → Prop), p + f ≤ 20 → q < v.length → q ≤ p + 2 * f → w.length = v.length → RwR a l w → (∀ l', RwR a l' (rvF f p q w) → P (some (.int (bI true))) F (u1 G 104 l')) → T DX7_nextRow d 108 [some (.ref 89), some (.int (nI v.length)), some (.int x2), some (.int x3), some (.int (nI q)), some (.int (nI p))] [] F (u1 G 104 l) P := by
    intro f
    induction f with
    | zero =>
      intro p q l w x2 x3 P hp hq hf hw hr hP
      refine T_il5 dX7_nextRow_108 ?_
      refine T_il4 dX7_nextRow_110 ?_
      refine T_nge_t 142 dX7_nextRow_112 (by decide) (by omega) (by omega) (by omega) ?_
      refine T_iconst (v := nI 1) dX7_nextRow_142 rfl ?_
      refine T_bret1 rfl dX7_nextRow_143 ?_
      exact hP l hr
    | succ f ih =>
      intro p q l w x2 x3 P hp hq hf hw hr hP
      rw [rvF] at hP
      by_cases hpq : p < q
      · rw [if_pos hpq] at hP
        refine T_il5 dX7_nextRow_108 ?_
        refine T_il4 dX7_nextRow_110 ?_
        refine T_nge_f 142 dX7_nextRow_112 (by decide) (by omega) (by omega) (by omega) ?_
        refine T_al0 dX7_nextRow_115 ?_
        refine T_al0 dX7_nextRow_116 ?_
        refine T_g7 gX7_65 (cell_89 _ _) rfl dX7_nextRow_117 ?_
        refine T_il5 dX7_nextRow_120 ?_
        refine T_aldN (a := 108) rfl (show p < 6 by omega) dX7_nextRow_122 ?_
        rw [u1_n _ _ (show (108 : Nat) ≠ 104 by decide), hO p (by omega)]
        refine T_al0 dX7_nextRow_123 ?_
        refine T_g7 gX7_65 (cell_89 _ _) rfl dX7_nextRow_124 ?_
        refine T_il4 dX7_nextRow_127 ?_
        refine T_aldN (a := 108) rfl (show q < 6 by omega) dX7_nextRow_129 ?_
        rw [u1_n _ _ (show (108 : Nat) ≠ 104 by decide), hO q (by omega)]
        refine T_cV2 lX7_223 rfl (by decide) (cell_89 _ _) (m_exchange _ F _ _ _ (c6 p (by omega)) (c6 q (by omega))) (by omega) (Nat.le_of_ble_eq_true rfl) dX7_nextRow_130 (fun v F' G' hP => ?_)
        obtain ⟨rfl, rfl, rfl⟩ := hP
        rw [u1_s, u1_u1]
        refine T_ii4 dX7_nextRow_133 (v := nI (q - 1)) (by
          have : q = (q - 1) + 1 := by omega
          conv => lhs; rw [this]
          exact nI_dec (q - 1)) rfl ?_
        refine T_ii5 dX7_nextRow_136 (by first | exact nI_inc _ | exact nI_dec _ | rfl) rfl ?_
        refine T_goto 108 dX7_nextRow_139 (by decide) ?_
        refine ih (p + 1) (q - 1) _ _ _ _ _ (by omega) (by omega) (by omega) (by rw [swL_len]; exact hw) (hr.sw hI (by omega) (by omega)) ?_
        assumption
      · rw [if_neg hpq] at hP
        refine T_il5 dX7_nextRow_108 ?_
        refine T_il4 dX7_nextRow_110 ?_
        refine T_nge_t 142 dX7_nextRow_112 (by decide) (by omega) (by omega) (by omega) ?_
        refine T_iconst (v := nI 1) dX7_nextRow_142 rfl ?_
        refine T_bret1 rfl dX7_nextRow_143 ?_
        exact hP l hr
  have foundJ : ∀ (k : Nat) (hk : k + 1 < v.length) (hkv : v.getD k 0 < v.getD (k + 1) 0) (hdec : ∀ i, k < i → i + 1 < v.length → v.getD (i + 1) 0 ≤ v.getD i 0) (j : Nat), k < j → j < v.length → (∀ i, j < i → i < v.length → v.getD i 0 ≤ v.getD k 0) → T DX7_nextRow d 51 [some (.ref 89), some (.int (nI v.length)), some (.int (nI k)), some (.int (nI j)), none, none] [] F G (NrP a v F G) := by
    intro k hk hkv hdec j
    have vk := hR.v99 (show k < v.length by omega)
    induction j with
    | zero => intro h; omega
    | succ j ih =>
      intro hj1 hj2 hjl
      have vj := hR.v99 hj2
      refine T_al0 dX7_nextRow_51 ?_
      refine T_g7 gX7_52 (cell_89 _ _) rfl dX7_nextRow_52 ?_
      refine T_al0 dX7_nextRow_55 ?_
      refine T_g7 gX7_65 (cell_89 _ _) rfl dX7_nextRow_56 ?_
      refine T_il3 dX7_nextRow_59 ?_
      refine T_aldN (a := 108) rfl (show j + 1 < 6 by omega) dX7_nextRow_60 ?_
      rw [hO _ hj2]
      refine T_aldN (a := 104) rfl (show _ < 6 from c6 _ hj2) dX7_nextRow_61 ?_
      rw [h3 _ hj2]
      refine T_al0 dX7_nextRow_62 ?_
      refine T_g7 gX7_52 (cell_89 _ _) rfl dX7_nextRow_63 ?_
      refine T_al0 dX7_nextRow_66 ?_
      refine T_g7 gX7_65 (cell_89 _ _) rfl dX7_nextRow_67 ?_
      refine T_il2 dX7_nextRow_70 ?_
      refine T_aldN (a := 108) rfl (show k < 6 by omega) dX7_nextRow_71 ?_
      rw [hO k (by omega)]
      refine T_aldN (a := 104) rfl (show _ < 6 from c6 k (by omega)) dX7_nextRow_72 ?_
      rw [h3 k (by omega)]
      refine T_ngt 82 dX7_nextRow_73 (by decide) (by omega) (by omega) (fun hq => ?_) (fun hq => ?_)
      · refine T_al0 dX7_nextRow_82 ?_
        refine T_al0 dX7_nextRow_83 ?_
        refine T_g7 gX7_65 (cell_89 _ _) rfl dX7_nextRow_84 ?_
        refine T_il2 dX7_nextRow_87 ?_
        refine T_aldN (a := 108) rfl (show k < 6 by omega) dX7_nextRow_88 ?_
        rw [hO k (by omega)]
        refine T_al0 dX7_nextRow_89 ?_
        refine T_g7 gX7_65 (cell_89 _ _) rfl dX7_nextRow_90 ?_
        refine T_il3 dX7_nextRow_93 ?_
        refine T_aldN (a := 108) rfl (show j + 1 < 6 by omega) dX7_nextRow_94 ?_
        rw [hO _ hj2]
        refine T_cV2 lX7_223 rfl (by decide) (cell_89 _ _) (m_exchange _ F G _ _ (c6 k (by omega)) (c6 _ hj2)) (by omega) (Nat.le_of_ble_eq_true rfl) dX7_nextRow_95 (fun v F' G' hP => ?_)
        obtain ⟨rfl, rfl, rfl⟩ := hP
        refine T_il1 dX7_nextRow_98 ?_
        refine T_iconst (v := nI 1) dX7_nextRow_99 rfl ?_
        refine T_isubN dX7_nextRow_100 (by omega) ?_
        refine T_is4 dX7_nextRow_101 rfl ?_
        refine T_il2 dX7_nextRow_103 ?_
        refine T_iconst (v := nI 1) dX7_nextRow_104 rfl ?_
        first | refine T_iaddN dX7_nextRow_105 ?_ | refine T_iadd dX7_nextRow_105 ?_
        refine T_is5 dX7_nextRow_106 rfl ?_
        refine turn 6 (k + 1) (v.length - 1) _ (swL v k (j + 1)) _ _ _ (by omega) (by omega) (by omega) (swL_len _ _ _) (hR.sw hI (by omega) hj2) (fun l' hl' => ?_)
        exact ⟨rfl, Or.inr ⟨rfl, k, j + 1, l', ⟨hk, hkv, hdec, hj1, hj2, hq, hjl⟩, rfl, hl'⟩⟩
      · have hjk : k < j := by
          rcases Nat.lt_or_ge k j with w | w
          · exact w
          · have : j = k := by omega
            subst this; omega
        refine T_ii3 dX7_nextRow_76 (nI_dec j) rfl ?_
        refine T_goto 51 dX7_nextRow_79 (by decide) ?_
        refine ih hjk (by omega) (fun i hi1 hi2 => ?_)
        rcases Nat.eq_or_lt_of_le (show j + 1 ≤ i by omega) with e | e
        · subst e; exact hq
        · exact hjl i e hi2
  have findK : ∀ (m : Nat), m < v.length → (∀ i, m ≤ i → i + 1 < v.length → v.getD (i + 1) 0 ≤ v.getD i 0) → T DX7_nextRow d 4 [some (.ref 89), some (.int (nI v.length)), some (.int (nI m - nI 1)), none, none, none] [] F G (NrP a v F G) := by
    intro m
    induction m with
    | zero =>
      intro hm1 hd1
      refine T_il2 dX7_nextRow_4 ?_
      refine T_if_lt_t 41 dX7_nextRow_5 (by decide) (by decide) ?_
      refine T_il2 dX7_nextRow_41 ?_
      refine T_if_ge_f 47 dX7_nextRow_42 (by decide) (by decide) ?_
      refine T_iconst (v := nI 0) dX7_nextRow_45 rfl ?_
      refine T_bret0 rfl dX7_nextRow_46 ?_
      exact ⟨rfl, Or.inl ⟨rfl, rfl, fun i hi => hd1 i (by omega) hi⟩⟩
    | succ k ih =>
      intro hm1 hd1
      have vk := hR.v99 (show k < v.length by omega)
      have vk1 := hR.v99 hm1
      rw [show nI (k + 1) - nI 1 = nI k from nI_pred k]
      refine T_il2 dX7_nextRow_4 ?_
      refine T_if_lt_f 41 dX7_nextRow_5 (by decide) (nI_pos (by omega)) ?_
      refine T_al0 dX7_nextRow_8 ?_
      refine T_g7 gX7_52 (cell_89 _ _) rfl dX7_nextRow_9 ?_
      refine T_al0 dX7_nextRow_12 ?_
      refine T_g7 gX7_65 (cell_89 _ _) rfl dX7_nextRow_13 ?_
      refine T_il2 dX7_nextRow_16 ?_
      refine T_aldN (a := 108) rfl (show k < 6 by omega) dX7_nextRow_17 ?_
      rw [hO k (by omega)]
      refine T_aldN (a := 104) rfl (show _ < 6 from c6 k (by omega)) dX7_nextRow_18 ?_
      rw [h3 k (by omega)]
      refine T_al0 dX7_nextRow_19 ?_
      refine T_g7 gX7_52 (cell_89 _ _) rfl dX7_nextRow_20 ?_
      refine T_al0 dX7_nextRow_23 ?_
      refine T_g7 gX7_65 (cell_89 _ _) rfl dX7_nextRow_24 ?_
      refine T_il2 dX7_nextRow_27 ?_
      refine T_iconst (v := nI 1) dX7_nextRow_28 rfl ?_
      first | refine T_iaddN dX7_nextRow_29 ?_ | refine T_iadd dX7_nextRow_29 ?_
      refine T_aldN (a := 108) rfl (show k + 1 < 6 by omega) dX7_nextRow_30 ?_
      rw [hO _ hm1]
      refine T_aldN (a := 104) rfl (show _ < 6 from c6 _ hm1) dX7_nextRow_31 ?_
      rw [h3 _ hm1]
      refine T_nlt 41 dX7_nextRow_32 (by decide) (by omega) (by omega) (fun hq => ?_) (fun hq => ?_)
      · refine T_il2 dX7_nextRow_41 ?_
        refine T_if_ge_t 47 dX7_nextRow_42 (by decide) (nI_pos' (by omega)) ?_
        refine T_il1 dX7_nextRow_47 ?_
        refine T_iconst (v := nI 1) dX7_nextRow_48 rfl ?_
        refine T_isubN dX7_nextRow_49 (by omega) ?_
        refine T_is3 dX7_nextRow_50 rfl ?_
        exact foundJ k hm1 hq (fun i hi1 hi2 => hd1 i (by omega) hi2) (v.length - 1) (by omega) (by omega) (fun i hi1 hi2 => absurd hi2 (by omega))
      · refine T_ii2 dX7_nextRow_35 (sub_inc k) rfl ?_
        refine T_goto 4 dX7_nextRow_38 (by decide) ?_
        refine ih (by omega) (fun i hi1 hi2 => ?_)
        rcases Nat.eq_or_lt_of_le hi1 with e | e
        · subst e; exact hq
        · exact hd1 i e hi2
  refine T_il1 dX7_nextRow_0 ?_
  refine T_iconst (v := nI 2) dX7_nextRow_1 rfl ?_
  refine T_isub dX7_nextRow_2 ?_
  refine T_is2 dX7_nextRow_3 rfl ?_
  rcases Nat.eq_zero_or_pos v.length with h0 | h0
  · rw [h0]
    refine T_il2 dX7_nextRow_4 ?_
    refine T_if_lt_t 41 dX7_nextRow_5 (by decide) (by decide) ?_
    refine T_il2 dX7_nextRow_41 ?_
    refine T_if_ge_f 47 dX7_nextRow_42 (by decide) (by decide) ?_
    refine T_iconst (v := nI 0) dX7_nextRow_45 rfl ?_
    refine T_bret0 rfl dX7_nextRow_46 ?_
    exact ⟨rfl, Or.inl ⟨rfl, rfl, fun i hi => absurd hi (by omega)⟩⟩
  · have e : nI v.length - nI 2 = nI (v.length - 1) - nI 1 := by
      have := sub2 (v.length - 1)
      rw [show v.length - 1 + 1 = v.length by omega] at this
      exact this
    rw [e]
    exact findK (v.length - 1) (by omega) (fun i hi1 hi2 => absurd hi2 (by omega))
