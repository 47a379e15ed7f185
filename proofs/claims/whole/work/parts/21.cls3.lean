theorem S8_bit : ∀ k, k < 8 → bitI (nI k) = nI (2 ^ k) ∧ 2 ^ k < 256 := by decide +kernel
theorem S8_b {k : Nat} (h : k < 8) : S8 (bitI (nI k)) := ⟨2 ^ k, (S8_bit k h).2, (S8_bit k h).1⟩
theorem S8_0 : S8 (nI 0) := ⟨0, by decide, rfl⟩
theorem spI_S8 {l : List Int32} (hl : okS l) (wi s : Int32) {x : Int32} (hx : S8 x) : ∀ n k, S8 (iter (spI l wi s) n k x) := by
  intro n
  induction n generalizing x with
  | zero => intro k; exact hx
  | succ n ih =>
    intro k
    rw [iter]
    refine ih ?_ (k + 1)
    unfold spI
    split
    · exact S8_or hx (S8_and (hl k) wi)
    · exact hx
theorem spO_S8 {l : List Int32} (hl : okS l) (wi : Int32) : ∀ n {x : Int32}, S8 x → S8 (spO l wi n x) := by
  intro n
  induction n with
  | zero => intro x hx; exact hx
  | succ n ih =>
    intro x hx
    rw [spO]
    split
    · exact hx
    · exact ih (spI_S8 hl wi x hx 8 0)
theorem fall_S8 {kd ov kn : List Int32} (ho : okS ov) (hk : okS kn) (w : Int32) {i : Nat} (hi : i < 8) : S8 (fallI kd ov kn w i) := by
  unfold fallI
  split
  · split
    · exact S8_0
    · exact spO_S8 hk w 8 (S8_b (topN_lt ho w 8 i hi))
  · exact S8_0
theorem okS_set {l : List Int32} (h : okS l) (k : Nat) {x : Int32} (hx : S8 x) : okS (l.set k x) := by
  intro j
  rw [List.getD_eq_getElem?_getD, List.getElem?_set]
  split
  · split
    · exact hx
    · exact S8_0
  · rw [← List.getD_eq_getElem?_getD]; exact h j
def bitS (l : List Int32) : Nat → Nat → Nat := fun k c => c + pop8 (sv (l.getD k 0))
theorem c_bitsIn (d : Nat) (hd : 1 ≤ d) (F : FT) (G : GT) (a : Nat) (ha : isI a = true) (hg : gLen a = 8) (ho : okS (G a)) : Kp DX6_bitsIn d [.ref a] F G (some (.int (nI (iter (bitS (G a)) 8 0 0)))) := by
  refine Kc.ofT [some (.ref a), none, none, none, none, none] pn_X6 (Nat.le_of_ble_eq_true rfl) rfl ?_
  refine T_iconst (v := nI 0) dX6_bitsIn_0 rfl ?_
  refine T_is1 dX6_bitsIn_1 rfl ?_
  refine T_al0 dX6_bitsIn_2 ?_
  refine T_as2 dX6_bitsIn_3 rfl ?_
  refine T_al2 dX6_bitsIn_4 ?_
  refine T_alen ha dX6_bitsIn_5 ?_
  rw [hg]
  refine T_is3 dX6_bitsIn_6 rfl ?_
  refine T_iconst (v := nI 0) dX6_bitsIn_7 rfl ?_
  refine T_is4 dX6_bitsIn_8 rfl ?_
  suffices h : ∀ (n k c : Nat) (o : Option Value), k + n = 8 → T DX6_bitsIn d 10 [some (.ref a), some (.int (nI c)), some (.ref a), some (.int (nI 8)), some (.int (nI k)), o] [] F G (fun v F' G' => v = some (.int (nI (iter (bitS (G a)) n k c))) ∧ F' = F ∧ G' = G) from h 8 0 0 none rfl
  intro n
  induction n with
  | zero =>
    intro k c o hk
    refine T_il4 dX6_bitsIn_10 ?_
    refine T_il3 dX6_bitsIn_12 ?_
    refine T_nge_t 36 dX6_bitsIn_13 (by decide) (by omega) (by omega) (by omega) ?_
    refine T_il1 dX6_bitsIn_36 ?_
    refine T_iret rfl dX6_bitsIn_37 ?_
    exact ⟨rfl, rfl, rfl⟩
  | succ n ih =>
    intro k c o hk
    obtain ⟨m, hm, e⟩ := ho k
    refine T_il4 dX6_bitsIn_10 ?_
    refine T_il3 dX6_bitsIn_12 ?_
    refine T_nge_f 36 dX6_bitsIn_13 (by decide) (by omega) (by omega) (by omega) ?_
    refine T_al2 dX6_bitsIn_16 ?_
    refine T_il4 dX6_bitsIn_17 ?_
    refine T_aldN (by assumption) (by rw [hg]; omega) dX6_bitsIn_19 ?_
    rw [e]
    refine T_is5 dX6_bitsIn_20 rfl ?_
    refine T_il1 dX6_bitsIn_22 ?_
    refine T_il5 dX6_bitsIn_23 ?_
    refine T_pS1 lX6_155 (c_bitCount _ _ _ _ (by assumption)) (by omega) (Nat.le_of_ble_eq_true rfl) dX6_bitsIn_25 ?_
    first | refine T_iaddN dX6_bitsIn_28 ?_ | refine T_iadd dX6_bitsIn_28 ?_
    refine T_is1 dX6_bitsIn_29 rfl ?_
    refine T_ii4 dX6_bitsIn_30 (by first | exact nI_inc _ | exact nI_dec _ | rfl) rfl ?_
    refine T_goto 10 dX6_bitsIn_33 (by decide) ?_
    rw [iter, show bitS (G a) k c = c + pop8 m by rw [bitS, e, sv_nI (by omega)]]
    exact ih (k + 1) _ _ (by omega)
def r_count (a : AS) (w : Int32) : Int32 := match swN 8 w with
  | some 0 => nI (aN a)
  | some 1 => nI (aM a)
  | some 2 => lDay (aNow a)
  | some 3 => lWhole (aNow a)
  | some 4 => lLost (aNow a)
  | some 5 => nI (iter (bitS (lKn (aNow a))) 8 0 0) / nI 2
  | some 6 => nI (iter (bitS (lOv (aNow a))) 8 0 0)
  | some 7 => nI (aPast a).length
  | some 8 => nI (aLen a)
  | _ => -3
theorem x_count (d : Nat) (hd : 2 ≤ d) (F : FT) (G : GT) (a : AS) (hX : XR a F G) (ho : okS (lOv (aNow a))) (hk : okS (lKn (aNow a))) (w : Int32) : Kp DX6_count d [.ref 0, .int w] F G (some (.int (r_count a w))) := by
  obtain ⟨e0, e1, e4, e5, e9, e10, f1, f2, f3, f4, g0, g1, g2, g3⟩ := hX.eqs
  have ho' : okS (G (19 + 2)) := by rw [show G (19 + 2) = _ from g1]; exact ho
  have hk' : okS (G (19 + 3)) := by rw [show G (19 + 3) = _ from g2]; exact hk
  obtain ⟨⟨-, fl⟩, -, -, ⟨p, -, -, fp, -⟩, -⟩ := hX
  refine Kc.ofT [some (.ref 0), some (.int w)] pn_X6 (Nat.le_of_ble_eq_true rfl) rfl ?_
  refine T_il1 dX6_count_0 ?_
  cases hw : swN 8 w with
  | none =>
    refine T_tableOut 132 dX6_count_1 (sw_out (by decide) hw) (by decide) ?_
    refine T_bipush (v := -3) dX6_count_132 (by decide +kernel) ?_
    refine T_iret rfl dX6_count_134 ?_
    exact ⟨by rw [r_count, hw], rfl, rfl⟩
  | some j =>
    obtain ⟨hj, rfl⟩ := sw_in (by decide) hw
    match j, hj with
    | 0, _ =>
      refine T_tableIn 52 dX6_count_1 (by decide +kernel) (by decide +kernel) (off := 51) (by decide +kernel) (by decide) ?_
      refine T_al0 dX6_count_52 ?_
      refine T_g6 gX6_19 (cell_0 _ _) rfl dX6_count_53 ?_
      refine T_g4 gX6_215 (by first | assumption | decide) (cell_T _ _ (by first | assumption | decide)) rfl dX6_count_56 ?_
      refine T_iret rfl dX6_count_59 ?_
      exact ⟨by simp only [r_count, hw, e0], rfl, rfl⟩
    | 1, _ =>
      refine T_tableIn 60 dX6_count_1 (by decide +kernel) (by decide +kernel) (off := 59) (by decide +kernel) (by decide) ?_
      refine T_al0 dX6_count_60 ?_
      refine T_g6 gX6_19 (cell_0 _ _) rfl dX6_count_61 ?_
      refine T_g4 gX6_133 (by first | assumption | decide) (cell_T _ _ (by first | assumption | decide)) rfl dX6_count_64 ?_
      refine T_iret rfl dX6_count_67 ?_
      exact ⟨by simp only [r_count, hw, e1], rfl, rfl⟩
    | 2, _ =>
      refine T_tableIn 68 dX6_count_1 (by decide +kernel) (by decide +kernel) (off := 67) (by decide +kernel) (by decide) ?_
      refine T_al0 dX6_count_68 ?_
      refine T_g6 gX6_31 (cell_0 _ _) rfl dX6_count_69 ?_
      refine T_g1 gX6_126 (by first | assumption | decide) (cell_L _ _ (by first | assumption | decide)) rfl dX6_count_72 ?_
      refine T_iret rfl dX6_count_75 ?_
      exact ⟨by simp only [r_count, hw, f1], rfl, rfl⟩
    | 3, _ =>
      refine T_tableIn 76 dX6_count_1 (by decide +kernel) (by decide +kernel) (off := 75) (by decide +kernel) (by decide) ?_
      refine T_al0 dX6_count_76 ?_
      refine T_g6 gX6_31 (cell_0 _ _) rfl dX6_count_77 ?_
      refine T_g1 gX6_142 (by first | assumption | decide) (cell_L _ _ (by first | assumption | decide)) rfl dX6_count_80 ?_
      refine T_iret rfl dX6_count_83 ?_
      exact ⟨by simp only [r_count, hw, f3], rfl, rfl⟩
    | 4, _ =>
      refine T_tableIn 84 dX6_count_1 (by decide +kernel) (by decide +kernel) (off := 83) (by decide +kernel) (by decide) ?_
      refine T_al0 dX6_count_84 ?_
      refine T_g6 gX6_31 (cell_0 _ _) rfl dX6_count_85 ?_
      refine T_g1 gX6_179 (by first | assumption | decide) (cell_L _ _ (by first | assumption | decide)) rfl dX6_count_88 ?_
      refine T_iret rfl dX6_count_91 ?_
      exact ⟨by simp only [r_count, hw, f2], rfl, rfl⟩
    | 5, _ =>
      refine T_tableIn 92 dX6_count_1 (by decide +kernel) (by decide +kernel) (off := 91) (by decide +kernel) (by decide) ?_
      refine T_al0 dX6_count_92 ?_
      refine T_g6 gX6_31 (cell_0 _ _) rfl dX6_count_93 ?_
      refine T_g1 gX6_113 (by first | assumption | decide) (cell_L _ _ (by first | assumption | decide)) rfl dX6_count_96 ?_
      refine T_pS1 lX6_229 (c_bitsIn _ (by omega) _ _ _ rfl rfl (by assumption)) (by omega) (Nat.le_of_ble_eq_true rfl) dX6_count_99 ?_
      refine T_iconst (v := nI 2) dX6_count_102 rfl ?_
      refine T_idiv dX6_count_103 (by decide) ?_
      refine T_iret rfl dX6_count_104 ?_
      exact ⟨by simp only [r_count, hw, show G (19 + 3) = _ from g2], rfl, rfl⟩
    | 6, _ =>
      refine T_tableIn 105 dX6_count_1 (by decide +kernel) (by decide +kernel) (off := 104) (by decide +kernel) (by decide) ?_
      refine T_al0 dX6_count_105 ?_
      refine T_g6 gX6_31 (cell_0 _ _) rfl dX6_count_106 ?_
      refine T_g1 gX6_110 (by first | assumption | decide) (cell_L _ _ (by first | assumption | decide)) rfl dX6_count_109 ?_
      refine T_pS1 lX6_229 (c_bitsIn _ (by omega) _ _ _ rfl rfl (by assumption)) (by omega) (Nat.le_of_ble_eq_true rfl) dX6_count_112 ?_
      refine T_iret rfl dX6_count_115 ?_
      exact ⟨by simp only [r_count, hw, show G (19 + 2) = _ from g1], rfl, rfl⟩
    | 7, _ =>
      refine T_tableIn 116 dX6_count_1 (by decide +kernel) (by decide +kernel) (off := 115) (by decide +kernel) (by decide) ?_
      refine T_al0 dX6_count_116 ?_
      refine T_g6 gX6_41 (cell_0 _ _) rfl dX6_count_117 ?_
      refine T_g2 gX6_86 (cell_29 _ _) rfl dX6_count_120 ?_
      refine T_iret rfl dX6_count_123 ?_
      exact ⟨by simp only [r_count, hw, fp], rfl, rfl⟩
    | 8, _ =>
      refine T_tableIn 124 dX6_count_1 (by decide +kernel) (by decide +kernel) (off := 123) (by decide +kernel) (by decide) ?_
      refine T_al0 dX6_count_124 ?_
      refine T_g6 gX6_12 (cell_0 _ _) rfl dX6_count_125 ?_
      refine T_g5 gX6_69 (cell_1 _ _) rfl dX6_count_128 ?_
      refine T_iret rfl dX6_count_131 ?_
      exact ⟨by simp only [r_count, hw, fl], rfl, rfl⟩
    | j + 9, hj => exact absurd hj (by omega)
def givA (a : AS) (m : Int32) (i : Nat) : Int32 := givI (aKd a) (aLn a) (lWhole (aNow a)) (lDay (aNow a)) m i
def gvS (a : AS) (t m : Int32) : Nat → Int32 × Int32 × Int32 → Int32 × Int32 × Int32 := fun i p => ((fun g : Int32 => (p.1 + g, if p.2.1 < g then (g, nI i) else p.2)) : Int32 → Int32 × Int32 × Int32) (if nI i = t then nI 0 else givA a m i)
def r_given (a : AS) (t n m : Int32) : Int32 := if knB (aN a) t = true then (if n < nI 1 ∨ nI 99 < n ∨ m < 0 ∨ nI 99 < m then -3 else if hasI (lWhole (aNow a)) t = true then (if (iter (gvS a t m) (aN a) 0 (nI 0, nI 0, -1)).1 < n then -1 else (iter (gvS a t m) (aN a) 0 (nI 0, nI 0, -1)).2.2) else -4) else -2
theorem x_given (d : Nat) (hd : 3 ≤ d) (F : FT) (G : GT) (a : AS) (hX : XR a F G) (hn : aN a ≤ 8) (t n m : Int32) : Kp DX6_given d [.ref 0, .int t, .int n, .int m] F G (some (.int (r_given a t n m))) := by
  obtain ⟨e0, e1, e4, e5, e9, e10, f1, f2, f3, f4, g0, g1, g2, g3⟩ := hX.eqs
  have eG : ∀ i, givI (G 4) (G 5) (F 19 3) (F 19 1) m i = givA a m i := fun i => by rw [givA, e4, e5, f1, f3]
  refine Kc.ofT [some (.ref 0), some (.int t), some (.int n), some (.int m), none, none, none, none, none] pn_X6 (Nat.le_of_ble_eq_true rfl) rfl ?_
  refine T_al0 dX6_given_0 ?_
  refine T_il1 dX6_given_1 ?_
  refine T_pV1 lX6_92 rfl (by decide) (cell_0 _ _) (c_known _ _ _ _ (by assumption) _) (by omega) (Nat.le_of_ble_eq_true rfl) dX6_given_2 ?_
  refine T_bne 11 dX6_given_5 (by decide) (fun h1 => ?_) (fun h1 => ?_)
  · have out : (n < nI 1 ∨ nI 99 < n ∨ m < 0 ∨ nI 99 < m) → T DX6_given d 32 [some (.ref 0), some (.int t), some (.int n), some (.int m), none, none, none, none, none] [] F G (fun v F' G' => v = some (.int (r_given a t n m)) ∧ F' = F ∧ G' = G) := by
      intro hc
      refine T_bipush (v := -3) dX6_given_32 (by decide +kernel) ?_
      refine T_iret rfl dX6_given_34 ?_
      exact ⟨by rw [r_given, if_pos h1, if_pos hc], rfl, rfl⟩
    refine T_il2 dX6_given_11 ?_
    refine T_iconst (v := nI 1) dX6_given_12 rfl ?_
    refine T_icmp_lt 32 dX6_given_13 (by decide) (fun h2 => ?_) (fun h2 => ?_)
    · exact out (Or.inl h2)
    · refine T_il2 dX6_given_16 ?_
      refine T_bipush (v := nI 99) dX6_given_17 (by decide +kernel) ?_
      refine T_icmp_gt 32 dX6_given_19 (by decide) (fun h3 => ?_) (fun h3 => ?_)
      · exact out (Or.inr (Or.inl h3))
      · refine T_il3 dX6_given_22 ?_
        refine T_if_lt 32 dX6_given_23 (by decide) (fun h4 => ?_) (fun h4 => ?_)
        · exact out (Or.inr (Or.inr (Or.inl h4)))
        · refine T_il3 dX6_given_26 ?_
          refine T_bipush (v := nI 99) dX6_given_27 (by decide +kernel) ?_
          refine T_icmp_le 35 dX6_given_29 (by decide) (fun h5 => ?_) (fun h5 => ?_)
          · have hc : ¬ (n < nI 1 ∨ nI 99 < n ∨ m < 0 ∨ nI 99 < m) := fun z => z.elim h2 (fun z => z.elim h3 (fun z => z.elim h4 (Int32.not_lt.mpr h5)))
            refine T_al0 dX6_given_35 ?_
            refine T_g6 gX6_31 (cell_0 _ _) rfl dX6_given_36 ?_
            refine T_il1 dX6_given_39 ?_
            refine T_pV1 lX6_123 rfl (by first | decide | (have := isL_lt _ (by assumption); omega)) (cell_L _ _ (by first | assumption | decide)) (c_isWhole _ (by omega) _ _ _ (by first | assumption | decide) _) (by omega) (Nat.le_of_ble_eq_true rfl) dX6_given_40 ?_
            refine T_bne 49 dX6_given_43 (by decide) (fun h6 => ?_) (fun h6 => ?_)
            · rw [f3] at h6
              refine T_iconst (v := nI 0) dX6_given_49 rfl ?_
              refine T_is4 dX6_given_50 rfl ?_
              refine T_iconst (v := nI 0) dX6_given_52 rfl ?_
              refine T_is5 dX6_given_53 rfl ?_
              refine T_iconst (v := -1) dX6_given_55 rfl ?_
              refine T_is6 dX6_given_56 rfl ?_
              refine T_iconst (v := nI 0) dX6_given_58 rfl ?_
              refine T_is7 dX6_given_59 rfl ?_
              suffices h : ∀ (j k : Nat) (p : Int32 × Int32 × Int32) (o : Option Value), k + j = aN a → T DX6_given d 61 [some (.ref 0), some (.int t), some (.int n), some (.int m), some (.int p.1), some (.int p.2.1), some (.int p.2.2), some (.int (nI k)), o] [] F G (fun v F' G' => v = some (.int (if (iter (gvS a t m) j k p).1 < n then -1 else (iter (gvS a t m) j k p).2.2)) ∧ F' = F ∧ G' = G) by
                have h := h (aN a) 0 (nI 0, nI 0, -1) none (by omega)
                rw [r_given, if_pos h1, if_neg hc, if_pos h6]
                exact h
              intro j
              induction j with
              | zero =>
                intro k p o hk
                refine T_il7 dX6_given_61 ?_
                refine T_al0 dX6_given_63 ?_
                refine T_g6 gX6_19 (cell_0 _ _) rfl dX6_given_64 ?_
                refine T_g4 gX6_215 (by first | assumption | decide) (cell_T _ _ (by first | assumption | decide)) rfl dX6_given_67 ?_
                rw [e0]
                refine T_nge_t 123 dX6_given_70 (by decide) (by omega) (by omega) (by omega) ?_
                refine T_il4 dX6_given_123 ?_
                refine T_il2 dX6_given_125 ?_
                refine T_icmp_lt 134 dX6_given_126 (by decide) (fun h7 => ?_) (fun h7 => ?_)
                · refine T_iconst (v := -1) dX6_given_134 rfl ?_
                  refine T_iret rfl dX6_given_135 ?_
                  exact ⟨by rw [iter, if_pos h7], rfl, rfl⟩
                · refine T_il6 dX6_given_129 ?_
                  refine T_goto 135 dX6_given_131 (by decide) ?_
                  refine T_iret rfl dX6_given_135 ?_
                  exact ⟨by rw [iter, if_neg h7], rfl, rfl⟩
              | succ j ih =>
                intro k p o hk
                rw [iter]
                have go : ∀ g : Int32, g = (if nI k = t then nI 0 else givA a m k) → T DX6_given d 93 [some (.ref 0), some (.int t), some (.int n), some (.int m), some (.int p.1), some (.int p.2.1), some (.int p.2.2), some (.int (nI k)), o] [.int g] F G (fun v F' G' => v = some (.int (if (iter (gvS a t m) j (k + 1) (gvS a t m k p)).1 < n then -1 else (iter (gvS a t m) j (k + 1) (gvS a t m k p)).2.2)) ∧ F' = F ∧ G' = G) := by
                  intro g hg
                  have e : gvS a t m k p = (p.1 + g, if p.2.1 < g then (g, nI k) else p.2) := by rw [gvS, hg]
                  rw [e]
                  refine T_is8 dX6_given_93 rfl ?_
                  refine T_il4 dX6_given_95 ?_
                  refine T_il8 dX6_given_97 ?_
                  refine T_iadd dX6_given_99 ?_
                  refine T_is4 dX6_given_100 rfl ?_
                  refine T_il8 dX6_given_102 ?_
                  refine T_il5 dX6_given_104 ?_
                  refine T_icmp_le 117 dX6_given_106 (by decide) (fun h7 => ?_) (fun h7 => ?_)
                  · rw [if_neg (Int32.not_lt.mpr h7)]
                    refine T_ii7 dX6_given_117 (by first | exact nI_inc _ | exact nI_dec _ | rfl) rfl ?_
                    refine T_goto 61 dX6_given_120 (by decide) ?_
                    exact ih (k + 1) (p.1 + g, p.2) _ (by omega)
                  · rw [if_pos (Int32.not_le.mp h7)]
                    refine T_il8 dX6_given_109 ?_
                    refine T_is5 dX6_given_111 rfl ?_
                    refine T_il7 dX6_given_113 ?_
                    refine T_is6 dX6_given_115 rfl ?_
                    refine T_ii7 dX6_given_117 (by first | exact nI_inc _ | exact nI_dec _ | rfl) rfl ?_
                    refine T_goto 61 dX6_given_120 (by decide) ?_
                    exact ih (k + 1) (p.1 + g, g, nI k) _ (by omega)
                refine T_il7 dX6_given_61 ?_
                refine T_al0 dX6_given_63 ?_
                refine T_g6 gX6_19 (cell_0 _ _) rfl dX6_given_64 ?_
                refine T_g4 gX6_215 (by first | assumption | decide) (cell_T _ _ (by first | assumption | decide)) rfl dX6_given_67 ?_
                rw [e0]
                refine T_nge_f 123 dX6_given_70 (by decide) (by omega) (by omega) (by omega) ?_
                refine T_il7 dX6_given_73 ?_
                refine T_il1 dX6_given_75 ?_
                refine T_icmp_ne 83 dX6_given_76 (by decide) (fun h7 => ?_) (fun h7 => ?_)
                · refine T_al0 dX6_given_83 ?_
                  refine T_g6 gX6_31 (cell_0 _ _) rfl dX6_given_84 ?_
                  refine T_il7 dX6_given_87 ?_
                  refine T_il3 dX6_given_89 ?_
                  refine T_pV2 lX6_218 rfl (by first | decide | (have := isL_lt _ (by assumption); omega)) (cell_L _ _ (by first | assumption | decide)) (c_canGive _ (by omega) _ _ _ (by first | assumption | decide) _ (by omega) _) (by omega) (Nat.le_of_ble_eq_true rfl) dX6_given_90 ?_
                  rw [eG]
                  exact go _ (by rw [if_neg h7])
                · refine T_iconst (v := nI 0) dX6_given_79 rfl ?_
                  refine T_goto 93 dX6_given_80 (by decide) ?_
                  exact go _ (by rw [if_pos h7])
            · rw [f3] at h6
              refine T_bipush (v := -4) dX6_given_46 (by decide +kernel) ?_
              refine T_iret rfl dX6_given_48 ?_
              exact ⟨by rw [r_given, if_pos h1, if_neg hc, if_neg (by rw [h6]; decide)], rfl, rfl⟩
          · exact out (Or.inr (Or.inr (Or.inr (Int32.not_le.mp h5))))
  · refine T_bipush (v := -2) dX6_given_8 (by decide +kernel) ?_
    refine T_iret rfl dX6_given_10 ?_
    exact ⟨by rw [r_given, if_neg (by rw [h1]; decide)], rfl, rfl⟩
