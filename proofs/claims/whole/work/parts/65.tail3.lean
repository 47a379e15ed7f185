def pcS (a : AS) : Nat → Nat × Int32 → Nat × Int32 := fun t p => (addC p.1 (mP a (aN a - t) t p.1).2, (mP a (aN a - t) t p.1).2)
def rT (a : AS) (t : Int32) : Int32 := if ¬ t = -1 ∧ knB (aN a) t = false then -2 else if t = -1 then nI (mP a (aN a) 0 0).1 else (iter (pcS a) (sv t + 1) 0 (0, -1)).2
theorem bp_lo (a : AS) : ∀ k t s r j, j < t → (bp a k t s r).getD j 0 = r.getD j 0 := by
  intro k
  induction k with
  | zero => intro t s r j _; rfl
  | succ k ih => intro t s r j h; rw [bp, ih (t + 1) _ _ j (by omega), getD_set_ne (by omega)]
theorem bp_at (a : AS) : ∀ k t s r c0 j, t + k = aN a → t + k ≤ r.length → j < k → (bp a k t s r).getD (t + j) 0 = (iter (pcS a) (j + 1) t (s, c0)).2 := by
  intro k
  induction k with
  | zero => intro t s r c0 j _ _ h; omega
  | succ k ih =>
    intro t s r c0 j hk hl hj
    have e : aN a - t = k + 1 := by omega
    rw [bp, iter, show pcS a t (s, c0) = (addC s (mP a (k + 1) t s).2, (mP a (k + 1) t s).2) by rw [pcS, e]]
    cases j with
    | zero =>
      show (bp a k (t + 1) (addC s (mP a (k + 1) t s).2) (r.set t (mP a (k + 1) t s).2)).getD t 0 = (mP a (k + 1) t s).2
      rw [bp_lo a k (t + 1) _ _ t (by omega), getD_set_eq (by omega)]
    | succ j =>
      have := ih (t + 1) (addC s (mP a (k + 1) t s).2) (r.set t (mP a (k + 1) t s).2) (mP a (k + 1) t s).2 j (by omega) (by rw [List.length_set]; omega) (by omega)
      rw [show t + 1 + j = t + (j + 1) by omega] at this
      exact this
theorem tails_eq {a : AS} (hI : InvA a) (r f : List Int32) (hr : r.length = 8) (t : Int32) : r_tails a r f t = rT a t := by
  have hn : aN a ≤ 8 := hI.1.1.1
  obtain ⟨-, -, -, w, c, dd, hw, hw2, -⟩ := hI.2.2.1
  have hw3 := pow_256 hn hw2
  have hb := mP_le hI (aN a) 0 0 (by omega)
  have h := giv_ok hI (aN a) 0 0 0 (lWhole (aNow a)) r f (-1) (by omega) hr ⟨w, hw, hw3, fun o ho => by rw [hw, hasI_tb w hw3 o ho, Nat.zero_testBit]; simp⟩ (by omega) (Or.inl rfl)
  have h2 := h.2
  rw [if_pos (Int32.lt_of_lt_of_le (show (-1 : Int32) < 0 by decide) (nI_pos' (by omega))), Nat.zero_add] at h2
  have hA : (tlA a r f).2 = (bp a (aN a) 0 0 r, nI (mP a (aN a) 0 0).1) := h2
  rw [r_tails, rT, hA]
  by_cases h1 : ¬ t = -1 ∧ knB (aN a) t = false
  · rw [if_pos h1, if_pos h1]
  · rw [if_neg h1, if_neg h1]
    by_cases h3 : t = -1
    · rw [if_pos h3, if_pos h3]
    · rw [if_neg h3, if_neg h3]
      have hk : knB (aN a) t = true := by
        cases hq : knB (aN a) t with
        | true => rfl
        | false => exact absurd ⟨h3, hq⟩ h1
      obtain ⟨j, hj, rfl⟩ := knB_ok hn hk
      rw [sv_nI (by omega)]
      have := bp_at a (aN a) 0 0 r (-1) j (by omega) (by omega) hj
      rw [Nat.zero_add] at this
      exact this
/-- the last one down that fits -/
def lsD (q : Nat → Bool) : Nat → Int32 → Int32
  | 0, x => x
  | m + 1, x => lsD q m (if q m = true then nI m else x)
theorem lsD_no (q : Nat → Bool) : ∀ m x, (∀ o, o < m → q o = false) → lsD q m x = x := by
  intro m
  induction m with
  | zero => intro x _; rfl
  | succ m ih =>
    intro x h
    rw [lsD, ih _ (fun o ho => h o (by omega)), if_neg (by rw [h m (by omega)]; decide)]
theorem lsD_at (q : Nat → Bool) {o : Nat} (ho : q o = true) (hl : ∀ o', o' < o → q o' = false) : ∀ m x, o < m → lsD q m x = nI o := by
  intro m
  induction m with
  | zero => intro x h; omega
  | succ m ih =>
    intro x h
    rw [lsD]
    rcases Nat.lt_or_ge o m with e | e
    · exact ih _ e
    · have e : o = m := by omega
      subst e
      rw [if_pos ho, lsD_no q o _ hl]
def cdB (a : AS) (t s : Nat) (o : Nat) : Bool := vdB a t s o && decide (tlN a t + (mP a (aN a - (t + 1)) (t + 1) (s ||| 2 ^ o)).1 = (mP a (aN a - t) t s).1)
theorem m_tails (d : Nat) (hd : 20 ≤ d) (F : FT) (G : GT) (a : AS) (hM : MR a F G) (hI : InvA a) (z : Int32) : Kc DX7_tails d [.ref 89, .int z] F G (MP (rT a z, a) F G) := by
  obtain ⟨⟨e2, -⟩, -⟩ := id hM
  have hn : aN a ≤ 8 := hI.1.1.1
  refine Kc.ofT [some (.ref 89), some (.int z), none, none, none, none, none, none] pn_X7 (Nat.le_of_ble_eq_true rfl) rfl ?_
  have main : ¬ (¬ z = -1 ∧ knB (aN a) z = false) → T DX7_tails d 16 [some (.ref 89), some (.int z), none, none, none, none, none, none] [] F G (MP (rT a z, a) F G) := by
    intro hz
    refine T_al0 dX7_tails_16 ?_
    refine T_cV0 lX7_238 rfl (by decide) (cell_89 _ _) (m_findMosts _ (by omega) F G a hM hI) (by omega) (Nat.le_of_ble_eq_true rfl) dX7_tails_17 (fun v F' G' hP => ?_)
    obtain ⟨rfl, rfl, L, ⟨hL1, hL2⟩, rfl⟩ := hP
    have hML : MR a F' (u1 G 110 L) := hM
    have fin : ∀ x : Int32, x = rT a z → MP (rT a z, a) F' G (some (.int x)) F' (u1 G 110 L) := fun x hx => ⟨by rw [hx], hML, FrX.rf.u1 (by decide)⟩
    by_cases hm1 : z = -1
    · subst hm1
      refine T_il1 dX7_tails_20 ?_
      refine T_if_ge_f 31 dX7_tails_21 (by decide) m1_neg ?_
      refine T_al0 dX7_tails_24 ?_
      refine T_g7 gX7_71 (cell_89 _ _) rfl dX7_tails_25 ?_
      refine T_iconst (v := nI 0) dX7_tails_28 rfl ?_
      refine T_aldN (a := 110) rfl (show 0 < 2304 by decide) dX7_tails_29 ?_
      rw [u1_s]
      refine T_iret rfl dX7_tails_30 ?_
      refine fin _ ?_
      have := hL2 0 0 (by omega) (by omega) (by decide)
      rw [Nat.sub_zero] at this
      rw [show (0 : Nat) = 256 * 0 + 0 from rfl, this, rT, if_neg hz, if_pos rfl]
    · have hk : knB (aN a) z = true := by
        cases hq : knB (aN a) z with
        | true => rfl
        | false => exact absurd ⟨hm1, hq⟩ hz
      obtain ⟨th, hth, rfl⟩ := knB_ok hn hk
      refine T_il1 dX7_tails_20 ?_
      refine T_if_ge_t 31 dX7_tails_21 (by decide) (nI_pos' (by omega)) ?_
      refine T_iconst (v := nI 0) dX7_tails_31 rfl ?_
      refine T_is2 dX7_tails_32 rfl ?_
      refine T_iconst (v := -1) dX7_tails_33 rfl ?_
      refine T_is3 dX7_tails_34 rfl ?_
      refine T_iconst (v := nI 0) dX7_tails_35 rfl ?_
      refine T_is4 dX7_tails_36 rfl ?_
      suffices hs : ∀ o5 o6 o7 : Option Value, T DX7_tails d 38 [some (.ref 89), some (.int (nI th)), some (.int (nI 0)), some (.int (-1)), some (.int (nI 0)), o5, o6, o7] [] F' (u1 G 110 L) (MP (rT a (nI th), a) F' G) from hs _ _ _
      refine for_inv (pcS a) (th + 1) (fun t p => ∀ o5 o6 o7 : Option Value, T DX7_tails d 38 [some (.ref 89), some (.int (nI th)), some (.int (nI p.1)), some (.int p.2), some (.int (nI t)), o5, o6, o7] [] F' (u1 G 110 L) (MP (rT a (nI th), a) F' G)) (fun _ p => p.1 < 256) (fun t p ht hp => ?_) ?_ (th + 1) 0 (0, -1) (by omega) (by decide) ?_
      · rw [pcS, show aN a - t = (aN a - (t + 1)) + 1 by omega]
        exact addC_lt hn hp
      · intro t p ht hp h o5 o6 o7
        have ht' : t < aN a := by omega
        have hb1 := mP_le hI (aN a - (t + 1)) (t + 1) p.1 (by omega)
        have hb0 := mP_le hI (aN a - t) t p.1 (by omega)
        have hfd := mP_fd a (aN a - (t + 1)) t p.1
        rw [show (aN a - (t + 1)) + 1 = aN a - t by omega] at hfd
        obtain ⟨f1, f2, f3⟩ := hfd
        have htl := tl_le hI ht'
        rw [pcS] at h
        have tail : ∀ (o5 o6 o7 : Option Value), T DX7_tails d 199 [some (.ref 89), some (.int (nI th)), some (.int (nI p.1)), some (.int (mP a (aN a - t) t p.1).2), some (.int (nI t)), o5, o6, o7] [] F' (u1 G 110 L) (MP (rT a (nI th), a) F' G) := by
          intro o5 o6 o7
          rcases f1 with ⟨q1, q2⟩ | ⟨o, ho, q1, q2⟩
          · rw [q1, addC, if_pos rfl] at h
            rw [q1]
            refine T_il2 dX7_tails_199 ?_
            refine T_il3 dX7_tails_200 ?_
            refine T_if_ge_f 208 dX7_tails_201 (by decide) m1_neg ?_
            refine T_iconst (v := nI 0) dX7_tails_204 rfl ?_
            refine T_goto 211 dX7_tails_205 (by decide) ?_
            refine T_ior dX7_tails_211 ?_
            rw [or_0]
            refine T_is2 dX7_tails_212 rfl ?_
            refine T_ii4 dX7_tails_213 (by first | exact nI_inc _ | exact nI_dec _ | rfl) rfl ?_
            refine T_goto 38 dX7_tails_216 (by decide) ?_
            exact h _ _ _
          · rw [q1, addC, if_neg (nI_nm1 (by omega)), sv_nI (by omega)] at h
            rw [q1]
            refine T_il2 dX7_tails_199 ?_
            refine T_il3 dX7_tails_200 ?_
            refine T_if_ge_t 208 dX7_tails_201 (by decide) (nI_pos' (by omega)) ?_
            refine T_iconst (v := nI 1) dX7_tails_208 rfl ?_
            refine T_il3 dX7_tails_209 ?_
            refine T_ishl dX7_tails_210 ?_
            refine T_ior dX7_tails_211 ?_
            rw [show nI 1 <<< (nI o &&& 31) = bitI (nI o) from rfl, (S8_bit o (by omega)).1, nI_or]
            refine T_is2 dX7_tails_212 rfl ?_
            refine T_ii4 dX7_tails_213 (by first | exact nI_inc _ | exact nI_dec _ | rfl) rfl ?_
            refine T_goto 38 dX7_tails_216 (by decide) ?_
            exact h _ _ _
        refine T_il4 dX7_tails_38 ?_
        refine T_il1 dX7_tails_40 ?_
        refine T_ngt_f 219 dX7_tails_41 (by decide) (by omega) (by omega) (by omega) ?_
        refine T_iconst (v := -1) dX7_tails_44 rfl ?_
        refine T_is3 dX7_tails_45 rfl ?_
        refine T_al0 dX7_tails_46 ?_
        refine T_g7 gX7_71 (cell_89 _ _) rfl dX7_tails_47 ?_
        refine T_sipush (v := nI 256) dX7_tails_50 (by decide +kernel) ?_
        refine T_il4 dX7_tails_53 ?_
        refine T_iconst (v := nI 1) dX7_tails_55 rfl ?_
        first | refine T_iaddN dX7_tails_56 ?_ | refine T_iadd dX7_tails_56 ?_
        first | refine T_imulN dX7_tails_57 ?_ | refine T_imul dX7_tails_57 ?_
        refine T_il2 dX7_tails_58 ?_
        first | refine T_iaddN dX7_tails_59 ?_ | refine T_iadd dX7_tails_59 ?_
        refine T_aldN (a := 110) rfl (show 256 * (t + 1) + p.1 < 2304 by omega) dX7_tails_60 ?_
        rw [u1_s, hL2 (t + 1) p.1 (by omega) (by omega) hp]
        refine T_al0 dX7_tails_61 ?_
        refine T_g7 gX7_71 (cell_89 _ _) rfl dX7_tails_62 ?_
        refine T_sipush (v := nI 256) dX7_tails_65 (by decide +kernel) ?_
        refine T_il4 dX7_tails_68 ?_
        first | refine T_imulN dX7_tails_70 ?_ | refine T_imul dX7_tails_70 ?_
        refine T_il2 dX7_tails_71 ?_
        first | refine T_iaddN dX7_tails_72 ?_ | refine T_iadd dX7_tails_72 ?_
        refine T_aldN (a := 110) rfl (show 256 * t + p.1 < 2304 by omega) dX7_tails_73 ?_
        rw [u1_s, hL2 t p.1 (by omega) (by omega) hp]
        refine T_nne 81 dX7_tails_74 (by decide) (by omega) (by omega) (fun h1 => ?_) (fun h1 => ?_)
        · refine T_iconst (v := nI 0) dX7_tails_81 rfl ?_
          refine T_is5 dX7_tails_82 rfl ?_
          refine T_al0 dX7_tails_84 ?_
          refine T_g7 gX7_74 (cell_89 _ _) rfl dX7_tails_85 ?_
          rw [e2]
          refine T_iconst (v := nI 1) dX7_tails_88 rfl ?_
          refine T_isub dX7_tails_89 ?_
          refine T_is6 dX7_tails_90 rfl ?_
          suffices hd2 : ∀ (m : Nat) (to : Int32) (o7 : Option Value), m ≤ aN a → T DX7_tails d 92 [some (.ref 89), some (.int (nI th)), some (.int (nI p.1)), some (.int to), some (.int (nI t)), some (.int (nI 0)), some (.int (nI m - nI 1)), o7] [] F' (u1 G 110 L) (MP (rT a (nI th), a) F' G) ∨ ¬ lsD (cdB a t p.1) m to = (mP a (aN a - t) t p.1).2 by
            refine (hd2 (aN a) (-1) o7 (Nat.le_refl _)).resolve_right (fun q => q ?_)
            obtain ⟨o, ho, q1, q2, q3, q4, q5⟩ := f1.resolve_left (fun q => h1 q.2.symm)
            rw [q1]
            refine lsD_at _ (by rw [cdB, q2, decide_eq_true q3.symm]; rfl) (fun o' ho' => ?_) _ _ ho
            rw [cdB]
            cases hv : vdB a t p.1 o' with
            | false => rfl
            | true =>
              have : tlN a t + (mP a (aN a - (t + 1)) (t + 1) (p.1 ||| 2 ^ o')).1 < (mP a (aN a - t) t p.1).1 := q5 o' ho' hv
              rw [Bool.true_and]
              exact decide_eq_false (by omega)
          intro m
          induction m with
          | zero =>
            intro to o7 _
            by_cases hq : lsD (cdB a t p.1) 0 to = (mP a (aN a - t) t p.1).2
            · left
              have hq : to = (mP a (aN a - t) t p.1).2 := hq
              rw [hq]
              refine T_il6 dX7_tails_92 ?_
              refine T_if_lt_t 199 dX7_tails_94 (by decide) (by decide) ?_
              exact tail _ _ _
            · exact Or.inr hq
          | succ o ih =>
            intro to o7 hm
            have ho : o < aN a := by omega
            have ho8 : o < 8 := by omega
            have hb2 := mP_le hI (aN a - (t + 1)) (t + 1) (p.1 ||| 2 ^ o) (by omega)
            have hso : p.1 ||| 2 ^ o < 256 := Nat.or_lt_two_pow (n := 8) hp (S8_bit o ho8).2
            by_cases hq : lsD (cdB a t p.1) (o + 1) to = (mP a (aN a - t) t p.1).2
            · left
              rw [lsD] at hq
              have hnx := fun o7 => (ih (if cdB a t p.1 o = true then nI o else to) o7 (by omega)).resolve_right (fun w => w hq)
              rw [show nI (o + 1) - nI 1 = nI o from nI_pred o]
              refine T_il6 dX7_tails_92 ?_
              refine T_if_lt_f 199 dX7_tails_94 (by decide) (nI_pos (by omega)) ?_
              refine T_il5 dX7_tails_97 ?_
              refine T_if_ne_f 199 dX7_tails_99 (by decide) nI_0 ?_
              refine T_al0 dX7_tails_102 ?_
              refine T_il4 dX7_tails_103 ?_
              refine T_pV1 lX7_232 rfl (by decide) (cell_89 _ _) (m_tailOf _ F' _ a hML hI t ht') (by omega) (Nat.le_of_ble_eq_true rfl) dX7_tails_105 ?_
              have no : cdB a t p.1 o = false → T DX7_tails d 178 [some (.ref 89), some (.int (nI th)), some (.int (nI p.1)), some (.int to), some (.int (nI t)), some (.int (nI 0)), some (.int (nI o)), o7] [] F' (u1 G 110 L) (MP (rT a (nI th), a) F' G) := by
                intro hc
                rw [if_neg (by rw [hc]; decide)] at hnx
                refine T_iconst (v := nI 0) dX7_tails_178 rfl ?_
                refine T_is7 dX7_tails_179 rfl ?_
                refine T_il7 dX7_tails_181 ?_
                refine T_if_eq_t 191 dX7_tails_183 (by decide) nI_0 ?_
                refine T_il3 dX7_tails_191 ?_
                refine T_is3 dX7_tails_192 rfl ?_
                refine T_ii6 dX7_tails_193 (sub_inc o) rfl ?_
                refine T_goto 92 dX7_tails_196 (by decide) ?_
                exact hnx _
              rcases Nat.eq_zero_or_pos (tlN a t) with hz0 | hz0
              · rw [hz0]
                refine T_if_le_t 178 dX7_tails_108 (by decide) (by decide) ?_
                exact no (by rw [cdB, vdB, hz0]; rfl)
              · refine T_if_le_f 178 dX7_tails_108 (by decide) (Int32.not_le.mpr (show (0 : Int32) < nI (tlN a t) from nI_lt hz0 (by omega))) ?_
                refine T_al0 dX7_tails_111 ?_
                refine T_il4 dX7_tails_112 ?_
                refine T_il6 dX7_tails_114 ?_
                refine T_pV2 lX7_235 rfl (by decide) (cell_89 _ _) (m_mayHave _ (by omega) F' _ a hML hI t o ht' ho) (by omega) (Nat.le_of_ble_eq_true rfl) dX7_tails_116 ?_
                refine T_beq 178 dX7_tails_119 (by decide) (fun h3 => ?_) (fun h3 => ?_)
                · exact no (by rw [cdB, vdB, h3, Bool.false_and, Bool.and_false, Bool.false_and])
                · refine T_il2 dX7_tails_122 ?_
                  refine T_il6 dX7_tails_123 ?_
                  refine T_pS2 lX7_124 (m_has _ _ _ _ _) (by omega) (Nat.le_of_ble_eq_true rfl) dX7_tails_125 ?_
                  rw [hasI_tb p.1 hp o ho8]
                  refine T_bne 178 dX7_tails_128 (by decide) (fun h4 => ?_) (fun h4 => ?_)
                  · exact no (by rw [cdB, vdB, h4, Bool.not_true, Bool.and_false, Bool.and_false, Bool.false_and])
                  · have hv : vdB a t p.1 o = true := by rw [vdB, decide_eq_true hz0, h3, h4]; rfl
                    refine T_al0 dX7_tails_131 ?_
                    refine T_il4 dX7_tails_132 ?_
                    refine T_pV1 lX7_232 rfl (by decide) (cell_89 _ _) (m_tailOf _ F' _ a hML hI t ht') (by omega) (Nat.le_of_ble_eq_true rfl) dX7_tails_134 ?_
                    refine T_al0 dX7_tails_137 ?_
                    refine T_g7 gX7_71 (cell_89 _ _) rfl dX7_tails_138 ?_
                    refine T_sipush (v := nI 256) dX7_tails_141 (by decide +kernel) ?_
                    refine T_il4 dX7_tails_144 ?_
                    refine T_iconst (v := nI 1) dX7_tails_146 rfl ?_
                    first | refine T_iaddN dX7_tails_147 ?_ | refine T_iadd dX7_tails_147 ?_
                    first | refine T_imulN dX7_tails_148 ?_ | refine T_imul dX7_tails_148 ?_
                    refine T_il2 dX7_tails_149 ?_
                    refine T_iconst (v := nI 1) dX7_tails_150 rfl ?_
                    refine T_il6 dX7_tails_151 ?_
                    refine T_ishl dX7_tails_153 ?_
                    refine T_ior dX7_tails_154 ?_
                    rw [show nI 1 <<< (nI o &&& 31) = bitI (nI o) from rfl, (S8_bit o ho8).1, nI_or]
                    first | refine T_iaddN dX7_tails_155 ?_ | refine T_iadd dX7_tails_155 ?_
                    refine T_aldN (a := 110) rfl (show 256 * (t + 1) + (p.1 ||| 2 ^ o) < 2304 by omega) dX7_tails_156 ?_
                    rw [u1_s, hL2 (t + 1) _ (by omega) (by omega) hso]
                    first | refine T_iaddN dX7_tails_157 ?_ | refine T_iadd dX7_tails_157 ?_
                    refine T_al0 dX7_tails_158 ?_
                    refine T_g7 gX7_71 (cell_89 _ _) rfl dX7_tails_159 ?_
                    refine T_sipush (v := nI 256) dX7_tails_162 (by decide +kernel) ?_
                    refine T_il4 dX7_tails_165 ?_
                    first | refine T_imulN dX7_tails_167 ?_ | refine T_imul dX7_tails_167 ?_
                    refine T_il2 dX7_tails_168 ?_
                    first | refine T_iaddN dX7_tails_169 ?_ | refine T_iadd dX7_tails_169 ?_
                    refine T_aldN (a := 110) rfl (show 256 * t + p.1 < 2304 by omega) dX7_tails_170 ?_
                    rw [u1_s, hL2 t p.1 (by omega) (by omega) hp]
                    refine T_nne 178 dX7_tails_171 (by decide) (by omega) (by omega) (fun h5 => ?_) (fun h5 => ?_)
                    · exact no (by rw [cdB, hv, Bool.true_and]; exact decide_eq_false h5)
                    · rw [if_pos (show cdB a t p.1 o = true by rw [cdB, hv, Bool.true_and]; exact decide_eq_true h5)] at hnx
                      refine T_iconst (v := nI 1) dX7_tails_174 rfl ?_
                      refine T_goto 179 dX7_tails_175 (by decide) ?_
                      refine T_is7 dX7_tails_179 rfl ?_
                      refine T_il7 dX7_tails_181 ?_
                      refine T_if_eq_f 191 dX7_tails_183 (by decide) (nI_ne0 (by decide) (by decide)) ?_
                      refine T_il6 dX7_tails_186 ?_
                      refine T_goto 192 dX7_tails_188 (by decide) ?_
                      refine T_is3 dX7_tails_192 rfl ?_
                      refine T_ii6 dX7_tails_193 (sub_inc o) rfl ?_
                      refine T_goto 92 dX7_tails_196 (by decide) ?_
                      exact hnx _
            · exact Or.inr hq
        · have hc : (mP a (aN a - t) t p.1).2 = -1 := by
            rcases f1 with ⟨q1, q2⟩ | ⟨o, ho, q1, q2, q3, q4, q5⟩
            · exact q1
            · omega
          refine T_iconst (v := nI 1) dX7_tails_77 rfl ?_
          refine T_goto 82 dX7_tails_78 (by decide) ?_
          refine T_is5 dX7_tails_82 rfl ?_
          refine T_al0 dX7_tails_84 ?_
          refine T_g7 gX7_74 (cell_89 _ _) rfl dX7_tails_85 ?_
          rw [e2]
          refine T_iconst (v := nI 1) dX7_tails_88 rfl ?_
          refine T_isub dX7_tails_89 ?_
          rw [pk_sub (by omega)]
          refine T_is6 dX7_tails_90 rfl ?_
          refine T_il6 dX7_tails_92 ?_
          refine T_if_lt_f 199 dX7_tails_94 (by decide) (nI_pos (by omega)) ?_
          refine T_il5 dX7_tails_97 ?_
          refine T_if_ne_t 199 dX7_tails_99 (by decide) (nI_ne0 (by decide) (by decide)) ?_
          have := tail (some (.int (nI 1))) (some (.int (nI (aN a - 1)))) o7
          rw [hc] at this
          exact this
      · intro hp o5 o6 o7
        refine T_il4 dX7_tails_38 ?_
        refine T_il1 dX7_tails_40 ?_
        refine T_ngt_t 219 dX7_tails_41 (by decide) (by omega) (by omega) (by omega) ?_
        refine T_il3 dX7_tails_219 ?_
        refine T_iret rfl dX7_tails_220 ?_
        exact fin _ (by rw [rT, if_neg hz, if_neg hm1, sv_nI (by omega)])
  refine T_il1 dX7_tails_0 ?_
  refine T_iconst (v := -1) dX7_tails_1 rfl ?_
  refine T_icmp_eq 16 dX7_tails_2 (by decide) (fun h1 => ?_) (fun h1 => ?_)
  · exact main (fun w => w.1 h1)
  · refine T_al0 dX7_tails_5 ?_
    refine T_il1 dX7_tails_6 ?_
    refine T_pV1 lX7_172 rfl (by decide) (cell_89 _ _) (m_isThread _ (by omega) _ _ _ (by assumption) (by assumption) _) (by omega) (Nat.le_of_ble_eq_true rfl) dX7_tails_7 ?_
    refine T_bne 16 dX7_tails_10 (by decide) (fun h2 => ?_) (fun h2 => ?_)
    · exact main (fun w => by rw [h2] at w; cases w.2)
    · refine T_bipush (v := -2) dX7_tails_13 (by decide +kernel) ?_
      refine T_iret rfl dX7_tails_15 ?_
      rw [rT, if_pos ⟨h1, h2⟩]
      exact MP.rf hM
