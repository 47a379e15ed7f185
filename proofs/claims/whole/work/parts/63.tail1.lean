/-! TAILS: the most, and the first row that has it -/
def tlN (a : AS) (t : Nat) : Nat := if hasI (lCut (aNow a)) (nI t) = true ∧ endB (aKd a) t = false then sv ((aLn a).getD t 0) - sv ((lCd (aNow a)).getD t 0) else 0
def mayB (a : AS) (t o : Nat) : Bool := hasI (lWhole (aNow a)) (nI o) && (!(endB (aKd a) o) && decide ((lCol (aNow a)).getD t 0 = (lCol (aNow a)).getD o 0))
def vdB (a : AS) (t s o : Nat) : Bool := decide (0 < tlN a t) && (mayB a t o && !(s.testBit o))
def mpS (a : AS) (t s : Nat) (g : Nat → Nat) : Nat → Nat × Int32 → Nat × Int32 := fun o p => if vdB a t s o = true ∧ p.1 < tlN a t + g (s ||| 2 ^ o) then (tlN a t + g (s ||| 2 ^ o), nI o) else p
def mP (a : AS) : Nat → Nat → Nat → Nat × Int32
  | 0, _, _ => (0, -1)
  | k + 1, t, s => iter (mpS a t s (fun s' => (mP a k (t + 1) s').1)) (aN a) 0 ((mP a k (t + 1) s).1, -1)
theorem tl_ok {a : AS} (hI : InvA a) {t : Nat} (ht : t < aN a) (hc : hasI (lCut (aNow a)) (nI t) = true) (he : endB (aKd a) t = false) : (aLn a).getD t 0 - (lCd (aNow a)).getD t 0 = nI (tlN a t) ∧ 0 < tlN a t := by
  obtain ⟨-, -, -, w, c, dd, hw, hw2, hcc, hc2, hday, hd9, hdis, hlen⟩ := hI.2.2.1
  have hn : aN a ≤ 8 := hI.1.1.1
  obtain ⟨l, el, l1, l60⟩ := hI.1.2.2.2.2.1 t ht
  have hb : c.testBit t = true := by rw [hcc, hasI_tb c (pow_256 hn hc2) t (by omega)] at hc; exact hc
  obtain ⟨k, ek, hk⟩ := (hlen t ht he).2 hb
  rw [tlN, if_pos ⟨hc, he⟩]
  have el : (aLn a).getD t 0 = nI l := el
  rw [el, sv_nI (by omega)] at hk
  rw [el, ek, sv_nI (by omega), sv_nI (by omega), pk_sub (by omega)]
  exact ⟨rfl, by omega⟩
theorem tl_le {a : AS} (hI : InvA a) {t : Nat} (ht : t < aN a) : tlN a t ≤ 60 := by
  obtain ⟨l, el, l1, l60⟩ := hI.1.2.2.2.2.1 t ht
  have el : (aLn a).getD t 0 = nI l := el
  unfold tlN
  rw [el, sv_nI (by omega)]
  split <;> omega
theorem mpS_le {a : AS} {t s B : Nat} {g : Nat → Nat} (hg : ∀ s, tlN a t + g s ≤ B) : ∀ n k p, p.1 ≤ B → (iter (mpS a t s g) n k p).1 ≤ B := by
  intro n
  induction n with
  | zero => intro k p h; exact h
  | succ n ih =>
    intro k p h
    rw [iter]
    apply ih
    unfold mpS
    split
    · exact hg _
    · exact h
theorem mP_le {a : AS} (hI : InvA a) : ∀ k t s, t + k ≤ aN a → (mP a k t s).1 ≤ 60 * k := by
  intro k
  induction k with
  | zero => intro t s _; exact Nat.le_refl _
  | succ k ih =>
    intro t s h
    have := tl_le hI (t := t) (by omega)
    rw [mP]
    refine mpS_le (fun s => ?_) _ _ _ ?_
    · have := ih (t + 1) s (by omega)
      omega
    · have := ih (t + 1) s (by omega)
      show (mP a k (t + 1) s).1 ≤ _
      omega
/-- the fold finds the first of the best -/
def FdR (a : AS) (t s : Nat) (g : Nat → Nat) (v0 m : Nat) (p : Nat × Int32) : Prop := ((p.2 = -1 ∧ p.1 = v0) ∨ ∃ o, o < m ∧ p.2 = nI o ∧ vdB a t s o = true ∧ p.1 = tlN a t + g (s ||| 2 ^ o) ∧ v0 < p.1 ∧ ∀ o', o' < o → vdB a t s o' = true → tlN a t + g (s ||| 2 ^ o') < p.1) ∧ (∀ o, o < m → vdB a t s o = true → tlN a t + g (s ||| 2 ^ o) ≤ p.1) ∧ v0 ≤ p.1
theorem fd_ok (a : AS) (t s : Nat) (g : Nat → Nat) (v0 : Nat) : ∀ m, FdR a t s g v0 m (iter (mpS a t s g) m 0 (v0, -1)) := by
  intro m
  induction m with
  | zero => exact ⟨Or.inl ⟨rfl, rfl⟩, fun o ho => absurd ho (by omega), Nat.le_refl _⟩
  | succ m ih =>
    rw [iter_succ, Nat.zero_add]
    generalize iter (mpS a t s g) m 0 (v0, -1) = p at ih
    obtain ⟨h1, h2, h3⟩ := ih
    rw [mpS]
    split
    · rename_i hc
      refine ⟨Or.inr ⟨m, by omega, rfl, hc.1, rfl, by show v0 < _; omega, fun o' ho' hv => ?_⟩, fun o ho hv => ?_, by show v0 ≤ _; omega⟩
      · have := h2 o' ho' hv
        show _ < tlN a t + g (s ||| 2 ^ m)
        omega
      · show _ ≤ tlN a t + g (s ||| 2 ^ m)
        rcases Nat.lt_or_ge o m with q | q
        · have := h2 o q hv; omega
        · have : o = m := by omega
          subst this; exact Nat.le_refl _
    · rename_i hc
      refine ⟨h1.imp id (fun ⟨o, q1, q2⟩ => ⟨o, by omega, q2⟩), fun o ho hv => ?_, h3⟩
      rcases Nat.lt_or_ge o m with q | q
      · exact h2 o q hv
      · have : o = m := by omega
        subst this
        exact Nat.not_lt.mp (fun z => hc ⟨hv, z⟩)
theorem mP_fd (a : AS) (k t s : Nat) : FdR a t s (fun s' => (mP a k (t + 1) s').1) (mP a k (t + 1) s).1 (aN a) (mP a (k + 1) t s) := fd_ok a t s _ _ _
def addC (s : Nat) (c : Int32) : Nat := if c = -1 then s else s ||| 2 ^ sv c
theorem addC_lt {a : AS} (hn : aN a ≤ 8) {k t s : Nat} (hs : s < 256) : addC s (mP a (k + 1) t s).2 < 256 := by
  obtain ⟨h1, -, -⟩ := mP_fd a k t s
  rw [addC]
  split
  · exact hs
  · rename_i hc
    obtain ⟨o, ho, eo, -⟩ := h1.resolve_left (fun z => hc z.1)
    rw [eo, sv_nI (by omega)]
    exact Nat.or_lt_two_pow (n := 8) hs (S8_bit o (by omega)).2
def bp (a : AS) : Nat → Nat → Nat → List Int32 → List Int32
  | 0, _, _, r => r
  | k + 1, t, s, r => bp a k (t + 1) (addC s (mP a (k + 1) t s).2) (r.set t (mP a (k + 1) t s).2)
/-- rows that agree but where they are written yet -/
def Agr (t n : Nat) (r r' : List Int32) : Prop := r.length = r'.length ∧ ∀ j, (j < t ∨ n ≤ j) → r.getD j 0 = r'.getD j 0
theorem Agr.rf {t n : Nat} {r : List Int32} : Agr t n r r := ⟨rfl, fun _ _ => rfl⟩
theorem Agr.set {t n : Nat} {r r' : List Int32} (h : Agr t n r r') (v : Int32) (ht : t < r.length) : Agr (t + 1) n (r.set t v) (r'.set t v) := by
  refine ⟨by rw [List.length_set, List.length_set]; exact h.1, fun j hj => ?_⟩
  by_cases e : t = j
  · subst e
    rw [getD_set_eq ht, getD_set_eq (by rw [← h.1]; exact ht)]
  · rw [getD_set_ne e, getD_set_ne e]
    exact h.2 j (by omega)
theorem bp_agr (a : AS) : ∀ k t s r r', t + k ≤ r.length → Agr t (t + k) r r' → bp a k t s r = bp a k t s r' := by
  intro k
  induction k with
  | zero => intro t s r r' _ h; exact getD_ext h.1 (fun j hj => h.2 j (by omega))
  | succ k ih =>
    intro t s r r' hl h
    rw [bp, bp]
    refine ih (t + 1) _ _ _ (by rw [List.length_set]; omega) ?_
    have := h.set (mP a (k + 1) t s).2 (by omega)
    rw [show t + 1 + k = t + (k + 1) by omega]
    exact this
abbrev TailP (a : AS) (k t s dd : Nat) (r f : List Int32) (most : Int32) (z : TlS) : Prop := Agr t (t + k) r z.1 ∧ z.2 = if most < nI (dd + (mP a k t s).1) then (bp a k t s r, nI (dd + (mP a k t s).1)) else (f, most)
def FreeR (a : AS) (s : Nat) (free : Int32) : Prop := ∃ fr, free = nI fr ∧ fr < 256 ∧ ∀ o, o < 8 → fr.testBit o = (hasI (lWhole (aNow a)) (nI o) && !(s.testBit o))
theorem FreeR.step {a : AS} {s : Nat} {free : Int32} (h : FreeR a s free) {o : Nat} (ho : o < 8) : FreeR a (s ||| 2 ^ o) (free &&& (bitI (nI o) ^^^ (-1))) := by
  obtain ⟨fr, rfl, h1, h2⟩ := h
  rw [(S8_bit o ho).1, nI_dif]
  refine ⟨_, rfl, Nat.lt_of_le_of_lt Nat.and_le_left h1, fun j hj => ?_⟩
  rw [dif_tb _ _ hj, h2 j hj, Nat.testBit_or, Nat.testBit_two_pow]
  cases hasI (lWhole (aNow a)) (nI j) <;> cases s.testBit j <;> cases decide (o = j) <;> rfl
theorem free_vd {a : AS} {t s : Nat} {free : Int32} (h : FreeR a s free) {o : Nat} (ho : o < 8) (htl : 0 < tlN a t) : (hasI free (nI o) = true ∧ fitB (tlE a) t o = true) ↔ vdB a t s o = true := by
  obtain ⟨fr, rfl, h1, h2⟩ := h
  rw [hasI_tb fr h1 o ho, h2 o ho, vdB, decide_eq_true htl, Bool.true_and, mayB, fitB]
  show _ ∧ (!(endB (aKd a) o) && decide ((lCol (aNow a)).getD o 0 = (lCol (aNow a)).getD t 0)) = true ↔ _
  rw [show decide ((lCol (aNow a)).getD o 0 = (lCol (aNow a)).getD t 0) = decide ((lCol (aNow a)).getD t 0 = (lCol (aNow a)).getD o 0) from decide_eq_decide.mpr ⟨Eq.symm, Eq.symm⟩]
  cases hasI (lWhole (aNow a)) (nI o) <;> cases s.testBit o <;> cases endB (aKd a) o <;> simp
def gvO (q : TlE) (k t : Nat) (free days : Int32) : Nat → TlS → TlS := fun o s => if hasI free (nI o) = true ∧ fitB q t o = true then givF q k (t + 1) (free &&& (bitI (nI o) ^^^ (-1))) (days + tailI q t) (s.1.set t (nI o), s.2) else s
theorem giv_ok {a : AS} (hI : InvA a) : ∀ k t s dd free r f most, t + k = aN a → r.length = 8 → FreeR a s free → dd + 60 * k < 1000 → (most = -1 ∨ ∃ mm, mm < 1000 ∧ most = nI mm) → TailP a k t s dd r f most (givF (tlE a) k t free (nI dd) (r, f, most)) := by
  have hn : aN a ≤ 8 := hI.1.1.1
  intro k
  induction k with
  | zero =>
    intro t s dd free r f most hk hl hf hd hm
    rw [givF, takeT]
    refine ⟨?_, ?_⟩
    · split <;> exact Agr.rf
    · show (if most < nI dd then (r, r, nI dd) else (r, f, most)).2 = if most < nI (dd + 0) then (r, nI (dd + 0)) else (f, most)
      rw [Nat.add_zero]
      split <;> rfl
  | succ k ih =>
    intro t s dd free r f most hk hl hf hd hm
    have ht : t < aN a := by omega
    have first := ih (t + 1) s dd free (r.set t (-1)) f most (by omega) (by rw [List.length_set]; exact hl) hf (by omega) hm
    have agS : ∀ (z : List Int32) (v : Int32), Agr (t + 1) (t + 1 + k) (r.set t v) z → Agr t (t + (k + 1)) r z := fun z v h => ⟨by rw [← h.1, List.length_set], fun j hj => by
      rw [← h.2 j (by omega), getD_set_ne (by omega)]⟩
    rw [givF]
    by_cases hc : hasI (tlE a).2.2.2.1 (nI t) = true ∧ endB (tlE a).2.1 t = false
    · rw [if_pos hc]
      obtain ⟨htv, htp⟩ := tl_ok hI ht hc.1 hc.2
      have ht60 := tl_le hI ht
      have key := iter_inv (fun o (z : TlS × (Nat × Int32)) => (gvO (tlE a) k t free (nI dd) o z.1, mpS a t s (fun s' => (mP a k (t + 1) s').1) o z.2)) (aN a) (fun o z => (Agr t (t + (k + 1)) r z.1.1 ∧ z.1.2 = if most < nI (dd + z.2.1) then (bp a k (t + 1) (addC s z.2.2) (r.set t z.2.2), nI (dd + z.2.1)) else (f, most)) ∧ z.2.1 ≤ 60 * (k + 1)) (fun o z ho hz => ?_) (aN a) 0 (givF (tlE a) k (t + 1) free (nI dd) (r.set t (-1), f, most), ((mP a k (t + 1) s).1, -1)) (by omega) ⟨⟨agS _ _ first.1, first.2⟩, by
        have := mP_le hI k (t + 1) s (by omega)
        show (mP a k (t + 1) s).1 ≤ _
        omega⟩
      · rw [iter2 (gvO (tlE a) k t free (nI dd)) (mpS a t s (fun s' => (mP a k (t + 1) s').1))] at key
        obtain ⟨⟨k1, k2⟩, -⟩ := key
        refine ⟨k1, ?_⟩
        rw [mP, bp, mP]
        exact k2
      · obtain ⟨⟨z1, z2⟩, z3⟩ := hz
        dsimp only
        rw [gvO]
        rw [show nI dd + tailI (tlE a) t = nI (dd + tlN a t) by rw [show tailI (tlE a) t = nI (tlN a t) from htv, nI_add]]
        have hmo := mP_le hI k (t + 1) (s ||| 2 ^ o) (by omega)
        by_cases hv : vdB a t s o = true
        · rw [if_pos ((free_vd hf (by omega) htp).mpr hv)]
          have hz1 : z.1.1.length = 8 := by rw [← z1.1]; exact hl
          have hmost : (z.1.2.2 = -1 ∨ ∃ mm, mm < 1000 ∧ z.1.2.2 = nI mm) := by
            rw [z2]
            split
            · exact Or.inr ⟨_, by omega, rfl⟩
            · exact hm
          obtain ⟨q1, q2⟩ := ih (t + 1) (s ||| 2 ^ o) (dd + tlN a t) (free &&& (bitI (nI o) ^^^ (-1))) (z.1.1.set t (nI o)) z.1.2.1 z.1.2.2 (by omega) (by rw [List.length_set]; exact hz1) (hf.step (by omega)) (by omega) hmost
          have hag : Agr (t + 1) (t + 1 + k) (r.set t (nI o)) (z.1.1.set t (nI o)) := by
            rw [show t + 1 + k = t + (k + 1) by omega]
            exact z1.set _ (by omega)
          refine ⟨⟨agS _ (nI o) ⟨hag.1.trans q1.1, fun j hj => (hag.2 j hj).trans (q1.2 j hj)⟩, ?_⟩, ?_⟩
          · rw [show (z.1.1.set t (nI o), z.1.2) = (z.1.1.set t (nI o), z.1.2.1, z.1.2.2) from rfl, q2, ← bp_agr a k (t + 1) (s ||| 2 ^ o) _ _ (by rw [List.length_set]; omega) hag, mpS, Nat.add_assoc]
            by_cases hlt : z.2.1 < tlN a t + (mP a k (t + 1) (s ||| 2 ^ o)).1
            · rw [if_pos (show vdB a t s o = true ∧ z.2.1 < tlN a t + (mP a k (t + 1) (s ||| 2 ^ o)).1 from ⟨hv, hlt⟩)]
              have hadd : addC s (nI o) = s ||| 2 ^ o := by rw [addC, if_neg (nI_nm1 (by omega)), sv_nI (by omega)]
              show _ = if most < nI (dd + (tlN a t + (mP a k (t + 1) (s ||| 2 ^ o)).1)) then (bp a k (t + 1) (addC s (nI o)) (r.set t (nI o)), nI (dd + (tlN a t + (mP a k (t + 1) (s ||| 2 ^ o)).1))) else (f, most)
              rw [hadd]
              by_cases hm1 : most < nI (dd + z.2.1)
              · have hlt2 : nI (dd + z.2.1) < nI (dd + (tlN a t + (mP a k (t + 1) (s ||| 2 ^ o)).1)) := nI_lt (by omega) (by omega)
                rw [if_pos hm1] at z2
                rw [z2, if_pos hlt2, if_pos (Int32.lt_trans hm1 hlt2)]
              · rw [if_neg hm1] at z2
                rw [z2]
            · rw [if_neg (show ¬ (vdB a t s o = true ∧ z.2.1 < tlN a t + (mP a k (t + 1) (s ||| 2 ^ o)).1) from fun w => hlt w.2)]
              have hle : nI (dd + (tlN a t + (mP a k (t + 1) (s ||| 2 ^ o)).1)) ≤ nI (dd + z.2.1) := nI_le (by omega) (by omega)
              by_cases hm1 : most < nI (dd + z.2.1)
              · rw [if_pos hm1] at z2 ⊢
                rw [z2, if_neg (Int32.not_lt.mpr hle)]
              · rw [if_neg hm1] at z2 ⊢
                rw [z2, if_neg (fun w => hm1 (Int32.lt_of_lt_of_le w hle))]
          · rw [mpS]
            split
            · show tlN a t + (mP a k (t + 1) (s ||| 2 ^ o)).1 ≤ _
              omega
            · exact z3
        · have em : mpS a t s (fun s' => (mP a k (t + 1) s').1) o z.2 = z.2 := if_neg (fun w => hv w.1)
          rw [if_neg (fun w => hv ((free_vd hf (by omega) htp).mp w)), em]
          exact ⟨⟨z1, z2⟩, z3⟩
    · rw [if_neg hc]
      have hz : tlN a t = 0 := if_neg hc
      have hmp : mP a (k + 1) t s = ((mP a k (t + 1) s).1, -1) := by
        rw [mP]
        refine iter_inv _ (aN a) (fun _ p => p = ((mP a k (t + 1) s).1, -1)) (fun o p ho hp => ?_) (aN a) 0 _ (by omega) rfl
        have hvf : vdB a t s o = false := by rw [vdB, hz]; rfl
        rw [hp, mpS, if_neg (show ¬ (vdB a t s o = true ∧ _) from fun w => by rw [hvf] at w; cases w.1)]
      refine ⟨agS _ _ first.1, ?_⟩
      rw [first.2, bp, hmp]
      rfl
