theorem T_bne_t {D : MD} {d pc : Nat} {L : List (Option Value)} {st : List Value} {F : FT} {G : GT} {P : Option Value → FT → GT → Prop} {q : Bool} {off : Int} (tgt : Nat) (hd : decode D.2.1 pc = .ok (.ifCond .ne off, 3)) (ht : (pc : Int) + off = (tgt : Int)) (h : q = true) (k : T D d tgt L st F G P) : T D d pc L (.int (bI q) :: st) F G P := T_bne tgt hd ht (fun _ => k) (fun z => by rw [h] at z; cases z)
theorem T_bne_f {D : MD} {d pc : Nat} {L : List (Option Value)} {st : List Value} {F : FT} {G : GT} {P : Option Value → FT → GT → Prop} {q : Bool} {off : Int} (tgt : Nat) (hd : decode D.2.1 pc = .ok (.ifCond .ne off, 3)) (ht : (pc : Int) + off = (tgt : Int)) (h : q = false) (k : T D d (pc + 3) L st F G P) : T D d pc L (.int (bI q) :: st) F G P := T_bne tgt hd ht (fun z => by rw [h] at z; cases z) (fun _ => k)
theorem T_beq_t {D : MD} {d pc : Nat} {L : List (Option Value)} {st : List Value} {F : FT} {G : GT} {P : Option Value → FT → GT → Prop} {q : Bool} {off : Int} (tgt : Nat) (hd : decode D.2.1 pc = .ok (.ifCond .eq off, 3)) (ht : (pc : Int) + off = (tgt : Int)) (h : q = false) (k : T D d tgt L st F G P) : T D d pc L (.int (bI q) :: st) F G P := T_beq tgt hd ht (fun _ => k) (fun z => by rw [h] at z; cases z)
theorem T_beq_f {D : MD} {d pc : Nat} {L : List (Option Value)} {st : List Value} {F : FT} {G : GT} {P : Option Value → FT → GT → Prop} {q : Bool} {off : Int} (tgt : Nat) (hd : decode D.2.1 pc = .ok (.ifCond .eq off, 3)) (ht : (pc : Int) + off = (tgt : Int)) (h : q = true) (k : T D d (pc + 3) L st F G P) : T D d pc L (.int (bI q) :: st) F G P := T_beq tgt hd ht (fun z => by rw [h] at z; cases z) (fun _ => k)
/-! THE ABSTRACT STATE: letters and how many; threads, orders, kinds, lengths, colours, over, knots, whom, when; the loom now; looms of the past, the latest first; the two kept -/
abbrev TeS : Type := Nat × Nat × List Int32 × List Int32 × List Int32 × List Int32 × List Int32 × List Int32 × List Int32
abbrev AS : Type := (List Int32 × Nat) × TeS × LoS × List LoS × (Option LoS × Option LoS)
abbrev aTx (a : AS) : List Int32 := a.1.1
abbrev aLen (a : AS) : Nat := a.1.2
abbrev aN (a : AS) : Nat := a.2.1.1
abbrev aM (a : AS) : Nat := a.2.1.2.1
abbrev aKd (a : AS) : List Int32 := a.2.1.2.2.1
abbrev aLn (a : AS) : List Int32 := a.2.1.2.2.2.1
abbrev aCo (a : AS) : List Int32 := a.2.1.2.2.2.2.1
abbrev aOv (a : AS) : List Int32 := a.2.1.2.2.2.2.2.1
abbrev aKn (a : AS) : List Int32 := a.2.1.2.2.2.2.2.2.1
abbrev aOt (a : AS) : List Int32 := a.2.1.2.2.2.2.2.2.2.1
abbrev aOd (a : AS) : List Int32 := a.2.1.2.2.2.2.2.2.2.2
abbrev aNow (a : AS) : LoS := a.2.2.1
abbrev aPast (a : AS) : List LoS := a.2.2.2.1
abbrev aKept (a : AS) : Option LoS × Option LoS := a.2.2.2.2
abbrev wNow (a : AS) (x : LoS) : AS := (a.1, a.2.1, x, a.2.2.2)
/-- what a deed does: the loom as it was is remembered -/
abbrev wDo (a : AS) (x : LoS) : AS := (a.1, a.2.1, x, (aNow a :: aPast a).take 8, aKept a)
/-- the class's memory tells a state -/
def PastR (F : FT) (G : GT) (l : List LoS) : Prop := ∃ p, p < 8 ∧ F 29 1 = nI p ∧ F 29 2 = nI l.length ∧ l.length ≤ 8 ∧ ∀ (j : Nat) (x : LoS), l[j]? = some x → gL F G (31 + 5 * ((p + 7 - j) % 8)) = x
def kpN (k : Option LoS × Option LoS) : Nat := (if k.1.isSome then 1 else 0) + (if k.2.isSome then 2 else 0)
def KeptR (F : FT) (G : GT) (k : Option LoS × Option LoS) : Prop := F 0 7 = nI (kpN k) ∧ (∀ x, k.1 = some x → gL F G 72 = x) ∧ (∀ x, k.2 = some x → gL F G 77 = x)
def TellR (t : Nat) (F : FT) (G : GT) (x : TeS) : Prop := F t 0 = nI x.1 ∧ F t 1 = nI x.2.1 ∧ G (t + 1) = x.2.2.1 ∧ G (t + 2) = x.2.2.2.1 ∧ G (t + 3) = x.2.2.2.2.1 ∧ G (t + 4) = x.2.2.2.2.2.1 ∧ G (t + 5) = x.2.2.2.2.2.2.1 ∧ G (t + 6) = x.2.2.2.2.2.2.2.1 ∧ G (t + 7) = x.2.2.2.2.2.2.2.2
def XR (a : AS) (F : FT) (G : GT) : Prop := (G 2 = aTx a ∧ F 1 1 = nI (aLen a)) ∧ TellR 3 F G a.2.1 ∧ gL F G 19 = aNow a ∧ PastR F G (aPast a) ∧ KeptR F G (aKept a)
/-- nothing of the reference changes; nothing of the class -/
def FrM (F : FT) (G : GT) (F' : FT) (G' : GT) : Prop := (∀ i, F' 89 i = F 89 i) ∧ ∀ c, 90 ≤ c → G' c = G c
def FrX (F : FT) (G : GT) (F' : FT) (G' : GT) : Prop := (∀ c i, c < 89 → F' c i = F c i) ∧ ∀ c, c < 89 → G' c = G c
theorem FrM.rf {F : FT} {G : GT} : FrM F G F G := ⟨fun _ => rfl, fun _ _ => rfl⟩
theorem FrM.tr {F F1 F2 : FT} {G G1 G2 : GT} (h : FrM F G F1 G1) (g : FrM F1 G1 F2 G2) : FrM F G F2 G2 := ⟨fun i => (g.1 i).trans (h.1 i), fun c hc => (g.2 c hc).trans (h.2 c hc)⟩
theorem FrM.u2 {F : FT} {G : GT} {F' : FT} {G' : GT} (h : FrM F G F' G') {a i : Nat} {v : Int32} (ha : a ≠ 89) : FrM F G (u2 F' a i v) G' := ⟨fun j => by rw [u2_c _ _ (fun e => ha e.symm)]; exact h.1 j, h.2⟩
theorem FrM.u1 {F : FT} {G : GT} {F' : FT} {G' : GT} (h : FrM F G F' G') {a : Nat} {l : List Int32} (ha : a < 90) : FrM F G F' (u1 G' a l) := ⟨h.1, fun c hc => by rw [u1_n _ _ (by omega)]; exact h.2 c hc⟩
theorem FrM.p {F : FT} {G : GT} {F' : FT} {G' : GT} (h : FrM F G F' G') {b : Nat} {x : LoS} (hb : b + 4 < 89) : FrM F G (pF F' b x) (pG G' b x) := ⟨fun j => by rw [pF_o _ _ _ (by omega)]; exact h.1 j, fun c hc => by rw [pG_o _ _ (by omega)]; exact h.2 c hc⟩
theorem gL_o {F F' : FT} {G G' : GT} {b : Nat} (h1 : ∀ i, F' b i = F b i) (h2 : ∀ c, b < c → c ≤ b + 4 → G' c = G c) : gL F' G' b = gL F G b := by
  unfold gL
  rw [h1, h1, h1, h1, h2 (b + 1) (by omega) (by omega), h2 (b + 2) (by omega) (by omega), h2 (b + 3) (by omega) (by omega), h2 (b + 4) (by omega) (by omega)]
theorem gL_pp {F : FT} {G : GT} {b c : Nat} {x : LoS} (h : b + 4 < c ∨ c + 4 < b) : gL (pF F b x) (pG G b x) c = gL F G c :=
  gL_o (fun i => pF_o F x i (by omega)) (fun e h1 h2 => pG_o G x (by omega))
theorem TellR.pp {F : FT} {G : GT} {t b : Nat} {x : TeS} {y : LoS} (h : TellR t F G x) (hb : t + 7 < b) : TellR t (pF F b y) (pG G b y) x := by
  obtain ⟨h1, h2, h3, h4, h5, h6, h7, h8, h9⟩ := h
  exact ⟨by rw [pF_o _ _ _ (by omega)]; exact h1, by rw [pF_o _ _ _ (by omega)]; exact h2, by rw [pG_o _ _ (by omega)]; exact h3, by rw [pG_o _ _ (by omega)]; exact h4, by rw [pG_o _ _ (by omega)]; exact h5, by rw [pG_o _ _ (by omega)]; exact h6, by rw [pG_o _ _ (by omega)]; exact h7, by rw [pG_o _ _ (by omega)]; exact h8, by rw [pG_o _ _ (by omega)]; exact h9⟩
theorem XR.now {a : AS} {F : FT} {G : GT} (h : XR a F G) (x : LoS) : XR (wNow a x) (pF F 19 x) (pG G 19 x) := by
  obtain ⟨⟨h1, h2⟩, h3, h4, ⟨p, p1, p2, p3, p4, p5⟩, k1, k2, k3⟩ := h
  refine ⟨⟨by rw [pG_o _ _ (by omega)]; exact h1, by rw [pF_o _ _ _ (by omega)]; exact h2⟩, h3.pp (by omega), gL_p F G 19 x, ⟨p, p1, by rw [pF_o _ _ _ (by omega)]; exact p2, by rw [pF_o _ _ _ (by omega)]; exact p3, p4, fun j y hj => ?_⟩, by rw [pF_o _ _ _ (by omega)]; exact k1, fun y hy => ?_, fun y hy => ?_⟩
  · rw [gL_pp (by omega)]; exact p5 j y hj
  · rw [gL_pp (by omega)]; exact k2 y hy
  · rw [gL_pp (by omega)]; exact k3 y hy
theorem ring_at : ∀ p, p < 8 → ([some 31, some 36, some 41, some 46, some 51, some 56, some 61, some 66] : List (Option Nat)).getD p none = some (31 + 5 * p) := by decide
theorem ring_L : ∀ p, p < 8 → isL (31 + 5 * p) = true := by decide
theorem c_remember (d : Nat) (hd : 2 ≤ d) (F : FT) (G : GT) (a : AS) (hX : XR a F G) : Kc DX2_remember d [.ref 29, .ref 19] F G (fun v F' G' => v = none ∧ XR (wDo a (aNow a)) F' G' ∧ FrM F G F' G' ∧ F' 3 = F 3 ∧ (∀ c, c < 24 → G' c = G c)) := by
  obtain ⟨hT, h3, h4, ⟨p, p1, p2, p3, p4, p5⟩, hK⟩ := id hX
  have hr := ring_L p p1
  refine Kc.ofT [some (.ref 29), some (.ref 19)] pn_X2 (Nat.le_of_ble_eq_true rfl) rfl ?_
  refine T_al0 dX2_remember_0 ?_
  refine T_g2 gX2_11 (cell_29 _ _) rfl dX2_remember_1 ?_
  refine T_al0 dX2_remember_4 ?_
  refine T_g2 gX2_20 (cell_29 _ _) rfl dX2_remember_5 ?_
  rw [p2]
  refine T_aald (by decide) (cell_30 _ _) (show p < 8 from p1) (by omega) (ring_at p p1) dX2_remember_8 ?_
  refine T_al1 dX2_remember_9 ?_
  refine T_cV1 lX2_24 rfl (by omega) (cell_L _ _ hr) (c_lcopy _ (by omega) F G (31 + 5 * p) 19 hr (by decide) (by omega)) (by omega) (Nat.le_of_ble_eq_true rfl) dX2_remember_10 (fun v F' G' hP => ?_)
  obtain ⟨rfl, rfl, rfl⟩ := hP
  have q2 : pF F (31 + 5 * p) (gL F G 19) 29 1 = nI p := by rw [pF_o _ _ _ (by omega)]; exact p2
  have q3 : pF F (31 + 5 * p) (gL F G 19) 29 2 = nI (aPast a).length := by rw [pF_o _ _ _ (by omega)]; exact p3
  refine T_al0 dX2_remember_13 ?_
  refine T_al0 dX2_remember_14 ?_
  refine T_g2 gX2_20 (cell_29 _ _) rfl dX2_remember_15 ?_
  rw [q2]
  refine T_iconst (v := nI 1) dX2_remember_18 rfl ?_
  first | refine T_iaddN dX2_remember_19 ?_ | refine T_iadd dX2_remember_19 ?_
  refine T_bipush (v := nI 8) dX2_remember_20 (by decide +kernel) ?_
  refine T_irem dX2_remember_22 (by decide) ?_
  rw [pk_rem (by omega) (by decide) (by decide)]
  refine T_put2_1 pX2_20 dX2_remember_23 ?_
  refine T_al0 dX2_remember_26 ?_
  refine T_bipush (v := nI 8) dX2_remember_27 (by decide +kernel) ?_
  refine T_al0 dX2_remember_29 ?_
  refine T_g2 gX2_28 (cell_29 _ _) rfl dX2_remember_30 ?_
  rw [u2_f _ _ (by decide), q3]
  refine T_iconst (v := nI 1) dX2_remember_33 rfl ?_
  first | refine T_iaddN dX2_remember_34 ?_ | refine T_iadd dX2_remember_34 ?_
  refine T_min lX2_31 (by omega) (Nat.le_of_ble_eq_true rfl) dX2_remember_35 ?_
  have e : (if nI ((aPast a).length + 1) < nI 8 then nI ((aPast a).length + 1) else nI 8) = nI ((aNow a :: aPast a).take 8).length := by
    rw [List.length_take, List.length_cons]
    by_cases hq : (aPast a).length + 1 < 8
    · rw [if_pos (nI_lt hq (by decide)), Nat.min_eq_right (by omega)]
    · rw [if_neg (fun z => hq ((nI_ltI (by omega) (by decide)).mp z)), Nat.min_eq_left (by omega)]
  rw [e]
  refine T_put2_2 pX2_28 dX2_remember_38 ?_
  refine T_vret rfl dX2_remember_41 ?_
  refine ⟨rfl, ⟨⟨?_, ?_⟩, ?_, ?_, ⟨(p + 1) % 8, by omega, ?_, ?_, ?_, fun j x hj => ?_⟩, ?_, ?_, ?_⟩, ((FrM.rf.p (by omega)).u2 (by decide)).u2 (by decide), ?_, ?_⟩
  · rw [pG_o _ _ (by omega)]; exact hT.1
  · rw [u2_c _ _ (by decide), u2_c _ _ (by decide), pF_o _ _ _ (by omega)]; exact hT.2
  · obtain ⟨t1, t2, tt⟩ := h3.pp (b := 31 + 5 * p) (y := gL F G 19) (by omega)
    exact ⟨by rw [u2_c _ _ (by decide), u2_c _ _ (by decide)]; exact t1, by rw [u2_c _ _ (by decide), u2_c _ _ (by decide)]; exact t2, tt⟩
  · rw [gL_o (F := pF F (31 + 5 * p) (gL F G 19)) (G := pG G (31 + 5 * p) (gL F G 19)) (fun i => by rw [u2_c _ _ (by decide), u2_c _ _ (by decide)]) (fun _ _ _ => rfl), gL_pp (by omega)]; exact h4
  · rw [u2_f _ _ (by decide), u2_s]
  · rw [u2_s]
  · exact List.length_take_le 8 _
  · have hj8 : j < 8 := by have := (List.getElem?_eq_some_iff.mp hj).1; exact Nat.lt_of_lt_of_le this (List.length_take_le 8 _)
    rw [gL_o (F := pF F (31 + 5 * p) (gL F G 19)) (G := pG G (31 + 5 * p) (gL F G 19)) (fun i => by rw [u2_c _ _ (by omega), u2_c _ _ (by omega)]) (fun _ _ _ => rfl)]
    rw [List.getElem?_take_of_lt hj8] at hj
    match j, hj, hj8 with
    | 0, hj, _ =>
      rw [show ((p + 1) % 8 + 7 - 0) % 8 = p by omega, gL_p, h4]
      simpa using hj
    | j + 1, hj, hj8 =>
      have : ((p + 1) % 8 + 7 - (j + 1)) % 8 = (p + 7 - j) % 8 := by omega
      rw [this, gL_pp (by omega)]
      exact p5 j x (by simpa using hj)
  · rw [u2_c _ _ (by decide), u2_c _ _ (by decide), pF_o _ _ _ (by omega)]; exact hK.1
  · intro x hx; rw [gL_o (F := pF F (31 + 5 * p) (gL F G 19)) (G := pG G (31 + 5 * p) (gL F G 19)) (fun i => by rw [u2_c _ _ (by decide), u2_c _ _ (by decide)]) (fun _ _ _ => rfl), gL_pp (by omega)]; exact hK.2.1 x hx
  · intro x hx; rw [gL_o (F := pF F (31 + 5 * p) (gL F G 19)) (G := pG G (31 + 5 * p) (gL F G 19)) (fun i => by rw [u2_c _ _ (by decide), u2_c _ _ (by decide)]) (fun _ _ _ => rfl), gL_pp (by omega)]; exact hK.2.2 x hx
  · funext i; rw [u2_c _ _ (by decide), u2_c _ _ (by decide), pF_o _ _ _ (by omega)]
  · intro c hc; rw [pG_o _ _ (by omega)]
theorem c_bringBack (d : Nat) (hd : 2 ≤ d) (F : FT) (G : GT) (a : AS) (hX : XR a F G) (x : LoS) (r : List LoS) (hp : aPast a = x :: r) : Kc DX2_bringBack d [.ref 29, .ref 19] F G (fun v F' G' => v = none ∧ XR (a.1, a.2.1, x, r, aKept a) F' G' ∧ FrM F G F' G') := by
  obtain ⟨hT, h3, h4, ⟨p, p1, p2, p3, p4, p5⟩, hK⟩ := id hX
  have hr := ring_L ((p + 7) % 8) (by omega)
  have hl : (aPast a).length = r.length + 1 := by rw [hp]; rfl
  rw [hl] at p3 p4
  refine Kc.ofT [some (.ref 29), some (.ref 19)] pn_X2 (Nat.le_of_ble_eq_true rfl) rfl ?_
  refine T_al0 dX2_bringBack_0 ?_
  refine T_g2 gX2_28 (cell_29 _ _) rfl dX2_bringBack_1 ?_
  rw [p3]
  refine T_if_ne_t 8 dX2_bringBack_4 (by decide) (nI_ne0 (by omega) (by omega)) ?_
  refine T_al0 dX2_bringBack_8 ?_
  refine T_al0 dX2_bringBack_9 ?_
  refine T_g2 gX2_20 (cell_29 _ _) rfl dX2_bringBack_10 ?_
  rw [p2]
  refine T_bipush (v := nI 8) dX2_bringBack_13 (by decide +kernel) ?_
  first | refine T_iaddN dX2_bringBack_15 ?_ | refine T_iadd dX2_bringBack_15 ?_
  refine T_iconst (v := nI 1) dX2_bringBack_16 rfl ?_
  refine T_isubN dX2_bringBack_17 (by omega) ?_
  refine T_bipush (v := nI 8) dX2_bringBack_18 (by decide +kernel) ?_
  refine T_irem dX2_bringBack_20 (by decide) ?_
  rw [show p + 8 - 1 = p + 7 by omega, pk_rem (by omega) (by decide) (by decide)]
  refine T_put2_1 pX2_20 dX2_bringBack_21 ?_
  refine T_al0 dX2_bringBack_24 ?_
  refine T_dup dX2_bringBack_25 rfl ?_
  refine T_g2 gX2_28 (cell_29 _ _) rfl dX2_bringBack_26 ?_
  rw [u2_f _ _ (by decide), p3]
  refine T_iconst (v := nI 1) dX2_bringBack_29 rfl ?_
  refine T_isubN dX2_bringBack_30 (by omega) ?_
  rw [show r.length + 1 - 1 = r.length by omega]
  refine T_put2_2 pX2_28 dX2_bringBack_31 ?_
  refine T_al1 dX2_bringBack_34 ?_
  refine T_al0 dX2_bringBack_35 ?_
  refine T_g2 gX2_11 (cell_29 _ _) rfl dX2_bringBack_36 ?_
  refine T_al0 dX2_bringBack_39 ?_
  refine T_g2 gX2_20 (cell_29 _ _) rfl dX2_bringBack_40 ?_
  rw [u2_f _ _ (by decide), u2_s]
  refine T_aald (by decide) (cell_30 _ _) (show (p + 7) % 8 < 8 by omega) (by omega) (ring_at _ (by omega)) dX2_bringBack_43 ?_
  refine T_cV1 lX2_24 rfl (by omega) (cell_L _ _ (by decide)) (c_lcopy _ (by omega) _ G 19 (31 + 5 * ((p + 7) % 8)) (by decide) hr (by omega)) (by omega) (Nat.le_of_ble_eq_true rfl) dX2_bringBack_44 (fun v F' G' hP => ?_)
  obtain ⟨rfl, rfl, rfl⟩ := hP
  have eg : gL (u2 (u2 F 29 1 (nI ((p + 7) % 8))) 29 2 (nI r.length)) G (31 + 5 * ((p + 7) % 8)) = x := by
    rw [gL_o (F := F) (G := G) (fun i => by rw [u2_c _ _ (by omega), u2_c _ _ (by omega)]) (fun _ _ _ => rfl)]
    exact p5 0 x (by rw [hp]; rfl)
  rw [eg]
  refine T_vret rfl dX2_bringBack_47 ?_
  have go : ∀ b : Nat, b ≠ 29 → gL (u2 (u2 F 29 1 (nI ((p + 7) % 8))) 29 2 (nI r.length)) G b = gL F G b := fun b hb => gL_o (fun i => by rw [u2_c _ _ hb, u2_c _ _ hb]) (fun _ _ _ => rfl)
  refine ⟨rfl, ⟨⟨?_, ?_⟩, ?_, gL_p _ _ _ _, ⟨(p + 7) % 8, by omega, ?_, ?_, show r.length ≤ 8 by omega, fun j y hj => ?_⟩, ?_, ?_, ?_⟩, (((FrM.rf.u2 (by decide)).u2 (by decide)).p (by decide))⟩
  · rw [pG_o _ _ (by omega)]; exact hT.1
  · rw [pF_o _ _ _ (by omega), u2_c _ _ (by decide), u2_c _ _ (by decide)]; exact hT.2
  · obtain ⟨t1, t2, tt⟩ := h3
    exact TellR.pp ⟨by rw [u2_c _ _ (by decide), u2_c _ _ (by decide)]; exact t1, by rw [u2_c _ _ (by decide), u2_c _ _ (by decide)]; exact t2, tt⟩ (by omega)
  · rw [pF_o _ _ _ (by omega), u2_f _ _ (by decide), u2_s]
  · rw [pF_o _ _ _ (by omega), u2_s]
  · have hj8 : j < r.length := (List.getElem?_eq_some_iff.mp hj).1
    rw [gL_pp (by omega), go _ (by omega), show ((p + 7) % 8 + 7 - j) % 8 = (p + 7 - (j + 1)) % 8 by omega]
    exact p5 (j + 1) y (by rw [hp]; simpa using hj)
  · rw [pF_o _ _ _ (by omega), u2_c _ _ (by decide), u2_c _ _ (by decide)]; exact hK.1
  · intro y hy; rw [gL_pp (by omega), go _ (by omega)]; exact hK.2.1 y hy
  · intro y hy; rw [gL_pp (by omega), go _ (by omega)]; exact hK.2.2 y hy
