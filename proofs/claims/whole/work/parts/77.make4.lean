section M6
variable {D : MD} {dd mc ms cc ss pc : Nat} {L : List (Option Value)} {st fs : List Value} {R : MM} {Out : Option Value → MM → Prop}
theorem V_new6 {idx ci : Nat} {gs : List Value} (n c1 s1 : Nat) (hf : FN D.1.cls idx ci gs) (hR : R.length + 1 = n) (hL : L.all (okO n) = true) (hst : st.all (okV n) = true) (hlt : n < 999) (e1 : cc + 1 = c1) (e2 : ss + gs.length = s1) (hc : c1 ≤ mc) (hs : s1 ≤ ms) (hd : decode D.2.1 pc = .ok (.new idx, 3))
    (kk : V D (dd, mc, ms, c1, s1) (pc + 3) L (.ref n :: st) ((cO 6 fs :: R) ++ [cO ci gs]) Out) : V D (dd, mc, ms, cc, ss) pc L st (cO 6 fs :: R) Out := by
  subst e1; subst e2; subst hR
  exact V_new (M := cO 6 fs :: R) hf hL hst hlt hc hs hd kk
theorem V_put6 {idx f q : Nat} (n : Nat) (hf : FF D.1.cls idx 6 f) (hi : D.1.name = "<init>") (hR : R.length + 1 = n) (hl : f < fs.length) (hq : q < n) (hd : decode D.2.1 pc = .ok (.putfield idx, 3)) (kk : V D (dd, mc, ms, cc, ss) (pc + 3) L st (cO 6 (fs.set f (.ref q)) :: R) Out) : V D (dd, mc, ms, cc, ss) pc L (.ref q :: .ref 0 :: st) (cO 6 fs :: R) Out := by
  subst hR
  exact V_putF (M := cO 6 fs :: R) (a := 0) hf hi rfl hl (ok_lt hq) hd kk
theorem V_callI6 {D' : MD} {idx n d' m1 m2 a : Nat} {av rest : List Value} {M M1 : MM} (c1 s1 : Nat) (hl : LkI D.1.cls idx D' n) (hC : Con D' d' m1 m2 (.ref a :: av) M (fun v M' => v = none ∧ M' = M1)) (hn : av.length = n) (hd' : d' + 1 ≤ dd) (e1 : cc + m1 = c1) (e2 : ss + m2 = s1) (hc : c1 ≤ mc ∧ s1 ≤ ms) (hW : (rest.map fun v => v.category).sum ≤ 8) (hd : decode D.2.1 pc = .ok (.invokespecial idx, 3)) (hst : st = av.reverse ++ .ref a :: rest)
    (hL : L.all (okO M.length) = true) (hr : rest.all (okV M.length) = true) (kk : V D (dd, mc, ms, c1, s1) (pc + 3) L rest M1 Out) : V D (dd, mc, ms, cc, ss) pc L st M Out := by
  subst e1; subst e2
  exact V_callI hl hC hn hd' hc hW hd hst (Or.inr ⟨hL, hr⟩) (fun v M' h => by obtain ⟨rfl, rfl⟩ := h; exact kk)
theorem V_callJ6 {D' : MD} {idx n d' m1 m2 a : Nat} {av rest : List Value} {M M1 : MM} (c1 s1 : Nat) (hl : LkJ D.1.cls idx D' n) (hC : Con D' d' m1 m2 (.ref a :: av) M (fun v M' => v = none ∧ M' = M1)) (hn : av.length = n) (hd' : d' + 1 ≤ dd) (e1 : cc + m1 = c1) (e2 : ss + m2 = s1) (hc : c1 ≤ mc ∧ s1 ≤ ms) (hW : (rest.map fun v => v.category).sum ≤ 8) (hd : decode D.2.1 pc = .ok (.invokespecial idx, 3)) (hst : st = av.reverse ++ .ref a :: rest)
    (hL : L.all (okO M.length) = true) (hr : rest.all (okV M.length) = true) (kk : V D (dd, mc, ms, c1, s1) (pc + 3) L rest M1 Out) : V D (dd, mc, ms, cc, ss) pc L st M Out := by
  subst e1; subst e2
  exact V_callJ hl hC hn hd' hc hW hd hst (Or.inr ⟨hL, hr⟩) (fun v M' h => by obtain ⟨rfl, rfl⟩ := h; exact kk)
end M6
theorem len_up {R : MM} {x : CC} {n : Nat} (h : R.length + 1 = n) (fs : List Value) : ((cO 6 fs :: R) ++ [x]).length = n + 1 := by rw [List.length_append]; show R.length + 1 + 1 = n + 1; omega
def memX : MM := cO 6 [.ref 1, .ref 3, .ref 11, .ref 19, .ref 24, .ref 29, .ref 71, .int 0, .ref 82, .ref 86] :: (bTx ++ (bTe 3 ++ (bTe 11 ++ (bLo 19 ++ (bLo 24 ++ (bPa ++ ([cR [some 72, some 77]] ++ (bLo 72 ++ (bLo 77 ++ (bDe ++ bTa))))))))))
set_option maxHeartbeats 2000000 in
theorem i_cls : Con DX6_init 3 88 838 [.ref 0] [cO 6 [.null, .null, .null, .null, .null, .null, .null, .int 0, .null, .null]] (fun v M' => v = none ∧ M' = memX) := by
  have hL : ∀ n, 0 < n → ([some (.ref 0), none] : List (Option Value)).all (okO n) = true := fun n h => by
    show (okV n (.ref 0) && (true && true)) = true
    rw [ok_lt h]; rfl
  have hL1 : ∀ (n : Nat) (x : Int32), 0 < n → ([some (.ref 0), some (.int x)] : List (Option Value)).all (okO n) = true := fun n x h => by
    show (okV n (.ref 0) && (true && true)) = true
    rw [ok_lt h]; rfl
  have hS : ∀ n, 0 < n → ([.ref 0] : List Value).all (okV n) = true := fun n h => ok_s h
  have hS2 : ∀ n k, 0 < n → k < n → ([.ref k, .ref 0] : List Value).all (okV n) = true := fun n k h hk => by
    show (okV n (.ref k) && (okV n (.ref 0) && true)) = true
    rw [ok_lt h, ok_lt hk]; rfl
  have hS3 : ∀ (n k j : Nat) (x : Int32), j < n → k < n → ([.ref k, .int x, .ref j] : List Value).all (okV n) = true := fun n k j x h hk => by
    show (okV n (.ref k) && (true && (okV n (.ref j) && true))) = true
    rw [ok_lt h, ok_lt hk]; rfl
  refine Con.ofV [some (.ref 0), none] rfl (by decide) rfl ?_
  obtain ⟨R0, g0⟩ : ∃ R0 : MM, R0 = [] := ⟨_, rfl⟩
  have l0 : R0.length + 1 = 1 := by rw [g0]; rfl
  rw [show [cO 6 [.null, .null, .null, .null, .null, .null, .null, .int 0, .null, .null]] = cO 6 [.null, .null, .null, .null, .null, .null, .null, .int 0, .null, .null] :: R0 from by rw [g0]]
  refine V_aload_n dX6_init_0 rfl ?_
  refine V_objInit lX6_3 oI oC (by decide) dX6_init_1 (by decide) ?_
  refine V_aload_n dX6_init_4 rfl ?_
  refine V_new6 1 1 5 nX6_9 l0 (hL _ (by decide)) (hS _ (by decide)) (by decide) rfl rfl (by decide) (by decide) dX6_init_5 ?_
  refine V_dup dX6_init_8 rfl ?_
  refine V_callJ6 (av := []) (rest := [.ref 1, .ref 0]) 2 165 lX6_11 (i_text l0 (by decide)) rfl (by decide) rfl rfl ⟨by decide, by decide⟩ (by decide) dX6_init_9 rfl (by rw [len_up l0]; exact hL _ (by decide)) (by rw [len_up l0]; exact hS2 _ _ (by decide) (by decide)) ?_
  refine V_put6 (R := R0 ++ bTx) 3 qX6_12 rfl (by rw [List.length_append]; show R0.length + 2 + 1 = 3; omega) (by decide) (by decide) dX6_init_12 ?_
  show V DX6_init (3, 88, 838, 2, 165) 15 [some (.ref 0), none] [] (cO 6 [.ref 1, .null, .null, .null, .null, .null, .null, .int 0, .null, .null] :: (R0 ++ bTx)) _
  obtain ⟨R1, g1⟩ : ∃ R : MM, R = R0 ++ bTx := ⟨_, rfl⟩
  have l1 : R1.length + 1 = 3 := by rw [g1, List.length_append]; show R0.length + 2 + 1 = 3; omega
  rw [← g1]
  refine V_aload_n dX6_init_15 rfl ?_
  refine V_new6 3 3 174 nX6_16 l1 (hL _ (by decide)) (hS _ (by decide)) (by decide) rfl rfl (by decide) (by decide) dX6_init_16 ?_
  refine V_dup dX6_init_19 rfl ?_
  refine V_callJ6 (av := []) (rest := [.ref 3, .ref 0]) 10 226 lX6_18 (i_tell l1 (by decide)) rfl (by decide) rfl rfl ⟨by decide, by decide⟩ (by decide) dX6_init_20 rfl (by rw [len_up l1]; exact hL _ (by decide)) (by rw [len_up l1]; exact hS2 _ _ (by decide) (by decide)) ?_
  refine V_put6 (R := R1 ++ bTe 3) 11 qX6_19 rfl (by rw [List.length_append]; show R1.length + 8 + 1 = 11; omega) (by decide) (by decide) dX6_init_23 ?_
  show V DX6_init (3, 88, 838, 10, 226) 26 [some (.ref 0), none] [] (cO 6 [.ref 1, .ref 3, .null, .null, .null, .null, .null, .int 0, .null, .null] :: (R1 ++ bTe 3)) _
  obtain ⟨R2, g2⟩ : ∃ R : MM, R = R1 ++ bTe 3 := ⟨_, rfl⟩
  have l2 : R2.length + 1 = 11 := by rw [g2, List.length_append]; show R1.length + 8 + 1 = 11; omega
  rw [← g2]
  refine V_aload_n dX6_init_26 rfl ?_
  refine V_new6 11 11 235 nX6_16 l2 (hL _ (by decide)) (hS _ (by decide)) (by decide) rfl rfl (by decide) (by decide) dX6_init_27 ?_
  refine V_dup dX6_init_30 rfl ?_
  refine V_callJ6 (av := []) (rest := [.ref 11, .ref 0]) 18 287 lX6_18 (i_tell l2 (by decide)) rfl (by decide) rfl rfl ⟨by decide, by decide⟩ (by decide) dX6_init_31 rfl (by rw [len_up l2]; exact hL _ (by decide)) (by rw [len_up l2]; exact hS2 _ _ (by decide) (by decide)) ?_
  refine V_put6 (R := R2 ++ bTe 11) 19 qX6_23 rfl (by rw [List.length_append]; show R2.length + 8 + 1 = 19; omega) (by decide) (by decide) dX6_init_34 ?_
  show V DX6_init (3, 88, 838, 18, 287) 37 [some (.ref 0), none] [] (cO 6 [.ref 1, .ref 3, .ref 11, .null, .null, .null, .null, .int 0, .null, .null] :: (R2 ++ bTe 11)) _
  obtain ⟨R3, g3⟩ : ∃ R : MM, R = R2 ++ bTe 11 := ⟨_, rfl⟩
  have l3 : R3.length + 1 = 19 := by rw [g3, List.length_append]; show R2.length + 8 + 1 = 19; omega
  rw [← g3]
  refine V_aload_n dX6_init_37 rfl ?_
  refine V_new6 19 19 296 nX6_26 l3 (hL _ (by decide)) (hS _ (by decide)) (by decide) rfl rfl (by decide) (by decide) dX6_init_38 ?_
  refine V_dup dX6_init_41 rfl ?_
  refine V_aload_n dX6_init_42 rfl ?_
  refine V_get (fs := [.ref 1, .ref 3, .ref 11, .null, .null, .null, .null, .int 0, .null, .null]) gX6_19 rfl rfl dX6_init_43 ?_
  refine V_callI6 (av := [.ref 3]) (rest := [.ref 19, .ref 0]) 23 328 lX6_28 (i_loom l3 (by decide) (by decide)) rfl (by decide) rfl rfl ⟨by decide, by decide⟩ (by decide) dX6_init_46 rfl (by rw [len_up l3]; exact hL _ (by decide)) (by rw [len_up l3]; exact hS2 _ _ (by decide) (by decide)) ?_
  refine V_put6 (R := R3 ++ bLo 19) 24 qX6_31 rfl (by rw [List.length_append]; show R3.length + 5 + 1 = 24; omega) (by decide) (by decide) dX6_init_49 ?_
  show V DX6_init (3, 88, 838, 23, 328) 52 [some (.ref 0), none] [] (cO 6 [.ref 1, .ref 3, .ref 11, .ref 19, .null, .null, .null, .int 0, .null, .null] :: (R3 ++ bLo 19)) _
  obtain ⟨R4, g4⟩ : ∃ R : MM, R = R3 ++ bLo 19 := ⟨_, rfl⟩
  have l4 : R4.length + 1 = 24 := by rw [g4, List.length_append]; show R3.length + 5 + 1 = 24; omega
  rw [← g4]
  refine V_aload_n dX6_init_52 rfl ?_
  refine V_new6 24 24 337 nX6_26 l4 (hL _ (by decide)) (hS _ (by decide)) (by decide) rfl rfl (by decide) (by decide) dX6_init_53 ?_
  refine V_dup dX6_init_56 rfl ?_
  refine V_aload_n dX6_init_57 rfl ?_
  refine V_get (fs := [.ref 1, .ref 3, .ref 11, .ref 19, .null, .null, .null, .int 0, .null, .null]) gX6_19 rfl rfl dX6_init_58 ?_
  refine V_callI6 (av := [.ref 3]) (rest := [.ref 24, .ref 0]) 28 369 lX6_28 (i_loom l4 (by decide) (by decide)) rfl (by decide) rfl rfl ⟨by decide, by decide⟩ (by decide) dX6_init_61 rfl (by rw [len_up l4]; exact hL _ (by decide)) (by rw [len_up l4]; exact hS2 _ _ (by decide) (by decide)) ?_
  refine V_put6 (R := R4 ++ bLo 24) 29 qX6_35 rfl (by rw [List.length_append]; show R4.length + 5 + 1 = 29; omega) (by decide) (by decide) dX6_init_64 ?_
  show V DX6_init (3, 88, 838, 28, 369) 67 [some (.ref 0), none] [] (cO 6 [.ref 1, .ref 3, .ref 11, .ref 19, .ref 24, .null, .null, .int 0, .null, .null] :: (R4 ++ bLo 24)) _
  obtain ⟨R5, g5⟩ : ∃ R : MM, R = R4 ++ bLo 24 := ⟨_, rfl⟩
  have l5 : R5.length + 1 = 29 := by rw [g5, List.length_append]; show R4.length + 5 + 1 = 29; omega
  rw [← g5]
  refine V_aload_n dX6_init_67 rfl ?_
  refine V_new6 29 29 372 nX6_38 l5 (hL _ (by decide)) (hS _ (by decide)) (by decide) rfl rfl (by decide) (by decide) dX6_init_68 ?_
  refine V_dup dX6_init_71 rfl ?_
  refine V_aload_n dX6_init_72 rfl ?_
  refine V_get (fs := [.ref 1, .ref 3, .ref 11, .ref 19, .ref 24, .null, .null, .int 0, .null, .null]) gX6_19 rfl rfl dX6_init_73 ?_
  refine V_callI6 (av := [.ref 3]) (rest := [.ref 29, .ref 0]) 70 708 lX6_40 (i_past l5) rfl (by decide) rfl rfl ⟨by decide, by decide⟩ (by decide) dX6_init_76 rfl (by rw [len_up l5]; exact hL _ (by decide)) (by rw [len_up l5]; exact hS2 _ _ (by decide) (by decide)) ?_
  refine V_put6 (R := R5 ++ bPa) 71 qX6_41 rfl (by rw [List.length_append]; show R5.length + 42 + 1 = 71; omega) (by decide) (by decide) dX6_init_79 ?_
  show V DX6_init (3, 88, 838, 70, 708) 82 [some (.ref 0), none] [] (cO 6 [.ref 1, .ref 3, .ref 11, .ref 19, .ref 24, .ref 29, .null, .int 0, .null, .null] :: (R5 ++ bPa)) _
  obtain ⟨R6, g6⟩ : ∃ R : MM, R = R5 ++ bPa := ⟨_, rfl⟩
  have l6 : R6.length + 1 = 71 := by rw [g6, List.length_append]; show R5.length + 42 + 1 = 71; omega
  rw [← g6]
  refine V_aload_n dX6_init_82 rfl ?_
  refine V_iconst (v := nI 2) dX6_init_83 rfl ?_
  have h84 := V_newq (D := DX6_init) (b := (3, 88, 838, 70, 708)) (pc := 84) (L := [some (.ref 0), none]) (st := [.ref 0]) (M := cO 6 [.ref 1, .ref 3, .ref 11, .ref 19, .ref 24, .ref 29, .null, .int 0, .null, .null] :: R6) (Out := fun v M' => v = none ∧ M' = memX) (x := nI 2) (N := 2) (idx := 26) kcX6_26 rfl (by decide) (hL _ (Nat.succ_pos _)) (hS _ (Nat.succ_pos _)) (by show R6.length + 1 < 999; omega) (by decide) (by decide) dX6_init_84
  refine h84 ?_
  have e84 : (cO 6 [.ref 1, .ref 3, .ref 11, .ref 19, .ref 24, .ref 29, .null, .int 0, .null, .null] :: R6).length = 71 := l6
  rw [e84]
  refine V_put6 (R := R6 ++ [cR (List.replicate 2 none)]) 72 qX6_45 rfl (by rw [List.length_append]; show R6.length + 1 + 1 = 72; omega) (by decide) (by decide) dX6_init_87 ?_
  show V DX6_init (3, 88, 838, 71, 710) 90 [some (.ref 0), none] [] (cO 6 [.ref 1, .ref 3, .ref 11, .ref 19, .ref 24, .ref 29, .ref 71, .int 0, .null, .null] :: (R6 ++ [cR [none, none]])) _
  refine V_iconst (v := nI 0) dX6_init_90 rfl ?_
  refine V_istore_n dX6_init_91 (by decide) rfl ?_
  show V DX6_init (3, 88, 838, 71, 710) 92 [some (.ref 0), some (.int (nI 0))] [] (cO 6 [.ref 1, .ref 3, .ref 11, .ref 19, .ref 24, .ref 29, .ref 71, .int 0, .null, .null] :: (R6 ++ ([cR [none, none]] ++ ([] : MM)))) _
  have m0 : (R6 ++ ([cR [none, none]] ++ ([] : MM))).length + 1 = 72 := by rw [List.length_append]; show R6.length + 1 + 1 = 72; omega
  refine V_iload_n dX6_init_92 rfl ?_
  refine V_iconst (v := nI 2) dX6_init_93 rfl ?_
  refine V_icmp_ge 120 dX6_init_94 (by decide) (fun h => absurd h (Int32.not_le.mpr (nI_lt (by decide) (by decide)))) (fun _ => ?_)
  refine V_aload_n dX6_init_97 rfl ?_
  refine V_get (fs := [.ref 1, .ref 3, .ref 11, .ref 19, .ref 24, .ref 29, .ref 71, .int 0, .null, .null]) gX6_45 rfl rfl dX6_init_98 ?_
  refine V_iload_n dX6_init_101 rfl ?_
  refine V_new6 72 72 719 nX6_26 m0 (hL1 _ _ (by decide)) (by show (true && (okV 72 (.ref 71) && true)) = true; rw [ok_lt (by decide)]; rfl) (by decide) rfl rfl (by decide) (by decide) dX6_init_102 ?_
  refine V_dup dX6_init_105 rfl ?_
  refine V_aload_n dX6_init_106 rfl ?_
  refine V_get (fs := [.ref 1, .ref 3, .ref 11, .ref 19, .ref 24, .ref 29, .ref 71, .int 0, .null, .null]) gX6_19 rfl rfl dX6_init_107 ?_
  refine V_callI6 (av := [.ref 3]) (rest := [.ref 72, .int (nI 0), .ref 71]) 76 751 lX6_28 (i_loom m0 (by decide) (by decide)) rfl (by decide) rfl rfl ⟨by decide, by decide⟩ (by decide) dX6_init_110 rfl (by rw [len_up m0]; exact hL1 _ _ (by decide)) (by rw [len_up m0]; exact hS3 _ _ _ _ (by decide) (by decide)) ?_
  have v0 := at_app (M0 := (cO 6 [.ref 1, .ref 3, .ref 11, .ref 19, .ref 24, .ref 29, .ref 71, .int 0, .null, .null] :: (R6 ++ ([cR [none, none]] ++ ([] : MM))))) (x := cO 1 [.ref 3, .int 0, .int 0, .int 0, .int 0, .ref 73, .ref 74, .ref 75, .ref 76]) (r := [zI 8, zI 8, zI 8, zI 8])
  rw [show (cO 6 [.ref 1, .ref 3, .ref 11, .ref 19, .ref 24, .ref 29, .ref 71, .int 0, .null, .null] :: (R6 ++ ([cR [none, none]] ++ ([] : MM)))).length = 72 from m0] at v0
  have x0 : (cO 6 [.ref 1, .ref 3, .ref 11, .ref 19, .ref 24, .ref 29, .ref 71, .int 0, .null, .null] :: (R6 ++ ([cR [none, none]] ++ ([] : MM)))) ++ bLo 72 = (cO 6 [.ref 1, .ref 3, .ref 11, .ref 19, .ref 24, .ref 29, .ref 71, .int 0, .null, .null] :: R6) ++ cR [none, none] :: (([] : MM) ++ bLo 72) := by simp
  have a0 := at_app (M0 := cO 6 [.ref 1, .ref 3, .ref 11, .ref 19, .ref 24, .ref 29, .ref 71, .int 0, .null, .null] :: R6) (x := cR [none, none]) (r := ([] : MM) ++ bLo 72)
  rw [← x0, show (cO 6 [.ref 1, .ref 3, .ref 11, .ref 19, .ref 24, .ref 29, .ref 71, .int 0, .null, .null] :: R6).length = 71 from l6] at a0
  refine V_aast (ci := 1) (vs := [.ref 3, .int 0, .int 0, .int 0, .int 0, .ref 73, .ref 74, .ref 75, .ref 76]) (l := [none, none]) (x := nI 0) rfl a0 v0 (vp_in_nI (by decide) (by decide)) dX6_init_113 ?_
  have y0 := set_app (M0 := cO 6 [.ref 1, .ref 3, .ref 11, .ref 19, .ref 24, .ref 29, .ref 71, .int 0, .null, .null] :: R6) (x := cR [none, none]) (y := cR ([none, none].set (nI 0).toNatClampNeg (some 72))) (r := ([] : MM) ++ bLo 72)
  rw [show (cO 6 [.ref 1, .ref 3, .ref 11, .ref 19, .ref 24, .ref 29, .ref 71, .int 0, .null, .null] :: R6).length = 71 from l6] at y0
  rw [x0, y0]
  refine V_iinc (v := nI 1) dX6_init_114 rfl (nI_inc 0) rfl ?_
  refine V_goto 92 dX6_init_117 (by decide) ?_
  show V DX6_init (3, 88, 838, 76, 751) 92 [some (.ref 0), some (.int (nI 1))] [] (cO 6 [.ref 1, .ref 3, .ref 11, .ref 19, .ref 24, .ref 29, .ref 71, .int 0, .null, .null] :: (R6 ++ ([cR [some 72, none]] ++ (([] : MM) ++ bLo 72)))) _
  have m1 : (R6 ++ ([cR [some 72, none]] ++ (([] : MM) ++ bLo 72))).length + 1 = 77 := by rw [List.length_append]; show R6.length + 6 + 1 = 77; omega
  refine V_iload_n dX6_init_92 rfl ?_
  refine V_iconst (v := nI 2) dX6_init_93 rfl ?_
  refine V_icmp_ge 120 dX6_init_94 (by decide) (fun h => absurd h (Int32.not_le.mpr (nI_lt (by decide) (by decide)))) (fun _ => ?_)
  refine V_aload_n dX6_init_97 rfl ?_
  refine V_get (fs := [.ref 1, .ref 3, .ref 11, .ref 19, .ref 24, .ref 29, .ref 71, .int 0, .null, .null]) gX6_45 rfl rfl dX6_init_98 ?_
  refine V_iload_n dX6_init_101 rfl ?_
  refine V_new6 77 77 760 nX6_26 m1 (hL1 _ _ (by decide)) (by show (true && (okV 77 (.ref 71) && true)) = true; rw [ok_lt (by decide)]; rfl) (by decide) rfl rfl (by decide) (by decide) dX6_init_102 ?_
  refine V_dup dX6_init_105 rfl ?_
  refine V_aload_n dX6_init_106 rfl ?_
  refine V_get (fs := [.ref 1, .ref 3, .ref 11, .ref 19, .ref 24, .ref 29, .ref 71, .int 0, .null, .null]) gX6_19 rfl rfl dX6_init_107 ?_
  refine V_callI6 (av := [.ref 3]) (rest := [.ref 77, .int (nI 1), .ref 71]) 81 792 lX6_28 (i_loom m1 (by decide) (by decide)) rfl (by decide) rfl rfl ⟨by decide, by decide⟩ (by decide) dX6_init_110 rfl (by rw [len_up m1]; exact hL1 _ _ (by decide)) (by rw [len_up m1]; exact hS3 _ _ _ _ (by decide) (by decide)) ?_
  have v1 := at_app (M0 := (cO 6 [.ref 1, .ref 3, .ref 11, .ref 19, .ref 24, .ref 29, .ref 71, .int 0, .null, .null] :: (R6 ++ ([cR [some 72, none]] ++ (([] : MM) ++ bLo 72))))) (x := cO 1 [.ref 3, .int 0, .int 0, .int 0, .int 0, .ref 78, .ref 79, .ref 80, .ref 81]) (r := [zI 8, zI 8, zI 8, zI 8])
  rw [show (cO 6 [.ref 1, .ref 3, .ref 11, .ref 19, .ref 24, .ref 29, .ref 71, .int 0, .null, .null] :: (R6 ++ ([cR [some 72, none]] ++ (([] : MM) ++ bLo 72)))).length = 77 from m1] at v1
  have x1 : (cO 6 [.ref 1, .ref 3, .ref 11, .ref 19, .ref 24, .ref 29, .ref 71, .int 0, .null, .null] :: (R6 ++ ([cR [some 72, none]] ++ (([] : MM) ++ bLo 72)))) ++ bLo 77 = (cO 6 [.ref 1, .ref 3, .ref 11, .ref 19, .ref 24, .ref 29, .ref 71, .int 0, .null, .null] :: R6) ++ cR [some 72, none] :: ((([] : MM) ++ bLo 72) ++ bLo 77) := by simp
  have a1 := at_app (M0 := cO 6 [.ref 1, .ref 3, .ref 11, .ref 19, .ref 24, .ref 29, .ref 71, .int 0, .null, .null] :: R6) (x := cR [some 72, none]) (r := (([] : MM) ++ bLo 72) ++ bLo 77)
  rw [← x1, show (cO 6 [.ref 1, .ref 3, .ref 11, .ref 19, .ref 24, .ref 29, .ref 71, .int 0, .null, .null] :: R6).length = 71 from l6] at a1
  refine V_aast (ci := 1) (vs := [.ref 3, .int 0, .int 0, .int 0, .int 0, .ref 78, .ref 79, .ref 80, .ref 81]) (l := [some 72, none]) (x := nI 1) rfl a1 v1 (vp_in_nI (by decide) (by decide)) dX6_init_113 ?_
  have y1 := set_app (M0 := cO 6 [.ref 1, .ref 3, .ref 11, .ref 19, .ref 24, .ref 29, .ref 71, .int 0, .null, .null] :: R6) (x := cR [some 72, none]) (y := cR ([some 72, none].set (nI 1).toNatClampNeg (some 77))) (r := (([] : MM) ++ bLo 72) ++ bLo 77)
  rw [show (cO 6 [.ref 1, .ref 3, .ref 11, .ref 19, .ref 24, .ref 29, .ref 71, .int 0, .null, .null] :: R6).length = 71 from l6] at y1
  rw [x1, y1]
  refine V_iinc (v := nI 2) dX6_init_114 rfl (nI_inc 1) rfl ?_
  refine V_goto 92 dX6_init_117 (by decide) ?_
  show V DX6_init (3, 88, 838, 81, 792) 92 [some (.ref 0), some (.int (nI 2))] [] (cO 6 [.ref 1, .ref 3, .ref 11, .ref 19, .ref 24, .ref 29, .ref 71, .int 0, .null, .null] :: (R6 ++ ([cR [some 72, some 77]] ++ (bLo 72 ++ bLo 77)))) _
  refine V_iload_n dX6_init_92 rfl ?_
  refine V_iconst (v := nI 2) dX6_init_93 rfl ?_
  refine V_icmp_ge 120 dX6_init_94 (by decide) (fun _ => ?_) (fun h => absurd (Int32.le_refl _) h)
  refine V_aload_n dX6_init_120 rfl ?_
  refine V_iconst (v := 0) dX6_init_121 rfl ?_
  refine V_put (ci := 6) (fs := [.ref 1, .ref 3, .ref 11, .ref 19, .ref 24, .ref 29, .ref 71, .int 0, .null, .null]) pX6_49 rfl (by decide) dX6_init_122 ?_
  show V DX6_init (3, 88, 838, 81, 792) 125 [some (.ref 0), some (.int (nI 2))] [] (cO 6 [.ref 1, .ref 3, .ref 11, .ref 19, .ref 24, .ref 29, .ref 71, .int 0, .null, .null] :: (R6 ++ ([cR [some 72, some 77]] ++ (bLo 72 ++ bLo 77)))) _
  obtain ⟨R7, g7⟩ : ∃ R : MM, R = R6 ++ ([cR [some 72, some 77]] ++ (bLo 72 ++ bLo 77)) := ⟨_, rfl⟩
  have l7 : R7.length + 1 = 82 := by rw [g7, List.length_append]; show R6.length + 11 + 1 = 82; omega
  rw [← g7]
  refine V_aload_n dX6_init_125 rfl ?_
  refine V_new6 82 82 799 nX6_53 l7 (hL1 _ _ (by decide)) (hS _ (by decide)) (by decide) rfl rfl (by decide) (by decide) dX6_init_126 ?_
  refine V_dup dX6_init_129 rfl ?_
  refine V_aload_n dX6_init_130 rfl ?_
  refine V_get (fs := [.ref 1, .ref 3, .ref 11, .ref 19, .ref 24, .ref 29, .ref 71, .int 0, .null, .null]) gX6_19 rfl rfl dX6_init_131 ?_
  refine V_aload_n dX6_init_134 rfl ?_
  refine V_get (fs := [.ref 1, .ref 3, .ref 11, .ref 19, .ref 24, .ref 29, .ref 71, .int 0, .null, .null]) gX6_31 rfl rfl dX6_init_135 ?_
  refine V_callI6 (av := [.ref 3, .ref 19]) (rest := [.ref 82, .ref 0]) 85 817 lX6_55 (i_deal l7 (by decide) (by decide)) rfl (by decide) rfl rfl ⟨by decide, by decide⟩ (by decide) dX6_init_138 rfl (by rw [len_up l7]; exact hL1 _ _ (by decide)) (by rw [len_up l7]; exact hS2 _ _ (by decide) (by decide)) ?_
  refine V_put6 (R := R7 ++ bDe) 86 qX6_58 rfl (by rw [List.length_append]; show R7.length + 4 + 1 = 86; omega) (by decide) (by decide) dX6_init_141 ?_
  show V DX6_init (3, 88, 838, 85, 817) 144 [some (.ref 0), some (.int (nI 2))] [] (cO 6 [.ref 1, .ref 3, .ref 11, .ref 19, .ref 24, .ref 29, .ref 71, .int 0, .ref 82, .null] :: (R7 ++ bDe)) _
  obtain ⟨R8, g8⟩ : ∃ R : MM, R = R7 ++ bDe := ⟨_, rfl⟩
  have l8 : R8.length + 1 = 86 := by rw [g8, List.length_append]; show R7.length + 4 + 1 = 86; omega
  rw [← g8]
  refine V_aload_n dX6_init_144 rfl ?_
  refine V_new6 86 86 822 nX6_62 l8 (hL1 _ _ (by decide)) (hS _ (by decide)) (by decide) rfl rfl (by decide) (by decide) dX6_init_145 ?_
  refine V_dup dX6_init_148 rfl ?_
  refine V_aload_n dX6_init_149 rfl ?_
  refine V_get (fs := [.ref 1, .ref 3, .ref 11, .ref 19, .ref 24, .ref 29, .ref 71, .int 0, .ref 82, .null]) gX6_19 rfl rfl dX6_init_150 ?_
  refine V_aload_n dX6_init_153 rfl ?_
  refine V_get (fs := [.ref 1, .ref 3, .ref 11, .ref 19, .ref 24, .ref 29, .ref 71, .int 0, .ref 82, .null]) gX6_31 rfl rfl dX6_init_154 ?_
  refine V_callI6 (av := [.ref 3, .ref 19]) (rest := [.ref 86, .ref 0]) 88 838 lX6_64 (i_tail l8 (by decide) (by decide)) rfl (by decide) rfl rfl ⟨by decide, by decide⟩ (by decide) dX6_init_157 rfl (by rw [len_up l8]; exact hL1 _ _ (by decide)) (by rw [len_up l8]; exact hS2 _ _ (by decide) (by decide)) ?_
  refine V_put6 (R := R8 ++ bTa) 89 qX6_65 rfl (by rw [List.length_append]; show R8.length + 3 + 1 = 89; omega) (by decide) (by decide) dX6_init_160 ?_
  show V DX6_init (3, 88, 838, 88, 838) 163 [some (.ref 0), some (.int (nI 2))] [] (cO 6 [.ref 1, .ref 3, .ref 11, .ref 19, .ref 24, .ref 29, .ref 71, .int 0, .ref 82, .ref 86] :: (R8 ++ bTa)) _
  obtain ⟨R9, g9⟩ : ∃ R : MM, R = R8 ++ bTa := ⟨_, rfl⟩
  have l9 : R9.length + 1 = 89 := by rw [g9, List.length_append]; show R8.length + 3 + 1 = 89; omega
  rw [← g9]
  refine V_vret rfl ⟨by decide, by decide⟩ dX6_init_163 ⟨rfl, ?_⟩
  rw [g9, g8, g7, g6, g5, g4, g3, g2, g1, g0]
  unfold memX
  simp only [List.nil_append, List.append_assoc]
