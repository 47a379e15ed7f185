section MK
variable {D : MD} {dd mc ms cc ss : Nat} {b : BB} {pc : Nat} {L : List (Option Value)} {st : List Value} {M0 r : MM} {Out : Option Value → MM → Prop}
theorem all_upL {n n' : Nat} (h : n ≤ n') {L : List (Option Value)} (hL : L.all (okO n) = true) : L.all (okO n') = true := List.all_eq_true.mpr fun o ho => by
  have := List.all_eq_true.mp hL o ho
  cases o with
  | none => rfl
  | some v => exact okV_up h this
theorem all_upS {n n' : Nat} (h : n ≤ n') {st : List Value} (hL : st.all (okV n) = true) : st.all (okV n') = true := List.all_eq_true.mpr fun v hv => okV_up h (List.all_eq_true.mp hL v hv)
theorem ok_lt {n k : Nat} (h : k < n) : okV n (.ref k) = true := by simp [okV, h]
theorem ok_s {n k : Nat} (h : k < n) : ([.ref k] : List Value).all (okV n) = true := List.all_eq_true.mpr fun v hv => by rw [List.mem_singleton.mp hv]; exact ok_lt h
theorem ok_1 {n k : Nat} (h : k < n) : ([some (.ref k)] : List (Option Value)).all (okO n) = true := by
  show (okV n (.ref k) && true) = true
  rw [ok_lt h]; rfl
theorem ok_2 {n k j : Nat} (h : k < n) (hj : j < n) : ([some (.ref k), some (.ref j)] : List (Option Value)).all (okO n) = true := by
  show (okV n (.ref k) && (okV n (.ref j) && true)) = true
  rw [ok_lt h, ok_lt hj]; rfl
theorem ok_3 {n k j i : Nat} (h : k < n) (hj : j < n) (hi : i < n) : ([some (.ref k), some (.ref j), some (.ref i)] : List (Option Value)).all (okO n) = true := by
  show (okV n (.ref k) && (okV n (.ref j) && (okV n (.ref i) && true))) = true
  rw [ok_lt h, ok_lt hj, ok_lt hi]; rfl
theorem V_newiA (k N : Nat) (hk : r.length = k) (hL : L.all (okO (M0.length + 1)) = true) (hst : st.all (okV (M0.length + 1)) = true) (h1 : 1 ≤ k) (hlt : M0.length + k < 999) (hN : N < 100000) (c1 s1 : Nat) (e1 : cc + 1 = c1) (e2 : ss + N = s1) (hc : c1 ≤ mc) (hs : s1 ≤ ms) (hd : decode D.2.1 pc = .ok (.newarray .int, 2))
    (kk : V D (dd, mc, ms, c1, s1) (pc + 2) L (.ref (M0.length + k) :: st) (M0 ++ (r ++ [cI (List.replicate N 0)])) Out) : V D (dd, mc, ms, cc, ss) pc L (.int (nI N) :: st) (M0 ++ r) Out := by
  subst hk; subst e1; subst e2
  have e : (M0 ++ r).length = M0.length + r.length := List.length_append
  refine V_newi ac_int rfl hN (by rw [e]; exact all_upL (by omega) hL) (by rw [e]; exact all_upS (by omega) hst) (by omega) hc hs hd ?_
  rw [e, List.append_assoc]
  exact kk
theorem V_newzA (k N : Nat) (hk : r.length = k) (hL : L.all (okO (M0.length + 1)) = true) (hst : st.all (okV (M0.length + 1)) = true) (h1 : 1 ≤ k) (hlt : M0.length + k < 999) (hN : N < 100000) (c1 s1 : Nat) (e1 : cc + 1 = c1) (e2 : ss + N = s1) (hc : c1 ≤ mc) (hs : s1 ≤ ms) (hd : decode D.2.1 pc = .ok (.newarray .boolean, 2))
    (kk : V D (dd, mc, ms, c1, s1) (pc + 2) L (.ref (M0.length + k) :: st) (M0 ++ (r ++ [cZ (List.replicate N 0)])) Out) : V D (dd, mc, ms, cc, ss) pc L (.int (nI N) :: st) (M0 ++ r) Out := by
  subst hk; subst e1; subst e2
  have e : (M0 ++ r).length = M0.length + r.length := List.length_append
  refine V_newz ac_boolean rfl hN (by rw [e]; exact all_upL (by omega) hL) (by rw [e]; exact all_upS (by omega) hst) (by omega) hc hs hd ?_
  rw [e, List.append_assoc]
  exact kk
theorem V_newqA {idx : Nat} (k N : Nat) (hcl : Cond.classLink D.1.cls idx "WhoseThread$Loom" ∈ TT) (hk : r.length = k) (hL : L.all (okO (M0.length + 1)) = true) (hst : st.all (okV (M0.length + 1)) = true) (h1 : 1 ≤ k) (hlt : M0.length + k < 999) (hN : N < 100000) (c1 s1 : Nat) (e1 : cc + 1 = c1) (e2 : ss + N = s1) (hc : c1 ≤ mc) (hs : s1 ≤ ms) (hd : decode D.2.1 pc = .ok (.anewarray idx, 3))
    (kk : V D (dd, mc, ms, c1, s1) (pc + 3) L (.ref (M0.length + k) :: st) (M0 ++ (r ++ [cR (List.replicate N none)])) Out) : V D (dd, mc, ms, cc, ss) pc L (.int (nI N) :: st) (M0 ++ r) Out := by
  subst hk; subst e1; subst e2
  have e : (M0 ++ r).length = M0.length + r.length := List.length_append
  refine V_newq hcl rfl hN (by rw [e]; exact all_upL (by omega) hL) (by rw [e]; exact all_upS (by omega) hst) (by omega) hc hs hd ?_
  rw [e, List.append_assoc]
  exact kk
theorem V_newA {idx ci : Nat} {fs : List Value} (k : Nat) (hf : FN D.1.cls idx ci fs) (hk : r.length = k) (hL : L.all (okO (M0.length + 1)) = true) (hst : st.all (okV (M0.length + 1)) = true) (h1 : 1 ≤ k) (hlt : M0.length + k < 999) (c1 s1 : Nat) (e1 : cc + 1 = c1) (e2 : ss + fs.length = s1) (hc : c1 ≤ mc) (hs : s1 ≤ ms) (hd : decode D.2.1 pc = .ok (.new idx, 3))
    (kk : V D (dd, mc, ms, c1, s1) (pc + 3) L (.ref (M0.length + k) :: st) (M0 ++ (r ++ [cO ci fs])) Out) : V D (dd, mc, ms, cc, ss) pc L st (M0 ++ r) Out := by
  subst hk; subst e1; subst e2
  have e : (M0 ++ r).length = M0.length + r.length := List.length_append
  refine V_new hf (by rw [e]; exact all_upL (by omega) hL) (by rw [e]; exact all_upS (by omega) hst) (by omega) hc hs hd ?_
  rw [e, List.append_assoc]
  exact kk
theorem at_app {x : CC} : (M0 ++ x :: r)[M0.length]? = some x := by rw [List.getElem?_append_right (Nat.le_refl _), Nat.sub_self]; rfl
theorem at_app1 {x y : CC} : (M0 ++ x :: y :: r)[M0.length + 1]? = some y := by rw [List.getElem?_append_right (by omega), Nat.add_sub_cancel_left]; rfl
theorem set_app {x y : CC} : (M0 ++ x :: r).set M0.length y = M0 ++ y :: r := by rw [List.set_append_right _ _ (Nat.le_refl _), Nat.sub_self]; rfl
theorem set_app1 {x y z : CC} : (M0 ++ x :: y :: r).set (M0.length + 1) z = M0 ++ x :: z :: r := by rw [List.set_append_right _ _ (by omega), Nat.add_sub_cancel_left]; rfl
theorem V_putFA {idx ci f q : Nat} {fs : List Value} (k nf : Nat) (hf : FF D.1.cls idx ci f) (hi : D.1.name = "<init>") (hk : r.length + 1 = k) (hn : fs.length = nf) (hl : f < nf) (hq : q < M0.length + k) (hd : decode D.2.1 pc = .ok (.putfield idx, 3)) (kk : V D b (pc + 3) L st (M0 ++ cO ci (fs.set f (.ref q)) :: r) Out) : V D b pc L (.ref q :: .ref M0.length :: st) (M0 ++ cO ci fs :: r) Out := by
  subst hk; subst hn
  refine V_putF hf hi at_app hl ?_ hd ?_
  · have e : (M0 ++ cO ci fs :: r).length = M0.length + (r.length + 1) := by simp
    rw [e]; simp only [okV, Bool.or_eq_true, decide_eq_true_eq]; exact Or.inl hq
  · rw [set_app]; exact kk
end MK
def zI (n : Nat) : CC := cI (List.replicate n 0)
def bTx : MM := [cO 5 [.ref 2, .int 0, .int 0, .int 0, .int 0], zI 160]
def bTe (n : Nat) : MM := [cO 4 [.int 0, .int 0, .ref (n + 1), .ref (n + 2), .ref (n + 3), .ref (n + 4), .ref (n + 5), .ref (n + 6), .ref (n + 7)], zI 8, zI 8, zI 8, zI 8, zI 8, zI 6, zI 6]
def bLo (n : Nat) : MM := [cO 1 [.ref 3, .int 0, .int 0, .int 0, .int 0, .ref (n + 1), .ref (n + 2), .ref (n + 3), .ref (n + 4)], zI 8, zI 8, zI 8, zI 8]
def bDe : MM := [cO 0 [.ref 3, .ref 19, .ref 83, .ref 84, .int 0, .ref 85, .int 0], zI 6, zI 6, zI 6]
def bTa : MM := [cO 3 [.ref 3, .ref 19, .ref 87, .ref 88, .int 0], zI 8, zI 8]
def bPa : MM := [cO 2 [.ref 30, .int 0, .int 0], cR [some 31, some 36, some 41, some 46, some 51, some 56, some 61, some 66]] ++ (bLo 31 ++ (bLo 36 ++ (bLo 41 ++ (bLo 46 ++ (bLo 51 ++ (bLo 56 ++ (bLo 61 ++ bLo 66)))))))
def bMo : MM := [cO 7 [.ref 90, .ref 91, .int 0, .ref 92, .ref 93, .int 0, .ref 94, .ref 95, .ref 96, .int 0, .int 0, .int 0, .int 0, .int 0, .int 0, .ref 97, .ref 98, .ref 99, .int 0, .ref 100, .ref 101, .int 0, .ref 102, .int 0, .ref 103, .ref 104, .ref 105, .ref 106, .ref 107, .int 0, .ref 108, .ref 109, .ref 110],
  zI 8, zI 8, zI 6, zI 6, zI 24, zI 42, zI 160, zI 24, zI 8, zI 8, zI 6, zI 6, zI 336, zI 8, zI 6, cZ (List.replicate 2 0), zI 84, zI 42, zI 6, zI 6, zI 2304]
set_option maxHeartbeats 4000000 in
theorem i_text {M0 : MM} {n : Nat} (hn : M0.length = n) (hlt : n < 500) : Con DX5_init 1 1 160 [.ref n] (M0 ++ [cO 5 [.null, .int 0, .int 0, .int 0, .int 0]]) (fun v M' => v = none ∧ M' = M0 ++ [cO 5 [.ref (n + 1), .int 0, .int 0, .int 0, .int 0], zI 160]) := by
  subst hn
  have hL : ([some (.ref M0.length)] : List (Option Value)).all (okO (M0.length + 1)) = true := ok_1 (by omega)
  have hS : ([.ref M0.length] : List Value).all (okV (M0.length + 1)) = true := ok_s (by omega)
  refine Con.ofV [some (.ref M0.length)] rfl (Nat.le_of_ble_eq_true rfl) rfl ?_
  refine V_aload_n dX5_init_0 rfl ?_
  refine V_objInit lX5_3 oI oC (by decide) dX5_init_1 (by decide) ?_
  refine V_aload_n dX5_init_4 rfl ?_
  refine V_sipush (v := nI 160) dX5_init_5 rfl ?_
  refine V_newiA 1 160 rfl hL hS (by decide) (by omega) (by decide) 1 160 rfl rfl (by decide) (by decide) dX5_init_8 ?_
  refine V_putFA 2 5 qX5_9 rfl rfl rfl (by decide) (by omega) dX5_init_10 ?_
  exact V_vret rfl ⟨by decide, by decide⟩ dX5_init_13 ⟨rfl, rfl⟩
set_option maxHeartbeats 4000000 in
theorem i_tell {M0 : MM} {n : Nat} (hn : M0.length = n) (hlt : n < 500) : Con DX4_init 1 7 52 [.ref n] (M0 ++ [cO 4 [.int 0, .int 0, .null, .null, .null, .null, .null, .null, .null]]) (fun v M' => v = none ∧ M' = M0 ++ bTe n) := by
  subst hn
  have hL : ([some (.ref M0.length)] : List (Option Value)).all (okO (M0.length + 1)) = true := ok_1 (by omega)
  have hS : ([.ref M0.length] : List Value).all (okV (M0.length + 1)) = true := ok_s (by omega)
  refine Con.ofV [some (.ref M0.length)] rfl (Nat.le_of_ble_eq_true rfl) rfl ?_
  refine V_aload_n dX4_init_0 rfl ?_
  refine V_objInit lX4_3 oI oC (by decide) dX4_init_1 (by decide) ?_
  refine V_aload_n dX4_init_4 rfl ?_
  refine V_bipush (v := nI 8) dX4_init_5 rfl ?_
  refine V_newiA 1 8 rfl hL hS (by decide) (by omega) (by decide) 1 8 rfl rfl (by decide) (by decide) dX4_init_7 ?_
  refine V_putFA 2 9 qX4_9 rfl rfl rfl (by decide) (by omega) dX4_init_9 ?_
  refine V_aload_n dX4_init_12 rfl ?_
  refine V_bipush (v := nI 8) dX4_init_13 rfl ?_
  refine V_newiA 2 8 rfl hL hS (by decide) (by omega) (by decide) 2 16 rfl rfl (by decide) (by decide) dX4_init_15 ?_
  refine V_putFA 3 9 qX4_15 rfl rfl rfl (by decide) (by omega) dX4_init_17 ?_
  refine V_aload_n dX4_init_20 rfl ?_
  refine V_bipush (v := nI 8) dX4_init_21 rfl ?_
  refine V_newiA 3 8 rfl hL hS (by decide) (by omega) (by decide) 3 24 rfl rfl (by decide) (by decide) dX4_init_23 ?_
  refine V_putFA 4 9 qX4_18 rfl rfl rfl (by decide) (by omega) dX4_init_25 ?_
  refine V_aload_n dX4_init_28 rfl ?_
  refine V_bipush (v := nI 8) dX4_init_29 rfl ?_
  refine V_newiA 4 8 rfl hL hS (by decide) (by omega) (by decide) 4 32 rfl rfl (by decide) (by decide) dX4_init_31 ?_
  refine V_putFA 5 9 qX4_21 rfl rfl rfl (by decide) (by omega) dX4_init_33 ?_
  refine V_aload_n dX4_init_36 rfl ?_
  refine V_bipush (v := nI 8) dX4_init_37 rfl ?_
  refine V_newiA 5 8 rfl hL hS (by decide) (by omega) (by decide) 5 40 rfl rfl (by decide) (by decide) dX4_init_39 ?_
  refine V_putFA 6 9 qX4_24 rfl rfl rfl (by decide) (by omega) dX4_init_41 ?_
  refine V_aload_n dX4_init_44 rfl ?_
  refine V_bipush (v := nI 6) dX4_init_45 rfl ?_
  refine V_newiA 6 6 rfl hL hS (by decide) (by omega) (by decide) 6 46 rfl rfl (by decide) (by decide) dX4_init_47 ?_
  refine V_putFA 7 9 qX4_27 rfl rfl rfl (by decide) (by omega) dX4_init_49 ?_
  refine V_aload_n dX4_init_52 rfl ?_
  refine V_bipush (v := nI 6) dX4_init_53 rfl ?_
  refine V_newiA 7 6 rfl hL hS (by decide) (by omega) (by decide) 7 52 rfl rfl (by decide) (by decide) dX4_init_55 ?_
  refine V_putFA 8 9 qX4_30 rfl rfl rfl (by decide) (by omega) dX4_init_57 ?_
  exact V_vret rfl ⟨by decide, by decide⟩ dX4_init_60 ⟨rfl, rfl⟩
set_option maxHeartbeats 4000000 in
theorem i_loom {M0 : MM} {n : Nat} (hn : M0.length = n) (hlt : n < 500) (h3 : 3 < n) : Con DX1_init 1 4 32 [.ref n, .ref 3] (M0 ++ [cO 1 [.null, .int 0, .int 0, .int 0, .int 0, .null, .null, .null, .null]]) (fun v M' => v = none ∧ M' = M0 ++ bLo n) := by
  subst hn
  have hL : ([some (.ref M0.length), some (.ref 3)] : List (Option Value)).all (okO (M0.length + 1)) = true := ok_2 (by omega) (by omega)
  have hS : ([.ref M0.length] : List Value).all (okV (M0.length + 1)) = true := ok_s (by omega)
  refine Con.ofV [some (.ref M0.length), some (.ref 3)] rfl (Nat.le_of_ble_eq_true rfl) rfl ?_
  refine V_aload_n dX1_init_0 rfl ?_
  refine V_objInit lX1_3 oI oC (by decide) dX1_init_1 (by decide) ?_
  refine V_aload_n dX1_init_4 rfl ?_
  refine V_bipush (v := nI 8) dX1_init_5 rfl ?_
  refine V_newiA 1 8 rfl hL hS (by decide) (by omega) (by decide) 1 8 rfl rfl (by decide) (by decide) dX1_init_7 ?_
  refine V_putFA 2 9 qX1_9 rfl rfl rfl (by decide) (by omega) dX1_init_9 ?_
  refine V_aload_n dX1_init_12 rfl ?_
  refine V_bipush (v := nI 8) dX1_init_13 rfl ?_
  refine V_newiA 2 8 rfl hL hS (by decide) (by omega) (by decide) 2 16 rfl rfl (by decide) (by decide) dX1_init_15 ?_
  refine V_putFA 3 9 qX1_15 rfl rfl rfl (by decide) (by omega) dX1_init_17 ?_
  refine V_aload_n dX1_init_20 rfl ?_
  refine V_bipush (v := nI 8) dX1_init_21 rfl ?_
  refine V_newiA 3 8 rfl hL hS (by decide) (by omega) (by decide) 3 24 rfl rfl (by decide) (by decide) dX1_init_23 ?_
  refine V_putFA 4 9 qX1_18 rfl rfl rfl (by decide) (by omega) dX1_init_25 ?_
  refine V_aload_n dX1_init_28 rfl ?_
  refine V_bipush (v := nI 8) dX1_init_29 rfl ?_
  refine V_newiA 4 8 rfl hL hS (by decide) (by omega) (by decide) 4 32 rfl rfl (by decide) (by decide) dX1_init_31 ?_
  refine V_putFA 5 9 qX1_21 rfl rfl rfl (by decide) (by omega) dX1_init_33 ?_
  refine V_aload_n dX1_init_36 rfl ?_
  refine V_aload_n dX1_init_37 rfl ?_
  refine V_putFA 5 9 qX1_24 rfl rfl rfl (by decide) (by omega) dX1_init_38 ?_
  exact V_vret rfl ⟨by decide, by decide⟩ dX1_init_41 ⟨rfl, rfl⟩
set_option maxHeartbeats 4000000 in
theorem i_deal {M0 : MM} {n : Nat} (hn : M0.length = n) (hlt : n < 500) (h3 : 19 < n) : Con DX0_init 1 3 18 [.ref n, .ref 3, .ref 19] (M0 ++ [cO 0 [.null, .null, .null, .null, .int 0, .null, .int 0]]) (fun v M' => v = none ∧ M' = M0 ++ [cO 0 [.ref 3, .ref 19, .ref (n + 1), .ref (n + 2), .int 0, .ref (n + 3), .int 0], zI 6, zI 6, zI 6]) := by
  subst hn
  have hL : ([some (.ref M0.length), some (.ref 3), some (.ref 19)] : List (Option Value)).all (okO (M0.length + 1)) = true := ok_3 (by omega) (by omega) (by omega)
  have hS : ([.ref M0.length] : List Value).all (okV (M0.length + 1)) = true := ok_s (by omega)
  refine Con.ofV [some (.ref M0.length), some (.ref 3), some (.ref 19)] rfl (Nat.le_of_ble_eq_true rfl) rfl ?_
  refine V_aload_n dX0_init_0 rfl ?_
  refine V_objInit lX0_3 oI oC (by decide) dX0_init_1 (by decide) ?_
  refine V_aload_n dX0_init_4 rfl ?_
  refine V_bipush (v := nI 6) dX0_init_5 rfl ?_
  refine V_newiA 1 6 rfl hL hS (by decide) (by omega) (by decide) 1 6 rfl rfl (by decide) (by decide) dX0_init_7 ?_
  refine V_putFA 2 7 qX0_9 rfl rfl rfl (by decide) (by omega) dX0_init_9 ?_
  refine V_aload_n dX0_init_12 rfl ?_
  refine V_bipush (v := nI 6) dX0_init_13 rfl ?_
  refine V_newiA 2 6 rfl hL hS (by decide) (by omega) (by decide) 2 12 rfl rfl (by decide) (by decide) dX0_init_15 ?_
  refine V_putFA 3 7 qX0_15 rfl rfl rfl (by decide) (by omega) dX0_init_17 ?_
  refine V_aload_n dX0_init_20 rfl ?_
  refine V_bipush (v := nI 6) dX0_init_21 rfl ?_
  refine V_newiA 3 6 rfl hL hS (by decide) (by omega) (by decide) 3 18 rfl rfl (by decide) (by decide) dX0_init_23 ?_
  refine V_putFA 4 7 qX0_18 rfl rfl rfl (by decide) (by omega) dX0_init_25 ?_
  refine V_aload_n dX0_init_28 rfl ?_
  refine V_aload_n dX0_init_29 rfl ?_
  refine V_putFA 4 7 qX0_21 rfl rfl rfl (by decide) (by omega) dX0_init_30 ?_
  refine V_aload_n dX0_init_33 rfl ?_
  refine V_aload_n dX0_init_34 rfl ?_
  refine V_putFA 4 7 qX0_25 rfl rfl rfl (by decide) (by omega) dX0_init_35 ?_
  exact V_vret rfl ⟨by decide, by decide⟩ dX0_init_38 ⟨rfl, rfl⟩
set_option maxHeartbeats 4000000 in
theorem i_tail {M0 : MM} {n : Nat} (hn : M0.length = n) (hlt : n < 500) (h3 : 19 < n) : Con DX3_init 1 2 16 [.ref n, .ref 3, .ref 19] (M0 ++ [cO 3 [.null, .null, .null, .null, .int 0]]) (fun v M' => v = none ∧ M' = M0 ++ [cO 3 [.ref 3, .ref 19, .ref (n + 1), .ref (n + 2), .int 0], zI 8, zI 8]) := by
  subst hn
  have hL : ([some (.ref M0.length), some (.ref 3), some (.ref 19)] : List (Option Value)).all (okO (M0.length + 1)) = true := ok_3 (by omega) (by omega) (by omega)
  have hS : ([.ref M0.length] : List Value).all (okV (M0.length + 1)) = true := ok_s (by omega)
  refine Con.ofV [some (.ref M0.length), some (.ref 3), some (.ref 19)] rfl (Nat.le_of_ble_eq_true rfl) rfl ?_
  refine V_aload_n dX3_init_0 rfl ?_
  refine V_objInit lX3_3 oI oC (by decide) dX3_init_1 (by decide) ?_
  refine V_aload_n dX3_init_4 rfl ?_
  refine V_bipush (v := nI 8) dX3_init_5 rfl ?_
  refine V_newiA 1 8 rfl hL hS (by decide) (by omega) (by decide) 1 8 rfl rfl (by decide) (by decide) dX3_init_7 ?_
  refine V_putFA 2 5 qX3_9 rfl rfl rfl (by decide) (by omega) dX3_init_9 ?_
  refine V_aload_n dX3_init_12 rfl ?_
  refine V_bipush (v := nI 8) dX3_init_13 rfl ?_
  refine V_newiA 2 8 rfl hL hS (by decide) (by omega) (by decide) 2 16 rfl rfl (by decide) (by decide) dX3_init_15 ?_
  refine V_putFA 3 5 qX3_15 rfl rfl rfl (by decide) (by omega) dX3_init_17 ?_
  refine V_aload_n dX3_init_20 rfl ?_
  refine V_aload_n dX3_init_21 rfl ?_
  refine V_putFA 3 5 qX3_18 rfl rfl rfl (by decide) (by omega) dX3_init_22 ?_
  refine V_aload_n dX3_init_25 rfl ?_
  refine V_aload_n dX3_init_26 rfl ?_
  refine V_putFA 3 5 qX3_22 rfl rfl rfl (by decide) (by omega) dX3_init_27 ?_
  exact V_vret rfl ⟨by decide, by decide⟩ dX3_init_30 ⟨rfl, rfl⟩
