def nulL : List Value := [.null, .int 0, .int 0, .int 0, .int 0, .null, .null, .null, .null]
set_option maxHeartbeats 1000000 in
theorem i_past_step {M0 R : MM} {l : List (Option Nat)} {Out : Option Value → MM → Prop} (j c s c1 s1 : Nat) (hj : j < 8) (hl : l.length = 8) (hR : R.length = 5 * j) (hlt : M0.length < 400) (h3 : 3 < M0.length) (e1 : c + 5 = c1) (e2 : s + 41 = s1) (hc : c1 ≤ 41) (hs : s1 ≤ 336)
    (kk : V DX2_init (2, 41, 336, c1, s1) 15 [some (.ref M0.length), some (.ref 3), some (.int (nI (j + 1)))] [] (M0 ++ cO 2 [.ref (M0.length + 1), .int 0, .int 0] :: cR (l.set j (some (M0.length + (2 + 5 * j)))) :: (R ++ bLo (M0.length + (2 + 5 * j)))) Out) :
    V DX2_init (2, 41, 336, c, s) 15 [some (.ref M0.length), some (.ref 3), some (.int (nI j))] [] (M0 ++ cO 2 [.ref (M0.length + 1), .int 0, .int 0] :: cR l :: R) Out := by
  subst e1; subst e2
  have e : (M0 ++ cO 2 [.ref (M0.length + 1), .int 0, .int 0] :: cR l :: R).length = M0.length + (2 + 5 * j) := by simp; omega
  have hL : ∀ n, M0.length < n → ([some (.ref M0.length), some (.ref 3), some (.int (nI j))] : List (Option Value)).all (okO n) = true := fun n h => by
    show (okV n (.ref M0.length) && (okV n (.ref 3) && (true && true))) = true
    rw [ok_lt h, ok_lt (Nat.lt_trans h3 h)]; rfl
  have hS : ∀ n, M0.length + 1 < n → ([.int (nI j), .ref (M0.length + 1)] : List Value).all (okV n) = true := fun n h => by
    show (true && (okV n (.ref (M0.length + 1)) && true)) = true
    rw [ok_lt h]; rfl
  refine V_iload_n dX2_init_15 rfl ?_
  refine V_bipush (v := nI 8) dX2_init_16 rfl ?_
  refine V_icmp_ge 41 dX2_init_18 (by decide) (fun h => absurd h ?_) (fun _ => ?_)
  · exact Int32.not_le.mpr (nI_lt hj (by omega))
  refine V_aload_n dX2_init_21 rfl ?_
  refine V_get gX2_11 at_app rfl dX2_init_22 ?_
  refine V_iload_n dX2_init_25 rfl ?_
  refine V_new nX2_9 (hL _ (by omega)) (hS _ (by omega)) (by omega) (by show c + 1 ≤ 41; omega) (by show s + 9 ≤ 336; omega) dX2_init_26 ?_
  rw [e]
  refine V_dup dX2_init_29 rfl ?_
  refine V_aload_n dX2_init_30 rfl ?_
  refine V_callI (av := [.ref 3]) (rest := [.ref (M0.length + (2 + 5 * j)), .int (nI j), .ref (M0.length + 1)]) lX2_17 (i_loom e (by omega) (by omega)) rfl (by show 1 + 1 ≤ 2; omega) ⟨by show c + 1 + 4 ≤ 41; omega, by show s + 9 + 32 ≤ 336; omega⟩ (Nat.le_of_ble_eq_true rfl) dX2_init_31 rfl (Or.inr ⟨?_, ?_⟩) ?_
  · rw [List.length_append, e]; exact hL _ (by omega)
  · rw [List.length_append, e]
    show (okV _ (.ref (M0.length + (2 + 5 * j))) && _) = true
    rw [ok_lt (by show _ < _ + 1; omega)]; exact hS _ (by omega)
  rintro v M' ⟨rfl, rfl⟩
  have em : M0 ++ cO 2 [.ref (M0.length + 1), .int 0, .int 0] :: cR l :: R ++ bLo (M0.length + (2 + 5 * j)) = M0 ++ cO 2 [.ref (M0.length + 1), .int 0, .int 0] :: cR l :: (R ++ bLo (M0.length + (2 + 5 * j))) := by simp
  have hv := at_app (M0 := M0 ++ cO 2 [.ref (M0.length + 1), .int 0, .int 0] :: cR l :: R) (x := cO 1 [.ref 3, .int 0, .int 0, .int 0, .int 0, .ref (M0.length + (2 + 5 * j) + 1), .ref (M0.length + (2 + 5 * j) + 2), .ref (M0.length + (2 + 5 * j) + 3), .ref (M0.length + (2 + 5 * j) + 4)]) (r := [zI 8, zI 8, zI 8, zI 8])
  rw [e] at hv
  have hv : (M0 ++ cO 2 [.ref (M0.length + 1), .int 0, .int 0] :: cR l :: R ++ bLo (M0.length + (2 + 5 * j)))[M0.length + (2 + 5 * j)]? = some (cO 1 [.ref 3, .int 0, .int 0, .int 0, .int 0, .ref (M0.length + (2 + 5 * j) + 1), .ref (M0.length + (2 + 5 * j) + 2), .ref (M0.length + (2 + 5 * j) + 3), .ref (M0.length + (2 + 5 * j) + 4)]) := hv
  rw [em] at hv ⊢
  refine V_aast (ci := 1) rfl at_app1 hv (by rw [hl]; exact vp_in_nI hj (by omega)) dX2_init_34 ?_
  rw [set_app1, nI_clamp (by omega)]
  refine V_iinc (v := nI (j + 1)) dX2_init_35 rfl (nI_inc j) rfl ?_
  refine V_goto 15 dX2_init_38 (by decide) ?_
  exact kk
set_option maxHeartbeats 1000000 in
theorem i_past {M0 : MM} (hn : M0.length = 29) : Con DX2_init 2 41 336 [.ref 29, .ref 3] (M0 ++ [cO 2 [.null, .int 0, .int 0]]) (fun v M' => v = none ∧ M' = M0 ++ bPa) := by
  have hL : ([some (.ref M0.length), some (.ref 3), none] : List (Option Value)).all (okO (M0.length + 1)) = true := by
    show (okV _ (.ref M0.length) && (okV _ (.ref 3) && (true && true))) = true
    rw [ok_lt (by omega), ok_lt (by omega)]; rfl
  have hS : ([.ref M0.length] : List Value).all (okV (M0.length + 1)) = true := ok_s (by omega)
  rw [show (29 : Nat) = M0.length from hn.symm]
  refine Con.ofV [some (.ref M0.length), some (.ref 3), none] rfl (Nat.le_of_ble_eq_true rfl) rfl ?_
  refine V_aload_n dX2_init_0 rfl ?_
  refine V_objInit lX2_3 oI oC (by decide) dX2_init_1 (by decide) ?_
  refine V_aload_n dX2_init_4 rfl ?_
  refine V_bipush (v := nI 8) dX2_init_5 rfl ?_
  refine V_newqA 1 8 kcX2_9 rfl hL hS (by decide) (by omega) (by decide) 1 8 rfl rfl (by decide) (by decide) dX2_init_7 ?_
  refine V_putFA 2 3 qX2_11 rfl rfl rfl (by decide) (by omega) dX2_init_10 ?_
  show V DX2_init (2, 41, 336, 1, 8) 13 [some (.ref M0.length), some (.ref 3), none] [] (M0 ++ cO 2 [.ref (M0.length + 1), .int 0, .int 0] :: [cR (List.replicate 8 none)]) _
  refine V_iconst (v := nI 0) dX2_init_13 rfl ?_
  refine V_istore_n dX2_init_14 (Nat.le_of_ble_eq_true rfl) rfl ?_
  show V DX2_init (2, 41, 336, 1, 8) 15 [some (.ref M0.length), some (.ref 3), some (.int (nI 0))] [] (M0 ++ cO 2 [.ref (M0.length + 1), .int 0, .int 0] :: cR [none, none, none, none, none, none, none, none] :: ([])) _
  refine i_past_step 0 1 8 6 49 (by decide) rfl rfl (by omega) (by omega) rfl rfl (by decide) (by decide) ?_
  show V DX2_init (2, 41, 336, 6, 49) 15 [some (.ref M0.length), some (.ref 3), some (.int (nI 1))] [] (M0 ++ cO 2 [.ref (M0.length + 1), .int 0, .int 0] :: cR [some (M0.length + 2), none, none, none, none, none, none, none] :: (([]) ++ bLo (M0.length + 2))) _
  refine i_past_step 1 6 49 11 90 (by decide) rfl rfl (by omega) (by omega) rfl rfl (by decide) (by decide) ?_
  show V DX2_init (2, 41, 336, 11, 90) 15 [some (.ref M0.length), some (.ref 3), some (.int (nI 2))] [] (M0 ++ cO 2 [.ref (M0.length + 1), .int 0, .int 0] :: cR [some (M0.length + 2), some (M0.length + 7), none, none, none, none, none, none] :: ((([]) ++ bLo (M0.length + 2)) ++ bLo (M0.length + 7))) _
  refine i_past_step 2 11 90 16 131 (by decide) rfl rfl (by omega) (by omega) rfl rfl (by decide) (by decide) ?_
  show V DX2_init (2, 41, 336, 16, 131) 15 [some (.ref M0.length), some (.ref 3), some (.int (nI 3))] [] (M0 ++ cO 2 [.ref (M0.length + 1), .int 0, .int 0] :: cR [some (M0.length + 2), some (M0.length + 7), some (M0.length + 12), none, none, none, none, none] :: (((([]) ++ bLo (M0.length + 2)) ++ bLo (M0.length + 7)) ++ bLo (M0.length + 12))) _
  refine i_past_step 3 16 131 21 172 (by decide) rfl rfl (by omega) (by omega) rfl rfl (by decide) (by decide) ?_
  show V DX2_init (2, 41, 336, 21, 172) 15 [some (.ref M0.length), some (.ref 3), some (.int (nI 4))] [] (M0 ++ cO 2 [.ref (M0.length + 1), .int 0, .int 0] :: cR [some (M0.length + 2), some (M0.length + 7), some (M0.length + 12), some (M0.length + 17), none, none, none, none] :: ((((([]) ++ bLo (M0.length + 2)) ++ bLo (M0.length + 7)) ++ bLo (M0.length + 12)) ++ bLo (M0.length + 17))) _
  refine i_past_step 4 21 172 26 213 (by decide) rfl rfl (by omega) (by omega) rfl rfl (by decide) (by decide) ?_
  show V DX2_init (2, 41, 336, 26, 213) 15 [some (.ref M0.length), some (.ref 3), some (.int (nI 5))] [] (M0 ++ cO 2 [.ref (M0.length + 1), .int 0, .int 0] :: cR [some (M0.length + 2), some (M0.length + 7), some (M0.length + 12), some (M0.length + 17), some (M0.length + 22), none, none, none] :: (((((([]) ++ bLo (M0.length + 2)) ++ bLo (M0.length + 7)) ++ bLo (M0.length + 12)) ++ bLo (M0.length + 17)) ++ bLo (M0.length + 22))) _
  refine i_past_step 5 26 213 31 254 (by decide) rfl rfl (by omega) (by omega) rfl rfl (by decide) (by decide) ?_
  show V DX2_init (2, 41, 336, 31, 254) 15 [some (.ref M0.length), some (.ref 3), some (.int (nI 6))] [] (M0 ++ cO 2 [.ref (M0.length + 1), .int 0, .int 0] :: cR [some (M0.length + 2), some (M0.length + 7), some (M0.length + 12), some (M0.length + 17), some (M0.length + 22), some (M0.length + 27), none, none] :: ((((((([]) ++ bLo (M0.length + 2)) ++ bLo (M0.length + 7)) ++ bLo (M0.length + 12)) ++ bLo (M0.length + 17)) ++ bLo (M0.length + 22)) ++ bLo (M0.length + 27))) _
  refine i_past_step 6 31 254 36 295 (by decide) rfl rfl (by omega) (by omega) rfl rfl (by decide) (by decide) ?_
  show V DX2_init (2, 41, 336, 36, 295) 15 [some (.ref M0.length), some (.ref 3), some (.int (nI 7))] [] (M0 ++ cO 2 [.ref (M0.length + 1), .int 0, .int 0] :: cR [some (M0.length + 2), some (M0.length + 7), some (M0.length + 12), some (M0.length + 17), some (M0.length + 22), some (M0.length + 27), some (M0.length + 32), none] :: (((((((([]) ++ bLo (M0.length + 2)) ++ bLo (M0.length + 7)) ++ bLo (M0.length + 12)) ++ bLo (M0.length + 17)) ++ bLo (M0.length + 22)) ++ bLo (M0.length + 27)) ++ bLo (M0.length + 32))) _
  refine i_past_step 7 36 295 41 336 (by decide) rfl rfl (by omega) (by omega) rfl rfl (by decide) (by decide) ?_
  show V DX2_init (2, 41, 336, 41, 336) 15 [some (.ref M0.length), some (.ref 3), some (.int (nI 8))] [] (M0 ++ cO 2 [.ref (M0.length + 1), .int 0, .int 0] :: cR [some (M0.length + 2), some (M0.length + 7), some (M0.length + 12), some (M0.length + 17), some (M0.length + 22), some (M0.length + 27), some (M0.length + 32), some (M0.length + 37)] :: ((((((((([]) ++ bLo (M0.length + 2)) ++ bLo (M0.length + 7)) ++ bLo (M0.length + 12)) ++ bLo (M0.length + 17)) ++ bLo (M0.length + 22)) ++ bLo (M0.length + 27)) ++ bLo (M0.length + 32)) ++ bLo (M0.length + 37))) _
  rw [hn]
  refine V_iload_n dX2_init_15 rfl ?_
  refine V_bipush (v := nI 8) dX2_init_16 rfl ?_
  refine V_icmp_ge 41 dX2_init_18 (by decide) (fun _ => ?_) (fun h => absurd (Int32.le_refl _) h)
  exact V_vret rfl ⟨by decide, by decide⟩ dX2_init_41 ⟨rfl, rfl⟩
