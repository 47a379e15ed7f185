theorem u2_at (F : FT) (a i : Nat) (v : Int32) (c j : Nat) : u2 F a i v c j = if c = a ∧ j = i then v else F c j := rfl
theorem u1_at (G : GT) (a : Nat) (l : List Int32) (c : Nat) : u1 G a l c = if c = a then l else G c := rfl
theorem nI_inc (a : Nat) : nI a + Int32.ofInt 1 = nI (a + 1) := nI_1 a
theorem nI_dec (a : Nat) : nI (a + 1) + Int32.ofInt (-1) = nI a := pk_m1 a
theorem gL_L {k : Nat} (h : isL k = true) : gLen (k + 1) = 8 ∧ gLen (k + 2) = 8 ∧ gLen (k + 3) = 8 ∧ gLen (k + 4) = 8 := by
  have key : ∀ k, k < 111 → (!isL k || (gLen (k + 1) == 8 && gLen (k + 2) == 8 && gLen (k + 3) == 8 && gLen (k + 4) == 8)) = true := by decide +kernel
  have hh := key k (by have := isL_lt k h; omega)
  rw [h] at hh
  simp only [Bool.not_true, Bool.false_or, Bool.and_eq_true, beq_iff_eq] at hh
  exact ⟨hh.1.1.1, hh.1.1.2, hh.1.2, hh.2⟩
theorem gL_T {k : Nat} (h : k = 3 ∨ k = 11) : gLen (k + 1) = 8 ∧ gLen (k + 2) = 8 ∧ gLen (k + 3) = 8 ∧ gLen (k + 4) = 8 ∧ gLen (k + 5) = 8 ∧ gLen (k + 6) = 6 ∧ gLen (k + 7) = 6 := by
  rcases h with rfl | rfl <;> decide +kernel
section TM
variable {D : MD} {d pc : Nat} {L : List (Option Value)} {st : List Value} {F : FT} {G : GT} {P : Option Value → FT → GT → Prop}
theorem T_iaddN {x y : Nat} (hd : decode D.2.1 pc = .ok (.iadd, 1)) (k : T D d (pc + 1) L (.int (nI (x + y)) :: st) F G P) : T D d pc L (.int (nI y) :: .int (nI x) :: st) F G P := T_iadd hd (by rw [nI_add]; exact k)
theorem T_imulN {x y : Nat} (hd : decode D.2.1 pc = .ok (.imul, 1)) (k : T D d (pc + 1) L (.int (nI (x * y)) :: st) F G P) : T D d pc L (.int (nI y) :: .int (nI x) :: st) F G P := T_imul hd (by rw [pk_mul]; exact k)
theorem T_isubN {x y : Nat} (hd : decode D.2.1 pc = .ok (.isub, 1)) (h : y ≤ x) (k : T D d (pc + 1) L (.int (nI (x - y)) :: st) F G P) : T D d pc L (.int (nI y) :: .int (nI x) :: st) F G P := T_isub hd (by rw [pk_sub h]; exact k)
theorem cell_0 (F : FT) (G : GT) : cellOf F G 0 = cO 6 [.ref 1, .ref 3, .ref 11, .ref 19, .ref 24, .ref 29, .ref 71, .int (F 0 7), .ref 82, .ref 86] := rfl
theorem cell_1 (F : FT) (G : GT) : cellOf F G 1 = cO 5 [.ref 2, .int (F 1 1), .int (F 1 2), .int (F 1 3), .int (F 1 4)] := rfl
theorem cell_29 (F : FT) (G : GT) : cellOf F G 29 = cO 2 [.ref 30, .int (F 29 1), .int (F 29 2)] := rfl
theorem cell_82 (F : FT) (G : GT) : cellOf F G 82 = cO 0 [.ref 3, .ref 19, .ref 83, .ref 84, .int (F 82 4), .ref 85, .int (F 82 6)] := rfl
theorem cell_86 (F : FT) (G : GT) : cellOf F G 86 = cO 3 [.ref 3, .ref 19, .ref 87, .ref 88, .int (F 86 4)] := rfl
theorem cell_89 (F : FT) (G : GT) : cellOf F G 89 = cO 7 [.ref 90, .ref 91, .int (F 89 2), .ref 92, .ref 93, .int (F 89 5), .ref 94, .ref 95, .ref 96, .int (F 89 9), .int (F 89 10), .int (F 89 11), .int (F 89 12), .int (F 89 13), .int (F 89 14), .ref 97, .ref 98, .ref 99, .int (F 89 18), .ref 100, .ref 101, .int (F 89 21), .ref 102, .int (F 89 23), .ref 103, .ref 104, .ref 105, .ref 106, .ref 107, .int (F 89 29), .ref 108, .ref 109, .ref 110] := rfl
theorem cell_30 (F : FT) (G : GT) : cellOf F G 30 = cR [some 31, some 36, some 41, some 46, some 51, some 56, some 61, some 66] := rfl
theorem cell_71 (F : FT) (G : GT) : cellOf F G 71 = cR [some 72, some 77] := rfl
theorem T_g6 {idx f : Nat} {fs : List Value} {v : Value} (hf : FL D.1.cls idx 6 f) (hc : cellOf F G 0 = cO 6 fs) (hv : fs[f]? = some v) (hd : decode D.2.1 pc = .ok (.getfield idx, 3)) (k : T D d (pc + 3) L (v :: st) F G P) : T D d pc L (.ref 0 :: st) F G P := T_get hf (by decide) hc hv hd k
theorem T_g5 {idx f : Nat} {fs : List Value} {v : Value} (hf : FL D.1.cls idx 5 f) (hc : cellOf F G 1 = cO 5 fs) (hv : fs[f]? = some v) (hd : decode D.2.1 pc = .ok (.getfield idx, 3)) (k : T D d (pc + 3) L (v :: st) F G P) : T D d pc L (.ref 1 :: st) F G P := T_get hf (by decide) hc hv hd k
theorem T_g2 {idx f : Nat} {fs : List Value} {v : Value} (hf : FL D.1.cls idx 2 f) (hc : cellOf F G 29 = cO 2 fs) (hv : fs[f]? = some v) (hd : decode D.2.1 pc = .ok (.getfield idx, 3)) (k : T D d (pc + 3) L (v :: st) F G P) : T D d pc L (.ref 29 :: st) F G P := T_get hf (by decide) hc hv hd k
theorem T_g0 {idx f : Nat} {fs : List Value} {v : Value} (hf : FL D.1.cls idx 0 f) (hc : cellOf F G 82 = cO 0 fs) (hv : fs[f]? = some v) (hd : decode D.2.1 pc = .ok (.getfield idx, 3)) (k : T D d (pc + 3) L (v :: st) F G P) : T D d pc L (.ref 82 :: st) F G P := T_get hf (by decide) hc hv hd k
theorem T_g3 {idx f : Nat} {fs : List Value} {v : Value} (hf : FL D.1.cls idx 3 f) (hc : cellOf F G 86 = cO 3 fs) (hv : fs[f]? = some v) (hd : decode D.2.1 pc = .ok (.getfield idx, 3)) (k : T D d (pc + 3) L (v :: st) F G P) : T D d pc L (.ref 86 :: st) F G P := T_get hf (by decide) hc hv hd k
theorem T_g7 {idx f : Nat} {fs : List Value} {v : Value} (hf : FL D.1.cls idx 7 f) (hc : cellOf F G 89 = cO 7 fs) (hv : fs[f]? = some v) (hd : decode D.2.1 pc = .ok (.getfield idx, 3)) (k : T D d (pc + 3) L (v :: st) F G P) : T D d pc L (.ref 89 :: st) F G P := T_get hf (by decide) hc hv hd k
theorem T_g1 {idx f a : Nat} {fs : List Value} {v : Value} (hf : FL D.1.cls idx 1 f) (ha : isL a = true) (hc : cellOf F G a = cO 1 fs) (hv : fs[f]? = some v) (hd : decode D.2.1 pc = .ok (.getfield idx, 3)) (k : T D d (pc + 3) L (v :: st) F G P) : T D d pc L (.ref a :: st) F G P := T_get hf (by have := isL_lt a ha; omega) hc hv hd k
theorem T_g4 {idx f a : Nat} {fs : List Value} {v : Value} (hf : FL D.1.cls idx 4 f) (ha : a = 3 ∨ a = 11) (hc : cellOf F G a = cO 4 fs) (hv : fs[f]? = some v) (hd : decode D.2.1 pc = .ok (.getfield idx, 3)) (k : T D d (pc + 3) L (v :: st) F G P) : T D d pc L (.ref a :: st) F G P := T_get hf (by omega) hc hv hd k
theorem T_put6_7 {idx : Nat} {v : Int32} (hf : FP D.1.cls idx 6 7) (hd : decode D.2.1 pc = .ok (.putfield idx, 3)) (k : T D d (pc + 3) L st (u2 F 0 7 v) G P) : T D d pc L (.int v :: .ref 0 :: st) F G P := T_put hf (by decide) (cell_0 F G) rfl (by simp) hd k
theorem T_put5_1 {idx : Nat} {v : Int32} (hf : FP D.1.cls idx 5 1) (hd : decode D.2.1 pc = .ok (.putfield idx, 3)) (k : T D d (pc + 3) L st (u2 F 1 1 v) G P) : T D d pc L (.int v :: .ref 1 :: st) F G P := T_put hf (by decide) (cell_1 F G) rfl (by simp) hd k
theorem T_put5_2 {idx : Nat} {v : Int32} (hf : FP D.1.cls idx 5 2) (hd : decode D.2.1 pc = .ok (.putfield idx, 3)) (k : T D d (pc + 3) L st (u2 F 1 2 v) G P) : T D d pc L (.int v :: .ref 1 :: st) F G P := T_put hf (by decide) (cell_1 F G) rfl (by simp) hd k
theorem T_put5_3 {idx : Nat} {v : Int32} (hf : FP D.1.cls idx 5 3) (hd : decode D.2.1 pc = .ok (.putfield idx, 3)) (k : T D d (pc + 3) L st (u2 F 1 3 v) G P) : T D d pc L (.int v :: .ref 1 :: st) F G P := T_put hf (by decide) (cell_1 F G) rfl (by simp) hd k
theorem T_put5_4 {idx : Nat} {v : Int32} (hf : FP D.1.cls idx 5 4) (hd : decode D.2.1 pc = .ok (.putfield idx, 3)) (k : T D d (pc + 3) L st (u2 F 1 4 v) G P) : T D d pc L (.int v :: .ref 1 :: st) F G P := T_put hf (by decide) (cell_1 F G) rfl (by simp) hd k
theorem T_put2_1 {idx : Nat} {v : Int32} (hf : FP D.1.cls idx 2 1) (hd : decode D.2.1 pc = .ok (.putfield idx, 3)) (k : T D d (pc + 3) L st (u2 F 29 1 v) G P) : T D d pc L (.int v :: .ref 29 :: st) F G P := T_put hf (by decide) (cell_29 F G) rfl (by simp) hd k
theorem T_put2_2 {idx : Nat} {v : Int32} (hf : FP D.1.cls idx 2 2) (hd : decode D.2.1 pc = .ok (.putfield idx, 3)) (k : T D d (pc + 3) L st (u2 F 29 2 v) G P) : T D d pc L (.int v :: .ref 29 :: st) F G P := T_put hf (by decide) (cell_29 F G) rfl (by simp) hd k
theorem T_put0_4 {idx : Nat} {v : Int32} (hf : FP D.1.cls idx 0 4) (hd : decode D.2.1 pc = .ok (.putfield idx, 3)) (k : T D d (pc + 3) L st (u2 F 82 4 v) G P) : T D d pc L (.int v :: .ref 82 :: st) F G P := T_put hf (by decide) (cell_82 F G) rfl (by simp) hd k
theorem T_put0_6 {idx : Nat} {v : Int32} (hf : FP D.1.cls idx 0 6) (hd : decode D.2.1 pc = .ok (.putfield idx, 3)) (k : T D d (pc + 3) L st (u2 F 82 6 v) G P) : T D d pc L (.int v :: .ref 82 :: st) F G P := T_put hf (by decide) (cell_82 F G) rfl (by simp) hd k
theorem T_put3_4 {idx : Nat} {v : Int32} (hf : FP D.1.cls idx 3 4) (hd : decode D.2.1 pc = .ok (.putfield idx, 3)) (k : T D d (pc + 3) L st (u2 F 86 4 v) G P) : T D d pc L (.int v :: .ref 86 :: st) F G P := T_put hf (by decide) (cell_86 F G) rfl (by simp) hd k
theorem T_put7_2 {idx : Nat} {v : Int32} (hf : FP D.1.cls idx 7 2) (hd : decode D.2.1 pc = .ok (.putfield idx, 3)) (k : T D d (pc + 3) L st (u2 F 89 2 v) G P) : T D d pc L (.int v :: .ref 89 :: st) F G P := T_put hf (by decide) (cell_89 F G) rfl (by simp) hd k
theorem T_put7_5 {idx : Nat} {v : Int32} (hf : FP D.1.cls idx 7 5) (hd : decode D.2.1 pc = .ok (.putfield idx, 3)) (k : T D d (pc + 3) L st (u2 F 89 5 v) G P) : T D d pc L (.int v :: .ref 89 :: st) F G P := T_put hf (by decide) (cell_89 F G) rfl (by simp) hd k
theorem T_put7_9 {idx : Nat} {v : Int32} (hf : FP D.1.cls idx 7 9) (hd : decode D.2.1 pc = .ok (.putfield idx, 3)) (k : T D d (pc + 3) L st (u2 F 89 9 v) G P) : T D d pc L (.int v :: .ref 89 :: st) F G P := T_put hf (by decide) (cell_89 F G) rfl (by simp) hd k
theorem T_put7_10 {idx : Nat} {v : Int32} (hf : FP D.1.cls idx 7 10) (hd : decode D.2.1 pc = .ok (.putfield idx, 3)) (k : T D d (pc + 3) L st (u2 F 89 10 v) G P) : T D d pc L (.int v :: .ref 89 :: st) F G P := T_put hf (by decide) (cell_89 F G) rfl (by simp) hd k
theorem T_put7_11 {idx : Nat} {v : Int32} (hf : FP D.1.cls idx 7 11) (hd : decode D.2.1 pc = .ok (.putfield idx, 3)) (k : T D d (pc + 3) L st (u2 F 89 11 v) G P) : T D d pc L (.int v :: .ref 89 :: st) F G P := T_put hf (by decide) (cell_89 F G) rfl (by simp) hd k
theorem T_put7_12 {idx : Nat} {v : Int32} (hf : FP D.1.cls idx 7 12) (hd : decode D.2.1 pc = .ok (.putfield idx, 3)) (k : T D d (pc + 3) L st (u2 F 89 12 v) G P) : T D d pc L (.int v :: .ref 89 :: st) F G P := T_put hf (by decide) (cell_89 F G) rfl (by simp) hd k
theorem T_put7_13 {idx : Nat} {v : Int32} (hf : FP D.1.cls idx 7 13) (hd : decode D.2.1 pc = .ok (.putfield idx, 3)) (k : T D d (pc + 3) L st (u2 F 89 13 v) G P) : T D d pc L (.int v :: .ref 89 :: st) F G P := T_put hf (by decide) (cell_89 F G) rfl (by simp) hd k
theorem T_put7_14 {idx : Nat} {v : Int32} (hf : FP D.1.cls idx 7 14) (hd : decode D.2.1 pc = .ok (.putfield idx, 3)) (k : T D d (pc + 3) L st (u2 F 89 14 v) G P) : T D d pc L (.int v :: .ref 89 :: st) F G P := T_put hf (by decide) (cell_89 F G) rfl (by simp) hd k
theorem T_put7_18 {idx : Nat} {v : Int32} (hf : FP D.1.cls idx 7 18) (hd : decode D.2.1 pc = .ok (.putfield idx, 3)) (k : T D d (pc + 3) L st (u2 F 89 18 v) G P) : T D d pc L (.int v :: .ref 89 :: st) F G P := T_put hf (by decide) (cell_89 F G) rfl (by simp) hd k
theorem T_put7_21 {idx : Nat} {v : Int32} (hf : FP D.1.cls idx 7 21) (hd : decode D.2.1 pc = .ok (.putfield idx, 3)) (k : T D d (pc + 3) L st (u2 F 89 21 v) G P) : T D d pc L (.int v :: .ref 89 :: st) F G P := T_put hf (by decide) (cell_89 F G) rfl (by simp) hd k
theorem T_put7_23 {idx : Nat} {v : Int32} (hf : FP D.1.cls idx 7 23) (hd : decode D.2.1 pc = .ok (.putfield idx, 3)) (k : T D d (pc + 3) L st (u2 F 89 23 v) G P) : T D d pc L (.int v :: .ref 89 :: st) F G P := T_put hf (by decide) (cell_89 F G) rfl (by simp) hd k
theorem T_put7_29 {idx : Nat} {v : Int32} (hf : FP D.1.cls idx 7 29) (hd : decode D.2.1 pc = .ok (.putfield idx, 3)) (k : T D d (pc + 3) L st (u2 F 89 29 v) G P) : T D d pc L (.int v :: .ref 89 :: st) F G P := T_put hf (by decide) (cell_89 F G) rfl (by simp) hd k
theorem T_put1_1 {idx a : Nat} {v : Int32} (hf : FP D.1.cls idx 1 1) (ha : isL a = true) (hd : decode D.2.1 pc = .ok (.putfield idx, 3)) (k : T D d (pc + 3) L st (u2 F a 1 v) G P) : T D d pc L (.int v :: .ref a :: st) F G P := T_put hf (by have := isL_lt a ha; omega) (cell_L F G ha) ((cell_L _ G ha).trans (by simp [u2])) (by simp) hd k
theorem T_put1_2 {idx a : Nat} {v : Int32} (hf : FP D.1.cls idx 1 2) (ha : isL a = true) (hd : decode D.2.1 pc = .ok (.putfield idx, 3)) (k : T D d (pc + 3) L st (u2 F a 2 v) G P) : T D d pc L (.int v :: .ref a :: st) F G P := T_put hf (by have := isL_lt a ha; omega) (cell_L F G ha) ((cell_L _ G ha).trans (by simp [u2])) (by simp) hd k
theorem T_put1_3 {idx a : Nat} {v : Int32} (hf : FP D.1.cls idx 1 3) (ha : isL a = true) (hd : decode D.2.1 pc = .ok (.putfield idx, 3)) (k : T D d (pc + 3) L st (u2 F a 3 v) G P) : T D d pc L (.int v :: .ref a :: st) F G P := T_put hf (by have := isL_lt a ha; omega) (cell_L F G ha) ((cell_L _ G ha).trans (by simp [u2])) (by simp) hd k
theorem T_put1_4 {idx a : Nat} {v : Int32} (hf : FP D.1.cls idx 1 4) (ha : isL a = true) (hd : decode D.2.1 pc = .ok (.putfield idx, 3)) (k : T D d (pc + 3) L st (u2 F a 4 v) G P) : T D d pc L (.int v :: .ref a :: st) F G P := T_put hf (by have := isL_lt a ha; omega) (cell_L F G ha) ((cell_L _ G ha).trans (by simp [u2])) (by simp) hd k
theorem T_put4_0 {idx a : Nat} {v : Int32} (hf : FP D.1.cls idx 4 0) (ha : a = 3 ∨ a = 11) (hd : decode D.2.1 pc = .ok (.putfield idx, 3)) (k : T D d (pc + 3) L st (u2 F a 0 v) G P) : T D d pc L (.int v :: .ref a :: st) F G P := T_put hf (by omega) (cell_T F G ha) ((cell_T _ G ha).trans (by simp [u2])) (by simp) hd k
theorem T_put4_1 {idx a : Nat} {v : Int32} (hf : FP D.1.cls idx 4 1) (ha : a = 3 ∨ a = 11) (hd : decode D.2.1 pc = .ok (.putfield idx, 3)) (k : T D d (pc + 3) L st (u2 F a 1 v) G P) : T D d pc L (.int v :: .ref a :: st) F G P := T_put hf (by omega) (cell_T F G ha) ((cell_T _ G ha).trans (by simp [u2])) (by simp) hd k
theorem T_neq_t {x y : Nat} {off : Int} (tgt : Nat) (hd : decode D.2.1 pc = .ok (.if_icmp .eq off, 3)) (ht : (pc : Int) + off = (tgt : Int)) (hx : x < 2 ^ 31) (hy : y < 2 ^ 31) (h : x = y) (k : T D d tgt L st F G P) : T D d pc L (.int (nI y) :: .int (nI x) :: st) F G P := T_neq tgt hd ht hx hy (fun _ => k) (fun q => absurd h (by omega))
theorem T_neq_f {x y : Nat} {off : Int} (tgt : Nat) (hd : decode D.2.1 pc = .ok (.if_icmp .eq off, 3)) (ht : (pc : Int) + off = (tgt : Int)) (hx : x < 2 ^ 31) (hy : y < 2 ^ 31) (h : ¬ x = y) (k : T D d (pc + 3) L st F G P) : T D d pc L (.int (nI y) :: .int (nI x) :: st) F G P := T_neq tgt hd ht hx hy (fun q => absurd h (by omega)) (fun _ => k)
theorem T_nne_t {x y : Nat} {off : Int} (tgt : Nat) (hd : decode D.2.1 pc = .ok (.if_icmp .ne off, 3)) (ht : (pc : Int) + off = (tgt : Int)) (hx : x < 2 ^ 31) (hy : y < 2 ^ 31) (h : ¬ x = y) (k : T D d tgt L st F G P) : T D d pc L (.int (nI y) :: .int (nI x) :: st) F G P := T_nne tgt hd ht hx hy (fun _ => k) (fun q => absurd h (by omega))
theorem T_nne_f {x y : Nat} {off : Int} (tgt : Nat) (hd : decode D.2.1 pc = .ok (.if_icmp .ne off, 3)) (ht : (pc : Int) + off = (tgt : Int)) (hx : x < 2 ^ 31) (hy : y < 2 ^ 31) (h : x = y) (k : T D d (pc + 3) L st F G P) : T D d pc L (.int (nI y) :: .int (nI x) :: st) F G P := T_nne tgt hd ht hx hy (fun q => absurd h (by omega)) (fun _ => k)
theorem T_nlt_t {x y : Nat} {off : Int} (tgt : Nat) (hd : decode D.2.1 pc = .ok (.if_icmp .lt off, 3)) (ht : (pc : Int) + off = (tgt : Int)) (hx : x < 2 ^ 31) (hy : y < 2 ^ 31) (h : x < y) (k : T D d tgt L st F G P) : T D d pc L (.int (nI y) :: .int (nI x) :: st) F G P := T_nlt tgt hd ht hx hy (fun _ => k) (fun q => absurd h (by omega))
theorem T_nlt_f {x y : Nat} {off : Int} (tgt : Nat) (hd : decode D.2.1 pc = .ok (.if_icmp .lt off, 3)) (ht : (pc : Int) + off = (tgt : Int)) (hx : x < 2 ^ 31) (hy : y < 2 ^ 31) (h : y ≤ x) (k : T D d (pc + 3) L st F G P) : T D d pc L (.int (nI y) :: .int (nI x) :: st) F G P := T_nlt tgt hd ht hx hy (fun q => absurd h (by omega)) (fun _ => k)
theorem T_nge_t {x y : Nat} {off : Int} (tgt : Nat) (hd : decode D.2.1 pc = .ok (.if_icmp .ge off, 3)) (ht : (pc : Int) + off = (tgt : Int)) (hx : x < 2 ^ 31) (hy : y < 2 ^ 31) (h : y ≤ x) (k : T D d tgt L st F G P) : T D d pc L (.int (nI y) :: .int (nI x) :: st) F G P := T_nge tgt hd ht hx hy (fun _ => k) (fun q => absurd h (by omega))
theorem T_nge_f {x y : Nat} {off : Int} (tgt : Nat) (hd : decode D.2.1 pc = .ok (.if_icmp .ge off, 3)) (ht : (pc : Int) + off = (tgt : Int)) (hx : x < 2 ^ 31) (hy : y < 2 ^ 31) (h : x < y) (k : T D d (pc + 3) L st F G P) : T D d pc L (.int (nI y) :: .int (nI x) :: st) F G P := T_nge tgt hd ht hx hy (fun q => absurd h (by omega)) (fun _ => k)
theorem T_ngt_t {x y : Nat} {off : Int} (tgt : Nat) (hd : decode D.2.1 pc = .ok (.if_icmp .gt off, 3)) (ht : (pc : Int) + off = (tgt : Int)) (hx : x < 2 ^ 31) (hy : y < 2 ^ 31) (h : y < x) (k : T D d tgt L st F G P) : T D d pc L (.int (nI y) :: .int (nI x) :: st) F G P := T_ngt tgt hd ht hx hy (fun _ => k) (fun q => absurd h (by omega))
theorem T_ngt_f {x y : Nat} {off : Int} (tgt : Nat) (hd : decode D.2.1 pc = .ok (.if_icmp .gt off, 3)) (ht : (pc : Int) + off = (tgt : Int)) (hx : x < 2 ^ 31) (hy : y < 2 ^ 31) (h : x ≤ y) (k : T D d (pc + 3) L st F G P) : T D d pc L (.int (nI y) :: .int (nI x) :: st) F G P := T_ngt tgt hd ht hx hy (fun q => absurd h (by omega)) (fun _ => k)
theorem T_nle_t {x y : Nat} {off : Int} (tgt : Nat) (hd : decode D.2.1 pc = .ok (.if_icmp .le off, 3)) (ht : (pc : Int) + off = (tgt : Int)) (hx : x < 2 ^ 31) (hy : y < 2 ^ 31) (h : x ≤ y) (k : T D d tgt L st F G P) : T D d pc L (.int (nI y) :: .int (nI x) :: st) F G P := T_nle tgt hd ht hx hy (fun _ => k) (fun q => absurd h (by omega))
theorem T_nle_f {x y : Nat} {off : Int} (tgt : Nat) (hd : decode D.2.1 pc = .ok (.if_icmp .le off, 3)) (ht : (pc : Int) + off = (tgt : Int)) (hx : x < 2 ^ 31) (hy : y < 2 ^ 31) (h : y < x) (k : T D d (pc + 3) L st F G P) : T D d pc L (.int (nI y) :: .int (nI x) :: st) F G P := T_nle tgt hd ht hx hy (fun q => absurd h (by omega)) (fun _ => k)
end TM
/-- n steps from k on -/
def iter {σ : Type} (f : Nat → σ → σ) : Nat → Nat → σ → σ
  | 0, _, x => x
  | n + 1, k, x => iter f n (k + 1) (f k x)
theorem for_up {σ : Type} (f : Nat → σ → σ) (N : Nat) (S : Nat → σ → Prop) (hb : ∀ k x, k < N → S (k + 1) (f k x) → S k x) : ∀ n k x, k + n = N → S N (iter f n k x) → S k x := by
  intro n
  induction n with
  | zero => intro k x hk h; have e : k = N := by omega
            subst e; exact h
  | succ n ih => intro k x hk h; exact hb k x (by omega) (ih (k + 1) (f k x) (by omega) h)
theorem for_inv {σ : Type} (f : Nat → σ → σ) (N : Nat) (S I : Nat → σ → Prop) (hI : ∀ k x, k < N → I k x → I (k + 1) (f k x)) (hb : ∀ k x, k < N → I k x → S (k + 1) (f k x) → S k x) : ∀ n k x, k + n = N → I k x → (I N (iter f n k x) → S N (iter f n k x)) → S k x := by
  intro n
  induction n with
  | zero => intro k x hk hi h; have e : k = N := by omega
            subst e; exact h hi
  | succ n ih => intro k x hk hi h; exact hb k x (by omega) hi (ih (k + 1) (f k x) (by omega) (hI k x (by omega) hi) h)
theorem iter_inv {σ : Type} (f : Nat → σ → σ) (N : Nat) (I : Nat → σ → Prop) (hI : ∀ k x, k < N → I k x → I (k + 1) (f k x)) : ∀ n k x, k + n = N → I k x → I N (iter f n k x) := by
  intro n
  induction n with
  | zero => intro k x hk hi; have e : k = N := by omega
            subst e; exact hi
  | succ n ih => intro k x hk hi; exact ih (k + 1) (f k x) (by omega) (hI k x (by omega) hi)
theorem iter_congr {σ : Type} {f g : Nat → σ → σ} (N : Nat) (h : ∀ k x, k < N → f k x = g k x) : ∀ n k x, k + n = N → iter f n k x = iter g n k x := by
  intro n
  induction n with
  | zero => intro k x _; rfl
  | succ n ih => intro k x hk; rw [iter, iter, h k x (by omega)]; exact ih (k + 1) _ (by omega)
theorem iter_succ {σ : Type} (f : Nat → σ → σ) : ∀ (n k : Nat) (x : σ), iter f (n + 1) k x = f (k + n) (iter f n k x) := by
  intro n
  induction n with
  | zero => intro k x; rfl
  | succ n ih => intro k x; rw [iter, ih (k + 1) (f k x), iter, show k + 1 + n = k + (n + 1) by omega]
theorem pn_X0 : plainName "WhoseThread$Dealing" = true := by decide +kernel
theorem pn_X1 : plainName "WhoseThread$Loom" = true := by decide +kernel
theorem pn_X2 : plainName "WhoseThread$Past" = true := by decide +kernel
theorem pn_X3 : plainName "WhoseThread$Tailing" = true := by decide +kernel
theorem pn_X4 : plainName "WhoseThread$Telling" = true := by decide +kernel
theorem pn_X5 : plainName "WhoseThread$Text" = true := by decide +kernel
theorem pn_X6 : plainName "WhoseThread" = true := by decide +kernel
theorem pn_X7 : plainName "WhoseThreadModel" = true := by decide +kernel
theorem pn_J0 : plainName "java/lang/String" = true := by decide +kernel
theorem pn_J1 : plainName "java/lang/StringLatin1" = true := by decide +kernel
theorem pn_J6 : plainName "java/lang/Integer" = true := by decide +kernel
theorem pn_J3 : plainName "jdk/internal/util/Preconditions" = true := by decide +kernel
