def hasI (s p : Int32) : Bool := decide (¬ (s >>> (p &&& 31)) &&& nI 1 = 0)
def bitI (p : Int32) : Int32 := nI 1 <<< (p &&& 31)
/-- how many of eight bits, the least of them -/
def pop8 (m : Nat) : Nat := (List.range 8).countP (fun i => m.testBit i)
def tz8 (m : Nat) : Nat := (List.range 8).findIdx (fun i => m.testBit i)
theorem c_bit (d : Nat) (F : FT) (G : GT) (x : Int32) : Kp DX6_bit d [.int x] F G (some (.int (bitI x))) := by
  refine Kc.ofT [some (.int x)] pn_X6 (Nat.le_of_ble_eq_true rfl) rfl ?_
  refine T_iconst (v := nI 1) dX6_bit_0 rfl ?_
  refine T_il0 dX6_bit_1 ?_
  refine T_ishl dX6_bit_2 ?_
  refine T_iret rfl dX6_bit_3 ?_
  exact ⟨rfl, rfl, rfl⟩
theorem c_has (d : Nat) (F : FT) (G : GT) (x y : Int32) : Kp DX6_has d [.int x, .int y] F G (some (.int (bI (hasI x y)))) := by
  refine Kc.ofT [some (.int x), some (.int y)] pn_X6 (Nat.le_of_ble_eq_true rfl) rfl ?_
  refine T_il0 dX6_has_0 ?_
  refine T_il1 dX6_has_1 ?_
  refine T_ishr dX6_has_2 ?_
  refine T_iconst (v := nI 1) dX6_has_3 rfl ?_
  refine T_iand dX6_has_4 ?_
  refine T_if_eq 12 dX6_has_5 (by decide) (fun h => ?_) (fun h => ?_)
  · refine T_iconst (v := nI 0) dX6_has_12 rfl ?_
    refine T_bret0 rfl dX6_has_13 ?_
    exact ⟨by rw [show hasI x y = false by simp [hasI, h]], rfl, rfl⟩
  · refine T_iconst (v := nI 1) dX6_has_8 rfl ?_
    refine T_goto 13 dX6_has_9 (by decide) ?_
    refine T_bret1 rfl dX6_has_13 ?_
    exact ⟨by rw [show hasI x y = true by simp [hasI, h]], rfl, rfl⟩
def spI (l : List Int32) (wi set : Int32) : Nat → Int32 → Int32 := fun k x => if hasI set (nI k) = true then x ||| (l.getD k 0 &&& wi) else x
def spO (l : List Int32) (wi : Int32) : Nat → Int32 → Int32
  | 0, s => s
  | n + 1, s => if iter (spI l wi s) 8 0 s = s then s else spO l wi n (iter (spI l wi s) 8 0 s)
theorem c_spread (d : Nat) (hd : 1 ≤ d) (F : FT) (G : GT) (a : Nat) (ha : isI a = true) (hg : gLen a = 8) (f wi : Int32) : Kp DX6_spread d [.ref a, .int f, .int wi] F G (some (.int (spO (G a) wi 8 f))) := by
  refine Kc.ofT [some (.ref a), some (.int f), some (.int wi), none, none, none, none] pn_X6 (Nat.le_of_ble_eq_true rfl) rfl ?_
  refine T_il1 dX6_spread_0 ?_
  refine T_is3 dX6_spread_1 rfl ?_
  refine T_iconst (v := nI 0) dX6_spread_2 rfl ?_
  refine T_is4 dX6_spread_3 rfl ?_
  suffices h : ∀ (n r : Nat) (s : Int32) (o5 o6 : Option Value), r + n = 8 → T DX6_spread d 5 [some (.ref a), some (.int f), some (.int wi), some (.int s), some (.int (nI r)), o5, o6] [] F G (fun v F' G' => v = some (.int (spO (G a) wi n s)) ∧ F' = F ∧ G' = G) from h 8 0 f none none rfl
  intro n
  induction n with
  | zero =>
    intro r s o5 o6 hr
    refine T_il4 dX6_spread_5 ?_
    refine T_bipush (v := nI 8) dX6_spread_7 (by decide +kernel) ?_
    refine T_nge_t 68 dX6_spread_9 (by decide) (by omega) (by omega) (by omega) ?_
    refine T_il3 dX6_spread_68 ?_
    refine T_iret rfl dX6_spread_69 ?_
    exact ⟨rfl, rfl, rfl⟩
  | succ n ih =>
    intro r s o5 o6 hr
    refine T_il4 dX6_spread_5 ?_
    refine T_bipush (v := nI 8) dX6_spread_7 (by decide +kernel) ?_
    refine T_nge_f 68 dX6_spread_9 (by decide) (by omega) (by omega) (by omega) ?_
    refine T_il3 dX6_spread_12 ?_
    refine T_is5 dX6_spread_13 rfl ?_
    refine T_iconst (v := nI 0) dX6_spread_15 rfl ?_
    refine T_is6 dX6_spread_16 rfl ?_
    refine for_up (spI (G a) wi s) 8 (fun k x => T DX6_spread d 18 [some (.ref a), some (.int f), some (.int wi), some (.int s), some (.int (nI r)), some (.int x), some (.int (nI k))] [] F G _) ?_ 8 0 _ rfl ?_
    · intro k x hk h
      refine T_il6 dX6_spread_18 ?_
      refine T_bipush (v := nI 8) dX6_spread_20 (by decide +kernel) ?_
      refine T_nge_f 51 dX6_spread_22 (by decide) (by omega) (by omega) (by omega) ?_
      refine T_il3 dX6_spread_25 ?_
      refine T_il6 dX6_spread_26 ?_
      refine T_pS2 lX6_163 (c_has _ _ _ _ _) (by omega) (Nat.le_of_ble_eq_true rfl) dX6_spread_28 ?_
      refine T_beq 45 dX6_spread_31 (by decide) (fun hb => ?_) (fun hb => ?_)
      · rw [spI, if_neg (by rw [hb]; decide)] at h
        refine T_ii6 dX6_spread_45 (by first | exact nI_inc _ | exact nI_dec _ | rfl) rfl ?_
        refine T_goto 18 dX6_spread_48 (by decide) ?_
        exact h
      · rw [spI, if_pos hb] at h
        refine T_il5 dX6_spread_34 ?_
        refine T_al0 dX6_spread_36 ?_
        refine T_il6 dX6_spread_37 ?_
        refine T_aldN (by assumption) (by rw [hg]; exact hk) dX6_spread_39 ?_
        refine T_il2 dX6_spread_40 ?_
        refine T_iand dX6_spread_41 ?_
        refine T_ior dX6_spread_42 ?_
        refine T_is5 dX6_spread_43 rfl ?_
        refine T_ii6 dX6_spread_45 (by first | exact nI_inc _ | exact nI_dec _ | rfl) rfl ?_
        refine T_goto 18 dX6_spread_48 (by decide) ?_
        exact h
    · refine T_il6 dX6_spread_18 ?_
      refine T_bipush (v := nI 8) dX6_spread_20 (by decide +kernel) ?_
      refine T_nge_t 51 dX6_spread_22 (by decide) (by omega) (by omega) (by omega) ?_
      refine T_il5 dX6_spread_51 ?_
      refine T_il3 dX6_spread_53 ?_
      refine T_icmp_ne 59 dX6_spread_54 (by decide) (fun hc => ?_) (fun hc => ?_)
      · rw [spO, if_neg hc]
        refine T_il5 dX6_spread_59 ?_
        refine T_is3 dX6_spread_61 rfl ?_
        refine T_ii4 dX6_spread_62 (by first | exact nI_inc _ | exact nI_dec _ | rfl) rfl ?_
        refine T_goto 5 dX6_spread_65 (by decide) ?_
        exact ih (r + 1) _ _ _ (by omega)
      · rw [spO, if_pos hc]
        refine T_il3 dX6_spread_57 ?_
        refine T_iret rfl dX6_spread_58 ?_
        exact ⟨rfl, rfl, rfl⟩
theorem c_makesRing (d : Nat) (hd : 2 ≤ d) (F : FT) (G : GT) (a : Nat) (ha : isI a = true) (hg : gLen a = 8) (x y : Int32) : Kp DX6_makesRing d [.ref a, .int x, .int y] F G (some (.int (bI (hasI (spO (G a) (-1) 8 (bitI x)) y)))) := by
  refine Kc.ofT [some (.ref a), some (.int x), some (.int y)] pn_X6 (Nat.le_of_ble_eq_true rfl) rfl ?_
  refine T_al0 dX6_makesRing_0 ?_
  refine T_il1 dX6_makesRing_1 ?_
  refine T_pS1 lX6_170 (c_bit _ _ _ _) (by omega) (Nat.le_of_ble_eq_true rfl) dX6_makesRing_2 ?_
  refine T_iconst (v := -1) dX6_makesRing_5 rfl ?_
  refine T_pS3 lX6_236 (c_spread _ (by omega) _ _ _ (by assumption) (by assumption) _ _) (by omega) (Nat.le_of_ble_eq_true rfl) dX6_makesRing_6 ?_
  refine T_il2 dX6_makesRing_9 ?_
  refine T_pS2 lX6_163 (c_has _ _ _ _ _) (by omega) (Nat.le_of_ble_eq_true rfl) dX6_makesRing_10 ?_
  refine T_bret rfl dX6_makesRing_13 ?_
  exact ⟨rfl, rfl, rfl⟩
theorem nI_bc : ∀ m, m < 256 → ((((fun (x : Int32) => (x + (x.toUInt32 >>> ((nI 16).toUInt32 &&& Int32.toUInt32 31)).toInt32) &&& nI 63) ((fun (x : Int32) => x + (x.toUInt32 >>> ((nI 8).toUInt32 &&& Int32.toUInt32 31)).toInt32) ((fun (x : Int32) => (x + (x.toUInt32 >>> ((nI 4).toUInt32 &&& Int32.toUInt32 31)).toInt32) &&& 252645135) ((fun (x : Int32) => (x &&& 858993459) + ((x.toUInt32 >>> ((nI 2).toUInt32 &&& Int32.toUInt32 31)).toInt32 &&& 858993459)) ((fun (x : Int32) => x - ((x.toUInt32 >>> ((nI 1).toUInt32 &&& Int32.toUInt32 31)).toInt32 &&& 1431655765)) (nI m))))))) = nI (pop8 m)) := by decide +kernel
theorem c_bitCount (d : Nat) (F : FT) (G : GT) (m : Nat) (hm : m < 256) : Kp DJ6_bitCount_0f7a4 d [.int (nI m)] F G (some (.int (nI (pop8 m)))) := by
  refine Kc.ofT [some (.int (nI m))] pn_J6 (Nat.le_of_ble_eq_true rfl) rfl ?_
  refine T_il0 dJ6_bitCount_0f7a4_0 ?_
  refine T_il0 dJ6_bitCount_0f7a4_1 ?_
  refine T_iconst (v := nI 1) dJ6_bitCount_0f7a4_2 rfl ?_
  refine T_iushr dJ6_bitCount_0f7a4_3 ?_
  refine T_ldcw kJ6_265 dJ6_bitCount_0f7a4_4 ?_
  refine T_iand dJ6_bitCount_0f7a4_7 ?_
  refine T_isub dJ6_bitCount_0f7a4_8 ?_
  refine T_is0 dJ6_bitCount_0f7a4_9 ?_
  refine T_il0 dJ6_bitCount_0f7a4_10 ?_
  refine T_ldcw kJ6_266 dJ6_bitCount_0f7a4_11 ?_
  refine T_iand dJ6_bitCount_0f7a4_14 ?_
  refine T_il0 dJ6_bitCount_0f7a4_15 ?_
  refine T_iconst (v := nI 2) dJ6_bitCount_0f7a4_16 rfl ?_
  refine T_iushr dJ6_bitCount_0f7a4_17 ?_
  refine T_ldcw kJ6_266 dJ6_bitCount_0f7a4_18 ?_
  refine T_iand dJ6_bitCount_0f7a4_21 ?_
  first | refine T_iaddN dJ6_bitCount_0f7a4_22 ?_ | refine T_iadd dJ6_bitCount_0f7a4_22 ?_
  refine T_is0 dJ6_bitCount_0f7a4_23 ?_
  refine T_il0 dJ6_bitCount_0f7a4_24 ?_
  refine T_il0 dJ6_bitCount_0f7a4_25 ?_
  refine T_iconst (v := nI 4) dJ6_bitCount_0f7a4_26 rfl ?_
  refine T_iushr dJ6_bitCount_0f7a4_27 ?_
  first | refine T_iaddN dJ6_bitCount_0f7a4_28 ?_ | refine T_iadd dJ6_bitCount_0f7a4_28 ?_
  refine T_ldcw kJ6_267 dJ6_bitCount_0f7a4_29 ?_
  refine T_iand dJ6_bitCount_0f7a4_32 ?_
  refine T_is0 dJ6_bitCount_0f7a4_33 ?_
  refine T_il0 dJ6_bitCount_0f7a4_34 ?_
  refine T_il0 dJ6_bitCount_0f7a4_35 ?_
  refine T_bipush (v := nI 8) dJ6_bitCount_0f7a4_36 (by decide +kernel) ?_
  refine T_iushr dJ6_bitCount_0f7a4_38 ?_
  first | refine T_iaddN dJ6_bitCount_0f7a4_39 ?_ | refine T_iadd dJ6_bitCount_0f7a4_39 ?_
  refine T_is0 dJ6_bitCount_0f7a4_40 ?_
  refine T_il0 dJ6_bitCount_0f7a4_41 ?_
  refine T_il0 dJ6_bitCount_0f7a4_42 ?_
  refine T_bipush (v := nI 16) dJ6_bitCount_0f7a4_43 (by decide +kernel) ?_
  refine T_iushr dJ6_bitCount_0f7a4_45 ?_
  first | refine T_iaddN dJ6_bitCount_0f7a4_46 ?_ | refine T_iadd dJ6_bitCount_0f7a4_46 ?_
  refine T_is0 dJ6_bitCount_0f7a4_47 ?_
  refine T_il0 dJ6_bitCount_0f7a4_48 ?_
  refine T_bipush (v := nI 63) dJ6_bitCount_0f7a4_49 (by decide +kernel) ?_
  refine T_iand dJ6_bitCount_0f7a4_51 ?_
  refine T_iret rfl dJ6_bitCount_0f7a4_52 ?_
  exact ⟨congrArg (fun z => some (Value.int z)) (nI_bc m hm), rfl, rfl⟩
def ntA (m : Nat) : Int32 := (nI m ^^^ (-1)) &&& (nI m - nI 1)
def ntS (x : Int32) (k : Nat) : Int32 := (x.toUInt32 >>> ((nI k).toUInt32 &&& Int32.toUInt32 31)).toInt32
theorem nt1 : ∀ m, m < 256 → 0 < m → ¬ 0 < ntA m → ntA m &&& nI 32 = nI (tz8 m) := by decide +kernel
theorem nt2 : ∀ m, m < 256 → ntA m ≤ 65536 ∧ ntA m ≤ nI 256 := by decide +kernel
theorem nt4 : ∀ m, m < 256 → ntA m ≤ nI 16 → ntA m ≤ nI 4 → 0 < ntA m → nI 1 + ntS (ntA m) 1 = nI (tz8 m) := by decide +kernel
theorem nt5 : ∀ m, m < 256 → ntA m ≤ nI 16 → ¬ ntA m ≤ nI 4 → nI 1 + Int32.ofInt 2 + ntS (ntS (ntA m) 2) 1 = nI (tz8 m) := by decide +kernel
theorem nt6 : ∀ m, m < 256 → ¬ ntA m ≤ nI 16 → ntS (ntA m) 4 ≤ nI 4 → nI 1 + Int32.ofInt 4 + ntS (ntS (ntA m) 4) 1 = nI (tz8 m) := by decide +kernel
theorem nt7 : ∀ m, m < 256 → ¬ ntA m ≤ nI 16 → ¬ ntS (ntA m) 4 ≤ nI 4 → nI 1 + Int32.ofInt 4 + Int32.ofInt 2 + ntS (ntS (ntS (ntA m) 4) 2) 1 = nI (tz8 m) := by decide +kernel
theorem c_nTZ (d : Nat) (F : FT) (G : GT) (m : Nat) (hm : m < 256) (h0 : 0 < m) : Kp DJ6_numberOfTrailingZeros_0f7a4 d [.int (nI m)] F G (some (.int (nI (tz8 m)))) := by
  obtain ⟨q2, q3⟩ := nt2 m hm
  have q1 := nt1 m hm h0
  have q4 := nt4 m hm
  have q5 := nt5 m hm
  have q6 := nt6 m hm
  have q7 := nt7 m hm
  refine Kc.ofT [some (.int (nI m)), none] pn_J6 (Nat.le_of_ble_eq_true rfl) rfl ?_
  refine T_il0 dJ6_numberOfTrailingZeros_0f7a4_0 ?_
  refine T_iconst (v := -1) dJ6_numberOfTrailingZeros_0f7a4_1 rfl ?_
  refine T_ixor dJ6_numberOfTrailingZeros_0f7a4_2 ?_
  refine T_il0 dJ6_numberOfTrailingZeros_0f7a4_3 ?_
  refine T_iconst (v := nI 1) dJ6_numberOfTrailingZeros_0f7a4_4 rfl ?_
  refine T_isub dJ6_numberOfTrailingZeros_0f7a4_5 ?_
  refine T_iand dJ6_numberOfTrailingZeros_0f7a4_6 ?_
  refine T_is0 dJ6_numberOfTrailingZeros_0f7a4_7 ?_
  refine T_L (L' := [some (.int (ntA m)), none]) rfl ?_
  refine T_il0 dJ6_numberOfTrailingZeros_0f7a4_8 ?_
  refine T_if_gt 17 dJ6_numberOfTrailingZeros_0f7a4_9 (by decide) (fun h1 => ?_) (fun h1 => ?_)
  · refine T_iconst (v := nI 1) dJ6_numberOfTrailingZeros_0f7a4_17 rfl ?_
    refine T_is1 dJ6_numberOfTrailingZeros_0f7a4_18 rfl ?_
    refine T_il0 dJ6_numberOfTrailingZeros_0f7a4_19 ?_
    refine T_ldcw kJ6_264 dJ6_numberOfTrailingZeros_0f7a4_20 ?_
    refine T_icmp_le_t 34 dJ6_numberOfTrailingZeros_0f7a4_23 (by decide) q2 ?_
    refine T_il0 dJ6_numberOfTrailingZeros_0f7a4_34 ?_
    refine T_sipush (v := nI 256) dJ6_numberOfTrailingZeros_0f7a4_35 (by decide +kernel) ?_
    refine T_icmp_le_t 49 dJ6_numberOfTrailingZeros_0f7a4_38 (by decide) q3 ?_
    refine T_il0 dJ6_numberOfTrailingZeros_0f7a4_49 ?_
    refine T_bipush (v := nI 16) dJ6_numberOfTrailingZeros_0f7a4_50 (by decide +kernel) ?_
    refine T_icmp_le 62 dJ6_numberOfTrailingZeros_0f7a4_52 (by decide) (fun h2 => ?_) (fun h2 => ?_)
    · refine T_il0 dJ6_numberOfTrailingZeros_0f7a4_62 ?_
      refine T_iconst (v := nI 4) dJ6_numberOfTrailingZeros_0f7a4_63 rfl ?_
      refine T_icmp_le 74 dJ6_numberOfTrailingZeros_0f7a4_64 (by decide) (fun h3 => ?_) (fun h3 => ?_)
      · refine T_il1 dJ6_numberOfTrailingZeros_0f7a4_74 ?_
        refine T_il0 dJ6_numberOfTrailingZeros_0f7a4_75 ?_
        refine T_iconst (v := nI 1) dJ6_numberOfTrailingZeros_0f7a4_76 rfl ?_
        refine T_iushr dJ6_numberOfTrailingZeros_0f7a4_77 ?_
        refine T_iadd dJ6_numberOfTrailingZeros_0f7a4_78 ?_
        refine T_iret rfl dJ6_numberOfTrailingZeros_0f7a4_79 ?_
        exact ⟨congrArg (fun z => some (Value.int z)) (q4 h2 h3 h1), rfl, rfl⟩
      · refine T_ii1 dJ6_numberOfTrailingZeros_0f7a4_67 rfl rfl ?_
        refine T_il0 dJ6_numberOfTrailingZeros_0f7a4_70 ?_
        refine T_iconst (v := nI 2) dJ6_numberOfTrailingZeros_0f7a4_71 rfl ?_
        refine T_iushr dJ6_numberOfTrailingZeros_0f7a4_72 ?_
        refine T_is0 dJ6_numberOfTrailingZeros_0f7a4_73 ?_
        refine T_il1 dJ6_numberOfTrailingZeros_0f7a4_74 ?_
        refine T_il0 dJ6_numberOfTrailingZeros_0f7a4_75 ?_
        refine T_iconst (v := nI 1) dJ6_numberOfTrailingZeros_0f7a4_76 rfl ?_
        refine T_iushr dJ6_numberOfTrailingZeros_0f7a4_77 ?_
        refine T_iadd dJ6_numberOfTrailingZeros_0f7a4_78 ?_
        refine T_iret rfl dJ6_numberOfTrailingZeros_0f7a4_79 ?_
        exact ⟨congrArg (fun z => some (Value.int z)) (q5 h2 h3), rfl, rfl⟩
    · refine T_ii1 dJ6_numberOfTrailingZeros_0f7a4_55 rfl rfl ?_
      refine T_il0 dJ6_numberOfTrailingZeros_0f7a4_58 ?_
      refine T_iconst (v := nI 4) dJ6_numberOfTrailingZeros_0f7a4_59 rfl ?_
      refine T_iushr dJ6_numberOfTrailingZeros_0f7a4_60 ?_
      refine T_is0 dJ6_numberOfTrailingZeros_0f7a4_61 ?_
      refine T_L (L' := [some (.int (ntS (ntA m) 4)), some (.int (nI 1 + Int32.ofInt 4))]) rfl ?_
      refine T_il0 dJ6_numberOfTrailingZeros_0f7a4_62 ?_
      refine T_iconst (v := nI 4) dJ6_numberOfTrailingZeros_0f7a4_63 rfl ?_
      refine T_icmp_le 74 dJ6_numberOfTrailingZeros_0f7a4_64 (by decide) (fun h3 => ?_) (fun h3 => ?_)
      · refine T_il1 dJ6_numberOfTrailingZeros_0f7a4_74 ?_
        refine T_il0 dJ6_numberOfTrailingZeros_0f7a4_75 ?_
        refine T_iconst (v := nI 1) dJ6_numberOfTrailingZeros_0f7a4_76 rfl ?_
        refine T_iushr dJ6_numberOfTrailingZeros_0f7a4_77 ?_
        refine T_iadd dJ6_numberOfTrailingZeros_0f7a4_78 ?_
        refine T_iret rfl dJ6_numberOfTrailingZeros_0f7a4_79 ?_
        exact ⟨congrArg (fun z => some (Value.int z)) (q6 h2 h3), rfl, rfl⟩
      · refine T_ii1 dJ6_numberOfTrailingZeros_0f7a4_67 rfl rfl ?_
        refine T_il0 dJ6_numberOfTrailingZeros_0f7a4_70 ?_
        refine T_iconst (v := nI 2) dJ6_numberOfTrailingZeros_0f7a4_71 rfl ?_
        refine T_iushr dJ6_numberOfTrailingZeros_0f7a4_72 ?_
        refine T_is0 dJ6_numberOfTrailingZeros_0f7a4_73 ?_
        refine T_il1 dJ6_numberOfTrailingZeros_0f7a4_74 ?_
        refine T_il0 dJ6_numberOfTrailingZeros_0f7a4_75 ?_
        refine T_iconst (v := nI 1) dJ6_numberOfTrailingZeros_0f7a4_76 rfl ?_
        refine T_iushr dJ6_numberOfTrailingZeros_0f7a4_77 ?_
        refine T_iadd dJ6_numberOfTrailingZeros_0f7a4_78 ?_
        refine T_iret rfl dJ6_numberOfTrailingZeros_0f7a4_79 ?_
        exact ⟨congrArg (fun z => some (Value.int z)) (q7 h2 h3), rfl, rfl⟩
  · refine T_il0 dJ6_numberOfTrailingZeros_0f7a4_12 ?_
    refine T_bipush (v := nI 32) dJ6_numberOfTrailingZeros_0f7a4_13 (by decide +kernel) ?_
    refine T_iand dJ6_numberOfTrailingZeros_0f7a4_15 ?_
    refine T_iret rfl dJ6_numberOfTrailingZeros_0f7a4_16 ?_
    exact ⟨congrArg (fun z => some (Value.int z)) (q1 h1), rfl, rfl⟩
