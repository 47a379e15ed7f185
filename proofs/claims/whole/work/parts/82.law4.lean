theorem and_31 (x : Int32) : ∃ k, k < 32 ∧ x &&& nI 31 = nI k := by
  refine ⟨(x &&& nI 31).toBitVec.toNat, ?_, ?_⟩
  · have : (x &&& nI 31).toBitVec = x.toBitVec &&& 31#32 := rfl
    rw [this, BitVec.toNat_and]
    exact Nat.lt_of_le_of_lt Nat.and_le_right (by decide)
  · apply Int32.toBitVec_inj.mp
    show _ = BitVec.ofNat 32 _
    rw [BitVec.ofNat_toNat, BitVec.setWidth_eq]
theorem len_4 {N i : Nat} (hN : N ≤ 256) (hi : i ≤ 300) (h : ¬ nI N - nI 4 < nI i) : i + 4 ≤ N := by
  rw [Int32.lt_iff_toInt_lt, pk_sub_toInt (by omega) (by decide)] at h
  have e : (nI i).toInt = (i : Int) := by
    have := pk_sub_toInt (a := i) (b := 0) (by omega) (by decide)
    rw [pk_sub (Nat.zero_le _)] at this
    simpa using this
  rw [e] at h
  omega
section LO
variable {nm : String} {N : Nat} {xs : Nat → Int32}
theorem law_body {i : Nat} {M : MM} {a : AS} {F : FT} {G : GT} (hi : i + 4 ≤ N) (hN : N ≤ 256) (K : KK nm N xs i) (hI : InvA a) (hX : XR a F G) (hM : MR a F G) (hm : Mem M F G) {k : Nat} (hk : k < 32) : VB nm N xs i 32 [.int (nI k)] M := by
  match k, hk with
  | 0, _ => exact VL_tableIn 164 dL_law_32 (by decide +kernel) (by decide +kernel) (off := 132) (by decide +kernel) (by decide) (lc_0 hi hN K hI hX hM hm)
  | 1, _ => exact VL_tableIn 187 dL_law_32 (by decide +kernel) (by decide +kernel) (off := 155) (by decide +kernel) (by decide) (lc_1 hi hN K hI hX hM hm)
  | 2, _ => exact VL_tableIn 200 dL_law_32 (by decide +kernel) (by decide +kernel) (off := 168) (by decide +kernel) (by decide) (lc_2 hi hN K hI hX hM hm)
  | 3, _ => exact VL_tableIn 213 dL_law_32 (by decide +kernel) (by decide +kernel) (off := 181) (by decide +kernel) (by decide) (lc_3 hi hN K hI hX hM hm)
  | 4, _ => exact VL_tableIn 226 dL_law_32 (by decide +kernel) (by decide +kernel) (off := 194) (by decide +kernel) (by decide) (lc_4 hi hN K hI hX hM hm)
  | 5, _ => exact VL_tableIn 259 dL_law_32 (by decide +kernel) (by decide +kernel) (off := 227) (by decide +kernel) (by decide) (lc_5 hi hN K hI hX hM hm)
  | 6, _ => exact VL_tableIn 292 dL_law_32 (by decide +kernel) (by decide +kernel) (off := 260) (by decide +kernel) (by decide) (lc_6 hi hN K hI hX hM hm)
  | 7, _ => exact VL_tableIn 325 dL_law_32 (by decide +kernel) (by decide +kernel) (off := 293) (by decide +kernel) (by decide) (lc_7 hi hN K hI hX hM hm)
  | 8, _ => exact VL_tableIn 348 dL_law_32 (by decide +kernel) (by decide +kernel) (off := 316) (by decide +kernel) (by decide) (lc_8 hi hN K hI hX hM hm)
  | 9, _ => exact VL_tableIn 371 dL_law_32 (by decide +kernel) (by decide +kernel) (off := 339) (by decide +kernel) (by decide) (lc_9 hi hN K hI hX hM hm)
  | 10, _ => exact VL_tableIn 404 dL_law_32 (by decide +kernel) (by decide +kernel) (off := 372) (by decide +kernel) (by decide) (lc_10 hi hN K hI hX hM hm)
  | 11, _ => exact VL_tableIn 427 dL_law_32 (by decide +kernel) (by decide +kernel) (off := 395) (by decide +kernel) (by decide) (lc_11 hi hN K hI hX hM hm)
  | 12, _ => exact VL_tableIn 470 dL_law_32 (by decide +kernel) (by decide +kernel) (off := 438) (by decide +kernel) (by decide) (lc_12 hi hN K hI hX hM hm)
  | 13, _ => exact VL_tableIn 503 dL_law_32 (by decide +kernel) (by decide +kernel) (off := 471) (by decide +kernel) (by decide) (lc_13 hi hN K hI hX hM hm)
  | 14, _ => exact VL_tableIn 526 dL_law_32 (by decide +kernel) (by decide +kernel) (off := 494) (by decide +kernel) (by decide) (lc_14 hi hN K hI hX hM hm)
  | 15, _ => exact VL_tableIn 539 dL_law_32 (by decide +kernel) (by decide +kernel) (off := 507) (by decide +kernel) (by decide) (lc_15 hi hN K hI hX hM hm)
  | 16, _ => exact VL_tableIn 562 dL_law_32 (by decide +kernel) (by decide +kernel) (off := 530) (by decide +kernel) (by decide) (lc_16 hi hN K hI hX hM hm)
  | 17, _ => exact VL_tableIn 585 dL_law_32 (by decide +kernel) (by decide +kernel) (off := 553) (by decide +kernel) (by decide) (lc_17 hi hN K hI hX hM hm)
  | 18, _ => exact VL_tableIn 608 dL_law_32 (by decide +kernel) (by decide +kernel) (off := 576) (by decide +kernel) (by decide) (lc_18 hi hN K hI hX hM hm)
  | 19, _ => exact VL_tableIn 631 dL_law_32 (by decide +kernel) (by decide +kernel) (off := 599) (by decide +kernel) (by decide) (lc_19 hi hN K hI hX hM hm)
  | 20, _ => exact VL_tableIn 664 dL_law_32 (by decide +kernel) (by decide +kernel) (off := 632) (by decide +kernel) (by decide) (lc_20 hi hN K hI hX hM hm)
  | 21, _ => exact VL_tableIn 687 dL_law_32 (by decide +kernel) (by decide +kernel) (off := 655) (by decide +kernel) (by decide) (lc_21 hi hN K hI hX hM hm)
  | 22, _ => exact VL_tableIn 710 dL_law_32 (by decide +kernel) (by decide +kernel) (off := 678) (by decide +kernel) (by decide) (lc_22 hi hN K hI hX hM hm)
  | 23, _ => exact VL_tableIn 733 dL_law_32 (by decide +kernel) (by decide +kernel) (off := 701) (by decide +kernel) (by decide) (lc_23 hi hN K hI hX hM hm)
  | 24, _ => exact VL_tableIn 776 dL_law_32 (by decide +kernel) (by decide +kernel) (off := 744) (by decide +kernel) (by decide) (lc_24 hi hN K hI hX hM hm)
  | 25, _ => exact VL_tableIn 809 dL_law_32 (by decide +kernel) (by decide +kernel) (off := 777) (by decide +kernel) (by decide) (lc_25 hi hN K hI hX hM hm)
  | 26, _ => exact VL_tableIn 832 dL_law_32 (by decide +kernel) (by decide +kernel) (off := 800) (by decide +kernel) (by decide) (lc_26 hi hN K hI hX hM hm)
  | 27, _ => exact VL_tableIn 855 dL_law_32 (by decide +kernel) (by decide +kernel) (off := 823) (by decide +kernel) (by decide) (lc_27 hi hN K hI hX hM hm)
  | 28, _ => exact VL_tableIn 878 dL_law_32 (by decide +kernel) (by decide +kernel) (off := 846) (by decide +kernel) (by decide) (lc_28 hi hN K hI hX hM hm)
  | 29, _ => exact VL_tableOut 901 dL_law_32 (by decide +kernel) (by decide) (K a F G M hI hX hM hm)
  | 30, _ => exact VL_tableOut 901 dL_law_32 (by decide +kernel) (by decide) (K a F G M hI hX hM hm)
  | 31, _ => exact VL_tableOut 901 dL_law_32 (by decide +kernel) (by decide) (K a F G M hI hX hM hm)
  | k + 32, hk => exact absurd hk (by omega)
theorem law_loop (hN : N ≤ 256) : ∀ (f i : Nat) (a : AS) (F : FT) (G : GT) (M : MM), N ≤ i + f → i ≤ 300 → InvA a → XR a F G → MR a F G → Mem M F G → VB nm N xs i 18 [] M := by
  intro f
  induction f using Nat.strongRecOn with
  | _ f ih =>
    intro i a F G M hf hi hI hX hM hm
    refine VL_iload_n dL_law_18 rfl ?_
    refine VL_aload_n dL_law_19 rfl ?_
    refine VL_slen dL_law_20 ?_
    refine VL_iconst (v := nI 4) dL_law_21 rfl ?_
    refine VL_isub dL_law_22 ?_
    refine VL_icmp_gt 907 dL_law_23 (by decide) (fun _ => ?_) (fun h => ?_)
    · refine VL_iconst (v := 1) dL_law_907 rfl ?_
      exact VL_end (by decide) (by decide) dL_law_908
    · have h4 : i + 4 ≤ N := len_4 hN hi h
      have K : KK nm N xs i := fun a' F' G' M' hI' hX' hM' hm' => by
        refine VL_iinc (v := nI (i + 4)) dL_law_901 rfl (nI_add i 4) rfl ?_
        refine VL_goto 18 dL_law_904 (by decide) ?_
        exact ih (f - 4) (by omega) (i + 4) a' F' G' M' (by omega) (by omega) hI' hX' hM' hm'
      refine VL_aload_n dL_law_26 rfl ?_
      refine VL_iload_n dL_law_27 rfl ?_
      refine VL_sld (by omega) hN dL_law_28 ?_
      refine VL_bipush (v := nI 31) dL_law_29 rfl ?_
      refine VL_iand dL_law_31 ?_
      obtain ⟨k, hk, e⟩ := and_31 (xs i)
      rw [e]
      exact law_body h4 hN K hI hX hM hm hk
end LO
theorem cO_len {fs : List Value} : ([cO 6 fs] : MM).length = 1 := rfl
theorem i_mod89 : Con DX7_init 1 21 3100 [.ref 89] (memX ++ [cO 7 [.null, .null, .int 0, .null, .null, .int 0, .null, .null, .null, .int 0, .int 0, .int 0, .int 0, .int 0, .int 0, .null, .null, .null, .int 0, .null, .null, .int 0, .null, .int 0, .null, .null, .null, .null, .null, .int 0, .null, .null, .null]]) (fun v M' => v = none ∧ M' = mem0) := i_mod (M0 := memX) (n := 89) rfl (by decide)
theorem law_all {nm : String} {N : Nat} {xs : Nat → Int32} (hN : N ≤ 256) : VL nm N xs 0 0 0 [some (.ref 1300), none, none, none] [] [] := by
  refine VL_new 1 10 nL_7 rfl rfl (by decide) rfl rfl (by decide) (by decide) dL_law_0 ?_
  refine VL_dup dL_law_3 rfl ?_
  refine VL_callI (av := []) (rest := [.ref 0]) 89 848 lL_9 i_cls rfl (by decide) rfl rfl ⟨by decide, by decide⟩ (by decide) dL_law_4 rfl rfl rfl ?_
  refine VL_astore_n dL_law_7 (by decide) rfl ?_
  refine VL_new 90 881 nL_10 rfl rfl (by decide) rfl rfl (by decide) (by decide) dL_law_8 ?_
  refine VL_dup dL_law_11 rfl ?_
  refine VL_callI (av := []) (rest := [.ref 89]) 111 3981 lL_12 i_mod89 rfl (by decide) rfl rfl ⟨by decide, by decide⟩ (by decide) dL_law_12 rfl rfl rfl ?_
  refine VL_astore_n dL_law_15 (by decide) rfl ?_
  refine VL_iconst (v := nI 0) dL_law_16 rfl ?_
  refine VL_istore_n dL_law_17 (by decide) rfl ?_
  exact law_loop hN N 0 a00 F00 G00 mem0 (by omega) (by decide) inv_00 xr_0 mr_0 mem0_M
