/-- the reference's spreading -/
def mcS (kn : List Int32) (w : Int32) : Nat → Int32 → Int32 := fun q s => if hasI s (nI q) = true then s ||| (kn.getD q 0 &&& w) else s
def mcl (n : Nat) (kn : List Int32) (w : Int32) (s : Int32) : Int32 := iter (fun _ s => iter (mcS kn w) n 0 s) 8 0 s
def mFall (n : Nat) (kd : List Int32) (x : LoS) (t : Nat) : Int32 := if hasI (lWhole x) (nI t) = true then (if endB kd (topN (lOv x) (lWhole x) 8 t) = true then nI 0 else mcl n (lKn x) (lWhole x) (bitI (nI (topN (lOv x) (lWhole x) 8 t)))) else nI 0
/-- what the reference's walks ask of a loom -/
def LkO (n : Nat) (x : LoS) : Prop := n ≤ 8 ∧ (∃ w, lWhole x = nI w ∧ w < 2 ^ n) ∧ okS (lOv x) ∧ okS (lKn x) ∧ ∀ i, i < 8 → sv ((lOv x).getD (topN (lOv x) (lWhole x) 8 i) 0 &&& lWhole x) = 0
theorem m_fallsOn (d : Nat) (hd : 3 ≤ d) (F : FT) (G : GT) (n : Nat) (kd ln : List Int32) (x : LoS) (hM : McR n kd ln x F G) (hK : LkO n x) (t : Nat) (ht : t < n) : Kp DX7_fallsOn d [.ref 89, .int (nI t)] F G (some (.int (mFall n kd x t))) := by
  obtain ⟨h1, h2, h3, h4, l1, l2, l3, l4⟩ := id hM
  obtain ⟨hn, ⟨w, hw, hw2⟩, ho, hkn, hE⟩ := hK
  have cW := m_wholes (d - 1) (by omega) F G n kd ln x hM hn w hw hw2
  have cT := m_topOf (d - 1) (by omega) F G n kd ln x hM hn w hw hw2 ho hE t (by omega)
  have htl := topN_lt ho (lWhole x) 8 t (by omega)
  refine Kc.ofT [some (.ref 89), some (.int (nI t)), none, none, none] pn_X7 (Nat.le_of_ble_eq_true rfl) rfl ?_
  have zero : mFall n kd x t = nI 0 → T DX7_fallsOn d 22 [some (.ref 89), some (.int (nI t)), none, none, none] [] F G (fun v F' G' => v = some (.int (mFall n kd x t)) ∧ F' = F ∧ G' = G) := by
    intro hz
    refine T_iconst (v := nI 0) dX7_fallsOn_22 rfl ?_
    refine T_iret rfl dX7_fallsOn_23 ?_
    exact ⟨by rw [hz], rfl, rfl⟩
  refine T_al0 dX7_fallsOn_0 ?_
  refine T_il1 dX7_fallsOn_1 ?_
  refine T_pV1 lX7_169 rfl (by decide) (cell_89 _ _) (m_isWhole _ F G n kd ln x hM hn t ht) (by omega) (Nat.le_of_ble_eq_true rfl) dX7_fallsOn_2 ?_
  refine T_beq 22 dX7_fallsOn_5 (by decide) (fun b1 => ?_) (fun b1 => ?_)
  · exact zero (by rw [mFall, if_neg (by rw [b1]; decide)])
  · refine T_al0 dX7_fallsOn_8 ?_
    refine T_g7 gX7_7 (cell_89 _ _) rfl dX7_fallsOn_9 ?_
    refine T_al0 dX7_fallsOn_12 ?_
    refine T_il1 dX7_fallsOn_13 ?_
    refine T_pV1 lX7_183 rfl (by decide) (cell_89 _ _) cT (by omega) (Nat.le_of_ble_eq_true rfl) dX7_fallsOn_14 ?_
    refine T_aldN rfl (show _ < 8 by omega) dX7_fallsOn_17 ?_
    refine T_iconst (v := nI 3) dX7_fallsOn_18 rfl ?_
    refine T_icmp_ne 24 dX7_fallsOn_19 (by decide) (fun b2 => ?_) (fun b2 => ?_)
    · rw [h2] at b2
      rw [mFall, if_pos b1, if_neg (by rw [show endB kd _ = false from decide_eq_false b2]; decide)]
      refine T_iconst (v := nI 1) dX7_fallsOn_24 rfl ?_
      refine T_al0 dX7_fallsOn_25 ?_
      refine T_il1 dX7_fallsOn_26 ?_
      refine T_pV1 lX7_183 rfl (by decide) (cell_89 _ _) cT (by omega) (Nat.le_of_ble_eq_true rfl) dX7_fallsOn_27 ?_
      refine T_ishl dX7_fallsOn_30 ?_
      refine T_is2 dX7_fallsOn_31 rfl ?_
      refine T_iconst (v := nI 0) dX7_fallsOn_32 rfl ?_
      refine T_is3 dX7_fallsOn_33 rfl ?_
      suffices h : ∀ (k r : Nat) (s : Int32) (o : Option Value), r + k = 8 → T DX7_fallsOn d 34 [some (.ref 89), some (.int (nI t)), some (.int s), some (.int (nI r)), o] [] F G (fun v F' G' => v = some (.int (iter (fun _ s => iter (mcS (lKn x) (lWhole x)) n 0 s) k r s)) ∧ F' = F ∧ G' = G) from h 8 0 _ none rfl
      intro k
      induction k with
      | zero =>
        intro r s o hr
        refine T_il3 dX7_fallsOn_34 ?_
        refine T_bipush (v := nI 8) dX7_fallsOn_35 (by decide +kernel) ?_
        refine T_nge_t 95 dX7_fallsOn_37 (by decide) (by omega) (by omega) (by omega) ?_
        refine T_il2 dX7_fallsOn_95 ?_
        refine T_iret rfl dX7_fallsOn_96 ?_
        exact ⟨rfl, rfl, rfl⟩
      | succ k ih =>
        intro r s o hr
        rw [iter]
        refine T_il3 dX7_fallsOn_34 ?_
        refine T_bipush (v := nI 8) dX7_fallsOn_35 (by decide +kernel) ?_
        refine T_nge_f 95 dX7_fallsOn_37 (by decide) (by omega) (by omega) (by omega) ?_
        refine T_iconst (v := nI 0) dX7_fallsOn_40 rfl ?_
        refine T_is4 dX7_fallsOn_41 rfl ?_
        refine for_up (mcS (lKn x) (lWhole x)) n (fun q y => T DX7_fallsOn d 43 [some (.ref 89), some (.int (nI t)), some (.int y), some (.int (nI r)), some (.int (nI q))] [] F G _) ?_ n 0 s (by omega) ?_
        · intro q y hq h
          refine T_il4 dX7_fallsOn_43 ?_
          refine T_al0 dX7_fallsOn_45 ?_
          refine T_g7 gX7_74 (cell_89 _ _) rfl dX7_fallsOn_46 ?_
          rw [h1]
          refine T_nge_f 89 dX7_fallsOn_49 (by decide) (by omega) (by omega) (by omega) ?_
          refine T_il2 dX7_fallsOn_52 ?_
          refine T_il2 dX7_fallsOn_53 ?_
          refine T_il4 dX7_fallsOn_54 ?_
          refine T_pS2 lX7_124 (m_has _ _ _ _ _) (by omega) (Nat.le_of_ble_eq_true rfl) dX7_fallsOn_56 ?_
          refine T_beq 80 dX7_fallsOn_59 (by decide) (fun b3 => ?_) (fun b3 => ?_)
          · rw [mcS, if_neg (by rw [b3]; decide)] at h
            refine T_iconst (v := nI 0) dX7_fallsOn_80 rfl ?_
            refine T_ior dX7_fallsOn_81 ?_
            rw [or_0]
            refine T_is2 dX7_fallsOn_82 rfl ?_
            refine T_ii4 dX7_fallsOn_83 (by first | exact nI_inc _ | exact nI_dec _ | rfl) rfl ?_
            refine T_goto 43 dX7_fallsOn_86 (by decide) ?_
            exact h
          · rw [mcS, if_pos b3] at h
            refine T_al0 dX7_fallsOn_62 ?_
            refine T_g7 gX7_25 (cell_89 _ _) rfl dX7_fallsOn_63 ?_
            refine T_bipush (v := nI 32) dX7_fallsOn_66 (by decide +kernel) ?_
            refine T_il4 dX7_fallsOn_68 ?_
            first | refine T_iaddN dX7_fallsOn_70 ?_ | refine T_iadd dX7_fallsOn_70 ?_
            refine T_aldN rfl (show _ < 42 by omega) dX7_fallsOn_71 ?_
            refine T_al0 dX7_fallsOn_72 ?_
            refine T_pV0 lX7_180 rfl (by decide) (cell_89 _ _) cW (by omega) (Nat.le_of_ble_eq_true rfl) dX7_fallsOn_73 ?_
            rw [h4, enc_kn l1 l2 l3 l4 (by omega)]
            refine T_iand dX7_fallsOn_76 ?_
            refine T_goto 81 dX7_fallsOn_77 (by decide) ?_
            refine T_ior dX7_fallsOn_81 ?_
            refine T_is2 dX7_fallsOn_82 rfl ?_
            refine T_ii4 dX7_fallsOn_83 (by first | exact nI_inc _ | exact nI_dec _ | rfl) rfl ?_
            refine T_goto 43 dX7_fallsOn_86 (by decide) ?_
            exact h
        · refine T_il4 dX7_fallsOn_43 ?_
          refine T_al0 dX7_fallsOn_45 ?_
          refine T_g7 gX7_74 (cell_89 _ _) rfl dX7_fallsOn_46 ?_
          rw [h1]
          refine T_nge_t 89 dX7_fallsOn_49 (by decide) (by omega) (by omega) (by omega) ?_
          refine T_ii3 dX7_fallsOn_89 (by first | exact nI_inc _ | exact nI_dec _ | rfl) rfl ?_
          refine T_goto 34 dX7_fallsOn_92 (by decide) ?_
          exact ih (r + 1) _ _ (by omega)
    · rw [h2] at b2
      exact zero (by rw [mFall, if_pos b1, if_pos (show endB kd _ = true from decide_eq_true b2)])
/-- the row behind a cut -/
def mcQ (set day : Int32) : Nat → List Int32 → List Int32 := fun q l => if hasI set (nI q) = true then (l.set (8 + q) 1).set (16 + q) day else l
theorem mcQ_40 (set day : Int32) : ∀ n k l, k + n ≤ 8 → (iter (mcQ set day) n k l).getD 40 0 = l.getD 40 0 := by
  intro n
  induction n with
  | zero => intro k l _; rfl
  | succ n ih =>
    intro k l h
    rw [iter, ih (k + 1) _ (by omega), mcQ]
    split
    · rw [List.getD_eq_getElem?_getD, List.getElem?_set_ne (by omega), List.getElem?_set_ne (by omega), ← List.getD_eq_getElem?_getD]
    · rfl
theorem m_cutNow (d : Nat) (hd : 4 ≤ d) (F : FT) (G : GT) (n : Nat) (kd ln : List Int32) (x : LoS) (hM : McR n kd ln x F G) (hK : LkO n x) (t : Nat) (ht : t < n) (hs : ∀ i, i < n → hasI (mFall n kd x t) (nI i) = true → hasI (lWhole x) (nI i) = true) : Kc DX7_cutNow d [.ref 89, .int (nI t)] F G (fun v F' G' => v = some (.int (mFall n kd x t)) ∧ F' = F ∧ G' = u1 G 95 (iter (mcQ (mFall n kd x t) (lDay x)) n 0 ((enc n x).set 41 (lLost x + lossI kd ln n (mFall n kd x t) (lDay x))))) := by
  obtain ⟨h1, h2, h3, h4, l1, l2, l3, l4⟩ := id hM
  obtain ⟨hn, -⟩ := id hK
  refine Kc.ofT [some (.ref 89), some (.int (nI t)), none, none] pn_X7 (Nat.le_of_ble_eq_true rfl) rfl ?_
  refine T_al0 dX7_cutNow_0 ?_
  refine T_il1 dX7_cutNow_1 ?_
  refine T_pV1 lX7_186 rfl (by decide) (cell_89 _ _) (m_fallsOn _ (by omega) F G n kd ln x hM hK t ht) (by omega) (Nat.le_of_ble_eq_true rfl) dX7_cutNow_2 ?_
  refine T_is2 dX7_cutNow_5 rfl ?_
  refine T_al0 dX7_cutNow_6 ?_
  refine T_g7 gX7_25 (cell_89 _ _) rfl dX7_cutNow_7 ?_
  refine T_bipush (v := nI 41) dX7_cutNow_10 (by decide +kernel) ?_
  refine T_dup2 dX7_cutNow_12 rfl rfl ?_
  refine T_aldN rfl (show _ < 42 by omega) dX7_cutNow_13 ?_
  rw [h4, (enc_day l1 l2 l3 l4).2]
  generalize hset : mFall n kd x t = set at hs ⊢
  refine T_al0 dX7_cutNow_14 ?_
  refine T_il2 dX7_cutNow_15 ?_
  refine T_pV1 lX7_189 rfl (by decide) (cell_89 _ _) (m_lossOf _ (by omega) F G n kd ln x hM hn set hs) (by omega) (Nat.le_of_ble_eq_true rfl) dX7_cutNow_16 ?_
  refine T_iadd dX7_cutNow_19 ?_
  refine T_astN (a := 95) rfl (show 41 < 42 by decide) dX7_cutNow_20 ?_
  rw [h4]
  refine T_iconst (v := nI 0) dX7_cutNow_21 rfl ?_
  refine T_is3 dX7_cutNow_22 rfl ?_
  generalize hl : (enc n x).set 41 (lLost x + lossI kd ln n set (lDay x)) = l
  have hl40 : l.getD 40 0 = lDay x := by
    rw [← hl, List.getD_eq_getElem?_getD, List.getElem?_set_ne (by decide), ← List.getD_eq_getElem?_getD]
    exact (enc_day l1 l2 l3 l4).1
  refine for_inv (mcQ set (lDay x)) n (fun q y => T DX7_cutNow d 23 [some (.ref 89), some (.int (nI t)), some (.int set), some (.int (nI q))] [] F (u1 G 95 y) _) (fun _ y => y.getD 40 0 = lDay x) (fun q y hq hy => ?_) ?_ n 0 l (by omega) hl40 ?_
  · rw [mcQ]
    split
    · rw [List.getD_eq_getElem?_getD, List.getElem?_set_ne (by omega), List.getElem?_set_ne (by omega), ← List.getD_eq_getElem?_getD]; exact hy
    · exact hy
  · intro q y hq hy h
    refine T_il3 dX7_cutNow_23 ?_
    refine T_al0 dX7_cutNow_24 ?_
    refine T_g7 gX7_74 (cell_89 _ _) rfl dX7_cutNow_25 ?_
    rw [h1]
    refine T_nge_f 71 dX7_cutNow_28 (by decide) (by omega) (by omega) (by omega) ?_
    refine T_il2 dX7_cutNow_31 ?_
    refine T_il3 dX7_cutNow_32 ?_
    refine T_pS2 lX7_124 (m_has _ _ _ _ _) (by omega) (Nat.le_of_ble_eq_true rfl) dX7_cutNow_33 ?_
    refine T_beq 65 dX7_cutNow_36 (by decide) (fun b3 => ?_) (fun b3 => ?_)
    · rw [mcQ, if_neg (by rw [b3]; decide)] at h
      refine T_ii3 dX7_cutNow_65 (by first | exact nI_inc _ | exact nI_dec _ | rfl) rfl ?_
      refine T_goto 23 dX7_cutNow_68 (by decide) ?_
      exact h
    · rw [mcQ, if_pos b3] at h
      refine T_al0 dX7_cutNow_39 ?_
      refine T_g7 gX7_25 (cell_89 _ _) rfl dX7_cutNow_40 ?_
      refine T_bipush (v := nI 8) dX7_cutNow_43 (by decide +kernel) ?_
      refine T_il3 dX7_cutNow_45 ?_
      first | refine T_iaddN dX7_cutNow_46 ?_ | refine T_iadd dX7_cutNow_46 ?_
      refine T_iconst (v := nI 1) dX7_cutNow_47 rfl ?_
      refine T_astN rfl (show _ < 42 by omega) dX7_cutNow_48 ?_
      rw [u1_s, u1_u1]
      refine T_al0 dX7_cutNow_49 ?_
      refine T_g7 gX7_25 (cell_89 _ _) rfl dX7_cutNow_50 ?_
      refine T_bipush (v := nI 16) dX7_cutNow_53 (by decide +kernel) ?_
      refine T_il3 dX7_cutNow_55 ?_
      first | refine T_iaddN dX7_cutNow_56 ?_ | refine T_iadd dX7_cutNow_56 ?_
      refine T_al0 dX7_cutNow_57 ?_
      refine T_g7 gX7_25 (cell_89 _ _) rfl dX7_cutNow_58 ?_
      refine T_bipush (v := nI 40) dX7_cutNow_61 (by decide +kernel) ?_
      refine T_aldN rfl (show _ < 42 by omega) dX7_cutNow_63 ?_
      rw [u1_s, show (y.set (8 + q) (nI 1)).getD 40 0 = lDay x by rw [List.getD_eq_getElem?_getD, List.getElem?_set_ne (by omega), ← List.getD_eq_getElem?_getD]; exact hy]
      refine T_astN (a := 95) rfl (show 16 + q < 42 by omega) dX7_cutNow_64 ?_
      rw [u1_s, u1_u1]
      refine T_ii3 dX7_cutNow_65 (by first | exact nI_inc _ | exact nI_dec _ | rfl) rfl ?_
      refine T_goto 23 dX7_cutNow_68 (by decide) ?_
      exact h
  · intro hy
    refine T_il3 dX7_cutNow_23 ?_
    refine T_al0 dX7_cutNow_24 ?_
    refine T_g7 gX7_74 (cell_89 _ _) rfl dX7_cutNow_25 ?_
    rw [h1]
    refine T_nge_t 71 dX7_cutNow_28 (by decide) (by omega) (by omega) (by omega) ?_
    refine T_il2 dX7_cutNow_71 ?_
    refine T_iret rfl dX7_cutNow_72 ?_
    exact ⟨rfl, rfl, rfl⟩
