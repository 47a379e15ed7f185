def Both (D6 D7 : MD) (av : List Value) : Prop := ∀ (a : AS) (F : FT) (G : GT), InvA a → XR a F G → MR a F G → (∀ k, (G k).length = gLen k) → ∃ (r : Int32) (a' : AS), InvA a' ∧ Kc D6 20 (.ref 0 :: av) F G (XP (r, a') F G) ∧ ∀ (F' : FT) (G' : GT), MR a F' G' → Kc D7 20 (.ref 89 :: av) F' G' (MP (r, a') F' G')
theorem Kp.xp {D : MD} {av : List Value} {F : FT} {G : GT} {r : Int32} {a : AS} (h : Kp D 20 av F G (some (.int r))) (hX : XR a F G) : Kc D 20 av F G (XP (r, a) F G) := h.imp (fun v F' G' q => by obtain ⟨rfl, rfl, rfl⟩ := q; exact XP.rf hX)
theorem Kp.mp {D : MD} {av : List Value} {F : FT} {G : GT} {r : Int32} {a : AS} (h : Kp D 20 av F G (some (.int r))) (hM : MR a F G) : Kc D 20 av F G (MP (r, a) F G) := h.imp (fun v F' G' q => by obtain ⟨rfl, rfl, rfl⟩ := q; exact MP.rf hM)
theorem InvA.n {a : AS} (h : InvA a) : aN a ≤ 8 := h.1.1.1
theorem InvA.m {a : AS} (h : InvA a) : aM a ≤ 6 := h.1.1.2
theorem InvA.l {a : AS} (h : InvA a) : aLen a ≤ 160 := h.2.1.2
theorem InvA.o {a : AS} (h : InvA a) : okS (lOv (aNow a)) := h.2.2.1.2.1.1
theorem InvA.k {a : AS} (h : InvA a) : okS (lKn (aNow a)) := h.2.2.1.2.1.2.1
theorem InvA.ol {a : AS} (h : InvA a) : (lOv (aNow a)).length = 8 := h.2.2.1.1.2.2.1
theorem InvA.O {a : AS} (h : InvA a) : ∀ o, o < aM a → ∃ j, j < 8 ∧ (aOt a).getD o 0 = nI j := fun o ho => by
  obtain ⟨j, y, h1, h2, -⟩ := h.1.2.2.2.2.2 o ho
  exact ⟨j, Nat.lt_of_lt_of_le h2 h.n, h1⟩
theorem InvA.w {a : AS} (h : InvA a) : S8 (lWhole (aNow a)) := by
  obtain ⟨w, c, dd, h1, h2, -⟩ := h.2.2.1.2.2.2
  exact ⟨w, pow_256 h.n h2, h1⟩
theorem both_write (x : Int32) : Both DX6_write DX7_write [.int x] := fun a F G hI hX hM hg => ⟨(s_write a x).1, (s_write a x).2, inv_write hI x, x_write 20 (by decide) F G a hX hI.l x, fun F' G' hM' => m_write 20 (by decide) F' G' a hM' hI x⟩
theorem both_erase : Both DX6_erase DX7_erase [] := fun a F G hI hX hM hg => ⟨(s_erase a ).1, (s_erase a ).2, inv_erase hI , x_erase 20 F G a hX  , fun F' G' hM' => m_erase 20 F' G' a hM'  ⟩
theorem both_fault : Both DX6_fault DX7_fault [] := fun a F G hI hX hM hg => ⟨_, a, hI, x_fault 20 (by decide) F G a hX hI.n hI.m hI.l, fun F' G' hM' => m_fault 20 (by decide) F' G' a hM' hI⟩
theorem both_loom : Both DX6_loom DX7_loom [] := fun a F G hI hX hM hg => ⟨(s_loom a ).1, (s_loom a ).2, inv_loom hI , x_loom 20 (by decide) F G a hX hI.n hI.m hI.l , fun F' G' hM' => m_loom 20 (by decide) F' G' a hM' hI ⟩
theorem both_thread (x : Int32) (y : Int32) : Both DX6_thread DX7_thread [.int x, .int y] := fun a F G hI hX hM hg => ⟨_, a, hI, (x_thread 20 (by decide) F G a hX hI.n x y).xp hX, fun F' G' hM' => (m_thread 20 (by decide) F' G' a hM' hI x y).mp hM'⟩
theorem both_as (x : Int32) (y : Int32) : Both DX6_as DX7_as [.int x, .int y] := fun a F G hI hX hM hg => ⟨_, a, hI, (x_as 20 (by decide) F G a hX hI.n x y).xp hX, fun F' G' hM' => (m_as 20 (by decide) F' G' a hM' hI x y).mp hM'⟩
theorem both_order (x : Int32) (y : Int32) : Both DX6_order DX7_order [.int x, .int y] := fun a F G hI hX hM hg => ⟨_, a, hI, (x_order 20 F G a hX hI.m x y).xp hX, fun F' G' hM' => (m_order 20 (by decide) F' G' a hM' hI x y).mp hM'⟩
theorem both_top (x : Int32) : Both DX6_top DX7_top [.int x] := fun a F G hI hX hM hg => ⟨_, a, hI, (x_top 20 (by decide) F G a hX hI.n hI.o x).xp hX, fun F' G' hM' => (m_top 20 (by decide) F' G' a hM' hI x).mp hM'⟩
theorem both_cut (x : Int32) : Both DX6_cut DX7_cut [.int x] := fun a F G hI hX hM hg => ⟨(s_cut a x).1, (s_cut a x).2, inv_cut hI x, x_cut 20 (by decide) F G a hX hI.n hI.o hI.k x, fun F' G' hM' => m_cut 20 (by decide) F' G' a hM' hI x⟩
theorem both_put (x : Int32) (y : Int32) : Both DX6_put DX7_put [.int x, .int y] := fun a F G hI hX hM hg => ⟨(s_put a x y).1, (s_put a x y).2, inv_put hI x y, x_put 20 (by decide) F G a hX hI.n hI.o hI.ol x y, fun F' G' hM' => m_put 20 (by decide) F' G' a hM' hI x y⟩
theorem both_lift (x : Int32) : Both DX6_lift DX7_lift [.int x] := fun a F G hI hX hM hg => ⟨(s_lift a x).1, (s_lift a x).2, inv_lift hI x, x_lift 20 (by decide) F G a hX hI.n x, fun F' G' hM' => m_lift 20 (by decide) F' G' a hM' hI x⟩
theorem both_knot (x : Int32) (y : Int32) (z : Int32) : Both DX6_knot DX7_knot [.int x, .int y, .int z] := fun a F G hI hX hM hg => ⟨(s_knot a x y z).1, (s_knot a x y z).2, inv_knot hI x y z, x_knot 20 (by decide) F G a hX hI.n x y z, fun F' G' hM' => m_knot 20 (by decide) F' G' a hM' hI x y z⟩
theorem both_dye (x : Int32) (y : Int32) : Both DX6_dye DX7_dye [.int x, .int y] := fun a F G hI hX hM hg => ⟨(s_dye a x y).1, (s_dye a x y).2, inv_dye hI x y, x_dye 20 (by decide) F G a hX hI.n x y, fun F' G' hM' => m_dye 20 (by decide) F' G' a hM' hI x y⟩
theorem both_go (x : Int32) : Both DX6_go DX7_go [.int x] := fun a F G hI hX hM hg => ⟨(s_go a x).1, (s_go a x).2, inv_go hI x, x_go 20 (by decide) F G a hX hI.n hI.m hI.o hI.O x, fun F' G' hM' => m_go 20 (by decide) F' G' a hM' hI x⟩
theorem both_undo : Both DX6_undo DX7_undo [] := fun a F G hI hX hM hg => ⟨(s_undo a ).1, (s_undo a ).2, inv_undo hI , x_undo 20 (by decide) F G a hX  , fun F' G' hM' => m_undo 20 (by decide) F' G' a hM' hI ⟩
theorem both_keep (x : Int32) : Both DX6_keep DX7_keep [.int x] := fun a F G hI hX hM hg => ⟨(s_keep a x).1, (s_keep a x).2, inv_keep hI x, x_keep 20 (by decide) F G a hX  x, fun F' G' hM' => m_keep 20 (by decide) F' G' a hM' hI x⟩
theorem both_back (x : Int32) : Both DX6_back DX7_back [.int x] := fun a F G hI hX hM hg => ⟨(s_back a x).1, (s_back a x).2, inv_back hI x, x_back 20 (by decide) F G a hX  x, fun F' G' hM' => m_back 20 (by decide) F' G' a hM' hI x⟩
theorem both_takes (x : Int32) : Both DX6_takes DX7_takes [.int x] := fun a F G hI hX hM hg => ⟨_, a, hI, (x_takes 20 (by decide) F G a hX hI.n hI.o x).xp hX, fun F' G' hM' => (m_takes 20 (by decide) F' G' a hM' hI x).mp hM'⟩
theorem both_loss (x : Int32) : Both DX6_loss DX7_loss [.int x] := fun a F G hI hX hM hg => ⟨_, a, hI, (x_loss 20 (by decide) F G a hX hI.n hI.o x).xp hX, fun F' G' hM' => (m_loss 20 (by decide) F' G' a hM' hI x).mp hM'⟩
theorem both_lifts (x : Int32) (y : Int32) : Both DX6_lifts DX7_lifts [.int x, .int y] := fun a F G hI hX hM hg => ⟨_, a, hI, (x_lifts 20 (by decide) F G a hX hI.n hI.o x y).xp hX, fun F' G' hM' => (m_lifts 20 (by decide) F' G' a hM' hI x y).mp hM'⟩
theorem both_doom (x : Int32) : Both DX6_doom DX7_doom [.int x] := fun a F G hI hX hM hg => by
  obtain ⟨w, c, dd, -, -, -, -, h1, h2, -⟩ := hI.2.2.1.2.2.2
  exact ⟨_, a, hI, x_doom 20 (by decide) F G a hX hI.n hI.m hI.o hI.O dd h2 h1 x, fun F' G' hM' => m_doom 20 (by decide) F' G' a hM' hI x⟩
theorem both_swapped (x : Int32) : Both DX6_swapped DX7_swapped [.int x] := fun a F G hI hX hM hg => ⟨_, a, hI, x_swapped 20 (by decide) F G a hX hI.n hI.m hI.o hI.O x, fun F' G' hM' => m_swapped 20 (by decide) F' G' a hM' hI _ _ _ (hg 84) (hg 83) x⟩
theorem both_tails (x : Int32) : Both DX6_tails DX7_tails [.int x] := fun a F G hI hX hM hg => by
  have hx := x_tails 20 (by decide) F G a hX hI.n x
  rw [tails_eq hI _ _ (hg 87)] at hx
  exact ⟨_, a, hI, hx, fun F' G' hM' => m_tails 20 (by decide) F' G' a hM' hI x⟩
theorem both_given (x : Int32) (y : Int32) (z : Int32) : Both DX6_given DX7_given [.int x, .int y, .int z] := fun a F G hI hX hM hg => ⟨_, a, hI, (x_given 20 (by decide) F G a hX hI.n x y z).xp hX, fun F' G' hM' => (m_given 20 (by decide) F' G' a hM' hI x y z).mp hM'⟩
theorem both_cat (x : Int32) (y : Int32) : Both DX6_cat DX7_cat [.int x, .int y] := fun a F G hI hX hM hg => ⟨_, a, hI, (x_cat 20 (by decide) F G a hX hI.n hI.o hI.w x y).xp hX, fun F' G' hM' => (m_cat 20 (by decide) F' G' a hM' hI x y).mp hM'⟩
theorem both_mean (x : Int32) : Both DX6_mean DX7_mean [.int x] := fun a F G hI hX hM hg => ⟨_, a, hI, (x_mean 20 (by decide) F G a hX hI.n hI.o hI.w x).xp hX, fun F' G' hM' => (m_mean 20 (by decide) F' G' a hM' hI x).mp hM'⟩
theorem both_whose (x : Int32) : Both DX6_whose DX7_whose [.int x] := fun a F G hI hX hM hg => ⟨_, a, hI, (x_whose 20 (by decide) F G a hX hI.n hI.o x).xp hX, fun F' G' hM' => (m_whose 20 (by decide) F' G' a hM' hI x).mp hM'⟩
theorem both_fourth (x : Int32) : Both DX6_fourth DX7_fourth [.int x] := fun a F G hI hX hM hg => ⟨_, a, hI, (x_fourth 20 (by decide) F G a hX hI.n hI.o x).xp hX, fun F' G' hM' => (m_fourth 20 (by decide) F' G' a hM' hI x).mp hM'⟩
theorem both_count (x : Int32) : Both DX6_count DX7_count [.int x] := fun a F G hI hX hM hg => ⟨_, a, hI, (x_count 20 (by decide) F G a hX hI.o hI.k x).xp hX, fun F' G' hM' => (m_count 20 (by decide) F' G' a hM' hI x).mp hM'⟩
