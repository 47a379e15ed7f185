/-! PURE: the class's spreading and the reference's are those closures -/
theorem hasI_tb : ∀ m, m < 256 → ∀ k, k < 8 → hasI (nI m) (nI k) = m.testBit k := by decide +kernel
theorem nI_inj8 {a b : Nat} (ha : a < 256) (hb : b < 256) (h : nI a = nI b) : a = b := by
  have := congrArg sv h
  rw [sv_nI (by omega), sv_nI (by omega)] at this
  exact this
theorem spI_N {kn : List Int32} (hk : okS kn) (w : Int32) {s : Nat} (hs : s < 256) : ∀ n k y, k + n ≤ 8 → iter (spI kn w (nI s)) n k (nI y) = nI (iter (js (cN kn w) s) n k y) := by
  intro n
  induction n with
  | zero => intro k y _; rfl
  | succ n ih =>
    intro k y h
    rw [iter, iter, ← ih (k + 1) _ (by omega)]
    congr 1
    rw [spI, js, hasI_tb s hs k (by omega)]
    split
    · rw [(cN_ok hk w k).1, nI_or]
    · rfl
theorem spO_N {kn : List Int32} (hk : okS kn) (w : Int32) : ∀ n s, s < 256 → spO kn w n (nI s) = nI (spN (cN kn w) n s) := by
  intro n
  induction n with
  | zero => intro s _; rfl
  | succ n ih =>
    intro s hs
    have hlt := js_lt (fun k => (cN_ok hk w k).2) s 8 0 s hs
    rw [spO, spN, spI_N hk w hs 8 0 s (by omega)]
    by_cases he : iter (js (cN kn w) s) 8 0 s = s
    · rw [if_pos he, if_pos (by rw [he])]
    · rw [if_neg he, if_neg (fun q => he (nI_inj8 hlt hs q))]
      exact ih _ hlt
theorem mcS_N {kn : List Int32} (hk : okS kn) (w : Int32) : ∀ n k y, k + n ≤ 8 → y < 256 → iter (mcS kn w) n k (nI y) = nI (iter (gs (cN kn w)) n k y) := by
  intro n
  induction n with
  | zero => intro k y _ _; rfl
  | succ n ih =>
    intro k y h hy
    have hlt : gs (cN kn w) k y < 256 := by
      unfold gs
      split
      · exact Nat.or_lt_two_pow (n := 8) hy (cN_ok hk w k).2
      · exact hy
    rw [iter, iter, ← ih (k + 1) _ (by omega) hlt]
    congr 1
    rw [mcS, gs, hasI_tb y hy k (by omega)]
    split
    · rw [(cN_ok hk w k).1, nI_or]
    · rfl
theorem mcl_N {kn : List Int32} (hk : okS kn) (w : Int32) {m : Nat} (hm : m ≤ 8) : ∀ n r s, s < 256 → iter (fun _ s => iter (mcS kn w) m 0 s) n r (nI s) = nI (gN (cN kn w) m n s) := by
  intro n
  induction n with
  | zero => intro r s _; rfl
  | succ n ih =>
    intro r s hs
    rw [iter, gN, ← ih (r + 1) _ (gs_lt (fun k => (cN_ok hk w k).2) m 0 s hs)]
    congr 1
    exact mcS_N hk w m 0 s (by omega) hs
theorem mcl_sp {kn : List Int32} (hk : okS kn) (w : Int32) {n : Nat} (hn : n ≤ 8) (hz : ∀ q, n ≤ q → q < 8 → kn.getD q 0 = 0) {s : Nat} (hs : s < 256) (hp : 0 < pop8 s) : mcl n kn w (nI s) = spO kn w 8 (nI s) := by
  rw [mcl, mcl_N hk w hn 8 0 s hs, spO_N hk w 8 s hs, sp_gN (fun k => (cN_ok hk w k).2) hn (fun q h1 h2 => ?_) hs hp]
  rw [cN, hz q h1 h2, show (0 : Int32) = nI 0 by decide +kernel, nI_any w, nI_and, Nat.zero_and]
  exact sv_nI (by decide)
theorem pop_bit : ∀ k, k < 8 → 0 < pop8 (2 ^ k) := by decide +kernel
theorem mFall_eq {n : Nat} {kd : List Int32} {x : LoS} (hK : LkO n x) (hz : ∀ q, n ≤ q → q < 8 → (lKn x).getD q 0 = 0) {t : Nat} (ht : t < n) : mFall n kd x t = fallI kd (lOv x) (lKn x) (lWhole x) t := by
  obtain ⟨hn, -, ho, hkn, -⟩ := hK
  have htl := topN_lt ho (lWhole x) 8 t (by omega)
  rw [mFall, fallI, (S8_bit _ htl).1, mcl_sp hkn _ hn hz (S8_bit _ htl).2 (pop_bit _ htl)]
