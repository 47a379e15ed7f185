abbrev lL (i : Nat) : List (Option Value) := [some (.ref 1300), some (.ref 0), some (.ref 89), some (.int (nI i))]
abbrev VB (nm : String) (N : Nat) (xs : Nat → Int32) (i pc : Nat) (st : List Value) (M : MM) : Prop := VL nm N xs 111 3981 pc (lL i) st M
/-- what comes behind a step -/
def KK (nm : String) (N : Nat) (xs : Nat → Int32) (i : Nat) : Prop := ∀ (a : AS) (F : FT) (G : GT) (M : MM), InvA a → XR a F G → MR a F G → Mem M F G → VB nm N xs i 901 [] M
section LC
variable {nm : String} {N : Nat} {xs : Nat → Int32} {i pc : Nat} {st : List Value} {M : MM}
theorem VB_arg (c : Nat) {ci : Int} (hc : Int32.ofInt ci = nI c) (hi : i + c < N) (hN : N ≤ 256) (d0 : decode cL_law pc = .ok (.aload_n 0, 1)) (d1 : decode cL_law (pc + 1) = .ok (.iload_n 3, 1)) (d2 : decode cL_law (pc + 2) = .ok (.iconst ci, 1)) (d3 : decode cL_law (pc + 3) = .ok (.iadd, 1)) (d4 : decode cL_law (pc + 4) = .ok (.iaload, 1))
    (k : VB nm N xs i (pc + 5) (.int (xs (i + c)) :: st) M) : VB nm N xs i pc st M := by
  refine VL_aload_n d0 rfl ?_
  refine VL_iload_n d1 rfl ?_
  refine VL_iconst (v := nI c) d2 hc ?_
  refine VL_iadd d3 ?_
  rw [nI_add]
  exact VL_sld hi hN d4 k
theorem lL_ok : (lL i).all (okO 111) = true := rfl
theorem VB_call6 {D' : MD} {idx n : Nat} {T : u_T} {NN : Nat} {av : List Value} {F : FT} {G : GT} {r : Int32} {a' : AS} (hl : LkV "WhoseThreadLaw" idx D' n) (hci : vwCl[6]? = some (D'.1.cls, T, NN)) (hm : Mem M F G) (hC : Kc D' 20 (.ref 0 :: av) F G (XP (r, a') F G)) (hn : av.length = n) (hd : decode cL_law pc = .ok (.invokevirtual idx, 3)) (hst : st = av.reverse ++ [.ref 0])
    (kk : ∀ (M' : MM) (F' : FT) (G' : GT), Mem M' F' G' → XR a' F' G' → FrM F G F' G' → VB nm N xs i (pc + 3) [.int r] M') : VB nm N xs i pc st M := by
  refine VL_callV (rest := []) (ci := 6) (d' := 20) hl hci (hm.2.1 0 (by decide)) (hC M hm) hn (by decide) ⟨by decide, by decide⟩ (by decide) hd hst (by rw [hm.1]; rfl) rfl ?_
  rintro v M' ⟨⟨F', G', h1, h2, h3, h4⟩, -⟩
  subst h2
  exact kk M' F' G' h1 h3 h4
theorem VB_call7 {D' : MD} {idx n : Nat} {T : u_T} {NN : Nat} {av : List Value} {F : FT} {G : GT} {r r0 : Int32} {a' : AS} (hl : LkV "WhoseThreadLaw" idx D' n) (hci : vwCl[7]? = some (D'.1.cls, T, NN)) (hm : Mem M F G) (hC : Kc D' 20 (.ref 89 :: av) F G (MP (r, a') F G)) (hn : av.length = n) (hd : decode cL_law pc = .ok (.invokevirtual idx, 3)) (hst : st = av.reverse ++ [.ref 89, .int r0])
    (kk : ∀ (M' : MM) (F' : FT) (G' : GT), Mem M' F' G' → MR a' F' G' → FrX F G F' G' → VB nm N xs i (pc + 3) [.int r, .int r0] M') : VB nm N xs i pc st M := by
  refine VL_callV (rest := [.int r0]) (ci := 7) (d' := 20) hl hci (hm.2.1 89 (by decide)) (hC M hm) hn (by decide) ⟨by decide, by decide⟩ (Nat.le_of_ble_eq_true rfl) hd hst (by rw [hm.1]; rfl) (by rw [hm.1]; rfl) ?_
  rintro v M' ⟨⟨F', G', h1, h2, h3, h4⟩, -⟩
  subst h2
  exact kk M' F' G' h1 h3 h4
theorem lc_0 (hi : i + 4 ≤ N) (hN : N ≤ 256) (K : KK nm N xs i) {a : AS} {F : FT} {G : GT} (hI : InvA a) (hX : XR a F G) (hM : MR a F G) (hm : Mem M F G) : VB nm N xs i 164 [] M := by
  obtain ⟨r, a', hI', h6, h7⟩ := both_write (xs (i + 1)) a F G hI hX hM hm.2.2
  refine VL_aload_n dL_law_164 rfl ?_
  refine VB_arg 1 rfl (by omega) hN dL_law_165 dL_law_166 dL_law_167 dL_law_168 dL_law_169 ?_
  refine VB_call6 (av := [.int (xs (i + 1))]) lL_13 rfl hm h6 rfl dL_law_170 rfl ?_
  intro M1 F1 G1 hm1 hX1 hF1
  refine VL_aload_n dL_law_173 rfl ?_
  refine VB_arg 1 rfl (by omega) hN dL_law_174 dL_law_175 dL_law_176 dL_law_177 dL_law_178 ?_
  refine VB_call7 (av := [.int (xs (i + 1))]) lL_17 rfl hm1 (h7 F1 G1 (hM.keep hF1)) rfl dL_law_179 rfl ?_
  intro M2 F2 G2 hm2 hM2 hF2
  exact VL_icmp_eq 901 dL_law_182 (by decide) (fun _ => K a' F2 G2 M2 hI' (hX1.keep hF2) hM2 hm2) (fun h => absurd rfl h)
theorem lc_1 (hi : i + 4 ≤ N) (hN : N ≤ 256) (K : KK nm N xs i) {a : AS} {F : FT} {G : GT} (hI : InvA a) (hX : XR a F G) (hM : MR a F G) (hm : Mem M F G) : VB nm N xs i 187 [] M := by
  obtain ⟨r, a', hI', h6, h7⟩ := both_erase  a F G hI hX hM hm.2.2
  refine VL_aload_n dL_law_187 rfl ?_
  refine VB_call6 (av := []) lL_18 rfl hm h6 rfl dL_law_188 rfl ?_
  intro M1 F1 G1 hm1 hX1 hF1
  refine VL_aload_n dL_law_191 rfl ?_
  refine VB_call7 (av := []) lL_22 rfl hm1 (h7 F1 G1 (hM.keep hF1)) rfl dL_law_192 rfl ?_
  intro M2 F2 G2 hm2 hM2 hF2
  exact VL_icmp_eq 901 dL_law_195 (by decide) (fun _ => K a' F2 G2 M2 hI' (hX1.keep hF2) hM2 hm2) (fun h => absurd rfl h)
theorem lc_2 (hi : i + 4 ≤ N) (hN : N ≤ 256) (K : KK nm N xs i) {a : AS} {F : FT} {G : GT} (hI : InvA a) (hX : XR a F G) (hM : MR a F G) (hm : Mem M F G) : VB nm N xs i 200 [] M := by
  obtain ⟨r, a', hI', h6, h7⟩ := both_fault  a F G hI hX hM hm.2.2
  refine VL_aload_n dL_law_200 rfl ?_
  refine VB_call6 (av := []) lL_23 rfl hm h6 rfl dL_law_201 rfl ?_
  intro M1 F1 G1 hm1 hX1 hF1
  refine VL_aload_n dL_law_204 rfl ?_
  refine VB_call7 (av := []) lL_26 rfl hm1 (h7 F1 G1 (hM.keep hF1)) rfl dL_law_205 rfl ?_
  intro M2 F2 G2 hm2 hM2 hF2
  exact VL_icmp_eq 901 dL_law_208 (by decide) (fun _ => K a' F2 G2 M2 hI' (hX1.keep hF2) hM2 hm2) (fun h => absurd rfl h)
theorem lc_3 (hi : i + 4 ≤ N) (hN : N ≤ 256) (K : KK nm N xs i) {a : AS} {F : FT} {G : GT} (hI : InvA a) (hX : XR a F G) (hM : MR a F G) (hm : Mem M F G) : VB nm N xs i 213 [] M := by
  obtain ⟨r, a', hI', h6, h7⟩ := both_loom  a F G hI hX hM hm.2.2
  refine VL_aload_n dL_law_213 rfl ?_
  refine VB_call6 (av := []) lL_27 rfl hm h6 rfl dL_law_214 rfl ?_
  intro M1 F1 G1 hm1 hX1 hF1
  refine VL_aload_n dL_law_217 rfl ?_
  refine VB_call7 (av := []) lL_30 rfl hm1 (h7 F1 G1 (hM.keep hF1)) rfl dL_law_218 rfl ?_
  intro M2 F2 G2 hm2 hM2 hF2
  exact VL_icmp_eq 901 dL_law_221 (by decide) (fun _ => K a' F2 G2 M2 hI' (hX1.keep hF2) hM2 hm2) (fun h => absurd rfl h)
theorem lc_4 (hi : i + 4 ≤ N) (hN : N ≤ 256) (K : KK nm N xs i) {a : AS} {F : FT} {G : GT} (hI : InvA a) (hX : XR a F G) (hM : MR a F G) (hm : Mem M F G) : VB nm N xs i 226 [] M := by
  obtain ⟨r, a', hI', h6, h7⟩ := both_thread (xs (i + 1)) (xs (i + 2)) a F G hI hX hM hm.2.2
  refine VL_aload_n dL_law_226 rfl ?_
  refine VB_arg 1 rfl (by omega) hN dL_law_227 dL_law_228 dL_law_229 dL_law_230 dL_law_231 ?_
  refine VB_arg 2 rfl (by omega) hN dL_law_232 dL_law_233 dL_law_234 dL_law_235 dL_law_236 ?_
  refine VB_call6 (av := [.int (xs (i + 1)), .int (xs (i + 2))]) lL_31 rfl hm h6 rfl dL_law_237 rfl ?_
  intro M1 F1 G1 hm1 hX1 hF1
  refine VL_aload_n dL_law_240 rfl ?_
  refine VB_arg 1 rfl (by omega) hN dL_law_241 dL_law_242 dL_law_243 dL_law_244 dL_law_245 ?_
  refine VB_arg 2 rfl (by omega) hN dL_law_246 dL_law_247 dL_law_248 dL_law_249 dL_law_250 ?_
  refine VB_call7 (av := [.int (xs (i + 1)), .int (xs (i + 2))]) lL_35 rfl hm1 (h7 F1 G1 (hM.keep hF1)) rfl dL_law_251 rfl ?_
  intro M2 F2 G2 hm2 hM2 hF2
  exact VL_icmp_eq 901 dL_law_254 (by decide) (fun _ => K a' F2 G2 M2 hI' (hX1.keep hF2) hM2 hm2) (fun h => absurd rfl h)
theorem lc_5 (hi : i + 4 ≤ N) (hN : N ≤ 256) (K : KK nm N xs i) {a : AS} {F : FT} {G : GT} (hI : InvA a) (hX : XR a F G) (hM : MR a F G) (hm : Mem M F G) : VB nm N xs i 259 [] M := by
  obtain ⟨r, a', hI', h6, h7⟩ := both_as (xs (i + 1)) (xs (i + 2)) a F G hI hX hM hm.2.2
  refine VL_aload_n dL_law_259 rfl ?_
  refine VB_arg 1 rfl (by omega) hN dL_law_260 dL_law_261 dL_law_262 dL_law_263 dL_law_264 ?_
  refine VB_arg 2 rfl (by omega) hN dL_law_265 dL_law_266 dL_law_267 dL_law_268 dL_law_269 ?_
  refine VB_call6 (av := [.int (xs (i + 1)), .int (xs (i + 2))]) lL_36 rfl hm h6 rfl dL_law_270 rfl ?_
  intro M1 F1 G1 hm1 hX1 hF1
  refine VL_aload_n dL_law_273 rfl ?_
  refine VB_arg 1 rfl (by omega) hN dL_law_274 dL_law_275 dL_law_276 dL_law_277 dL_law_278 ?_
  refine VB_arg 2 rfl (by omega) hN dL_law_279 dL_law_280 dL_law_281 dL_law_282 dL_law_283 ?_
  refine VB_call7 (av := [.int (xs (i + 1)), .int (xs (i + 2))]) lL_39 rfl hm1 (h7 F1 G1 (hM.keep hF1)) rfl dL_law_284 rfl ?_
  intro M2 F2 G2 hm2 hM2 hF2
  exact VL_icmp_eq 901 dL_law_287 (by decide) (fun _ => K a' F2 G2 M2 hI' (hX1.keep hF2) hM2 hm2) (fun h => absurd rfl h)
theorem lc_6 (hi : i + 4 ≤ N) (hN : N ≤ 256) (K : KK nm N xs i) {a : AS} {F : FT} {G : GT} (hI : InvA a) (hX : XR a F G) (hM : MR a F G) (hm : Mem M F G) : VB nm N xs i 292 [] M := by
  obtain ⟨r, a', hI', h6, h7⟩ := both_order (xs (i + 1)) (xs (i + 2)) a F G hI hX hM hm.2.2
  refine VL_aload_n dL_law_292 rfl ?_
  refine VB_arg 1 rfl (by omega) hN dL_law_293 dL_law_294 dL_law_295 dL_law_296 dL_law_297 ?_
  refine VB_arg 2 rfl (by omega) hN dL_law_298 dL_law_299 dL_law_300 dL_law_301 dL_law_302 ?_
  refine VB_call6 (av := [.int (xs (i + 1)), .int (xs (i + 2))]) lL_40 rfl hm h6 rfl dL_law_303 rfl ?_
  intro M1 F1 G1 hm1 hX1 hF1
  refine VL_aload_n dL_law_306 rfl ?_
  refine VB_arg 1 rfl (by omega) hN dL_law_307 dL_law_308 dL_law_309 dL_law_310 dL_law_311 ?_
  refine VB_arg 2 rfl (by omega) hN dL_law_312 dL_law_313 dL_law_314 dL_law_315 dL_law_316 ?_
  refine VB_call7 (av := [.int (xs (i + 1)), .int (xs (i + 2))]) lL_43 rfl hm1 (h7 F1 G1 (hM.keep hF1)) rfl dL_law_317 rfl ?_
  intro M2 F2 G2 hm2 hM2 hF2
  exact VL_icmp_eq 901 dL_law_320 (by decide) (fun _ => K a' F2 G2 M2 hI' (hX1.keep hF2) hM2 hm2) (fun h => absurd rfl h)
theorem lc_7 (hi : i + 4 ≤ N) (hN : N ≤ 256) (K : KK nm N xs i) {a : AS} {F : FT} {G : GT} (hI : InvA a) (hX : XR a F G) (hM : MR a F G) (hm : Mem M F G) : VB nm N xs i 325 [] M := by
  obtain ⟨r, a', hI', h6, h7⟩ := both_top (xs (i + 1)) a F G hI hX hM hm.2.2
  refine VL_aload_n dL_law_325 rfl ?_
  refine VB_arg 1 rfl (by omega) hN dL_law_326 dL_law_327 dL_law_328 dL_law_329 dL_law_330 ?_
  refine VB_call6 (av := [.int (xs (i + 1))]) lL_44 rfl hm h6 rfl dL_law_331 rfl ?_
  intro M1 F1 G1 hm1 hX1 hF1
  refine VL_aload_n dL_law_334 rfl ?_
  refine VB_arg 1 rfl (by omega) hN dL_law_335 dL_law_336 dL_law_337 dL_law_338 dL_law_339 ?_
  refine VB_call7 (av := [.int (xs (i + 1))]) lL_47 rfl hm1 (h7 F1 G1 (hM.keep hF1)) rfl dL_law_340 rfl ?_
  intro M2 F2 G2 hm2 hM2 hF2
  exact VL_icmp_eq 901 dL_law_343 (by decide) (fun _ => K a' F2 G2 M2 hI' (hX1.keep hF2) hM2 hm2) (fun h => absurd rfl h)
theorem lc_8 (hi : i + 4 ≤ N) (hN : N ≤ 256) (K : KK nm N xs i) {a : AS} {F : FT} {G : GT} (hI : InvA a) (hX : XR a F G) (hM : MR a F G) (hm : Mem M F G) : VB nm N xs i 348 [] M := by
  obtain ⟨r, a', hI', h6, h7⟩ := both_cut (xs (i + 1)) a F G hI hX hM hm.2.2
  refine VL_aload_n dL_law_348 rfl ?_
  refine VB_arg 1 rfl (by omega) hN dL_law_349 dL_law_350 dL_law_351 dL_law_352 dL_law_353 ?_
  refine VB_call6 (av := [.int (xs (i + 1))]) lL_48 rfl hm h6 rfl dL_law_354 rfl ?_
  intro M1 F1 G1 hm1 hX1 hF1
  refine VL_aload_n dL_law_357 rfl ?_
  refine VB_arg 1 rfl (by omega) hN dL_law_358 dL_law_359 dL_law_360 dL_law_361 dL_law_362 ?_
  refine VB_call7 (av := [.int (xs (i + 1))]) lL_51 rfl hm1 (h7 F1 G1 (hM.keep hF1)) rfl dL_law_363 rfl ?_
  intro M2 F2 G2 hm2 hM2 hF2
  exact VL_icmp_eq 901 dL_law_366 (by decide) (fun _ => K a' F2 G2 M2 hI' (hX1.keep hF2) hM2 hm2) (fun h => absurd rfl h)
theorem lc_9 (hi : i + 4 ≤ N) (hN : N ≤ 256) (K : KK nm N xs i) {a : AS} {F : FT} {G : GT} (hI : InvA a) (hX : XR a F G) (hM : MR a F G) (hm : Mem M F G) : VB nm N xs i 371 [] M := by
  obtain ⟨r, a', hI', h6, h7⟩ := both_put (xs (i + 1)) (xs (i + 2)) a F G hI hX hM hm.2.2
  refine VL_aload_n dL_law_371 rfl ?_
  refine VB_arg 1 rfl (by omega) hN dL_law_372 dL_law_373 dL_law_374 dL_law_375 dL_law_376 ?_
  refine VB_arg 2 rfl (by omega) hN dL_law_377 dL_law_378 dL_law_379 dL_law_380 dL_law_381 ?_
  refine VB_call6 (av := [.int (xs (i + 1)), .int (xs (i + 2))]) lL_52 rfl hm h6 rfl dL_law_382 rfl ?_
  intro M1 F1 G1 hm1 hX1 hF1
  refine VL_aload_n dL_law_385 rfl ?_
  refine VB_arg 1 rfl (by omega) hN dL_law_386 dL_law_387 dL_law_388 dL_law_389 dL_law_390 ?_
  refine VB_arg 2 rfl (by omega) hN dL_law_391 dL_law_392 dL_law_393 dL_law_394 dL_law_395 ?_
  refine VB_call7 (av := [.int (xs (i + 1)), .int (xs (i + 2))]) lL_55 rfl hm1 (h7 F1 G1 (hM.keep hF1)) rfl dL_law_396 rfl ?_
  intro M2 F2 G2 hm2 hM2 hF2
  exact VL_icmp_eq 901 dL_law_399 (by decide) (fun _ => K a' F2 G2 M2 hI' (hX1.keep hF2) hM2 hm2) (fun h => absurd rfl h)
theorem lc_10 (hi : i + 4 ≤ N) (hN : N ≤ 256) (K : KK nm N xs i) {a : AS} {F : FT} {G : GT} (hI : InvA a) (hX : XR a F G) (hM : MR a F G) (hm : Mem M F G) : VB nm N xs i 404 [] M := by
  obtain ⟨r, a', hI', h6, h7⟩ := both_lift (xs (i + 1)) a F G hI hX hM hm.2.2
  refine VL_aload_n dL_law_404 rfl ?_
  refine VB_arg 1 rfl (by omega) hN dL_law_405 dL_law_406 dL_law_407 dL_law_408 dL_law_409 ?_
  refine VB_call6 (av := [.int (xs (i + 1))]) lL_56 rfl hm h6 rfl dL_law_410 rfl ?_
  intro M1 F1 G1 hm1 hX1 hF1
  refine VL_aload_n dL_law_413 rfl ?_
  refine VB_arg 1 rfl (by omega) hN dL_law_414 dL_law_415 dL_law_416 dL_law_417 dL_law_418 ?_
  refine VB_call7 (av := [.int (xs (i + 1))]) lL_59 rfl hm1 (h7 F1 G1 (hM.keep hF1)) rfl dL_law_419 rfl ?_
  intro M2 F2 G2 hm2 hM2 hF2
  exact VL_icmp_eq 901 dL_law_422 (by decide) (fun _ => K a' F2 G2 M2 hI' (hX1.keep hF2) hM2 hm2) (fun h => absurd rfl h)
theorem lc_11 (hi : i + 4 ≤ N) (hN : N ≤ 256) (K : KK nm N xs i) {a : AS} {F : FT} {G : GT} (hI : InvA a) (hX : XR a F G) (hM : MR a F G) (hm : Mem M F G) : VB nm N xs i 427 [] M := by
  obtain ⟨r, a', hI', h6, h7⟩ := both_knot (xs (i + 1)) (xs (i + 2)) (xs (i + 3)) a F G hI hX hM hm.2.2
  refine VL_aload_n dL_law_427 rfl ?_
  refine VB_arg 1 rfl (by omega) hN dL_law_428 dL_law_429 dL_law_430 dL_law_431 dL_law_432 ?_
  refine VB_arg 2 rfl (by omega) hN dL_law_433 dL_law_434 dL_law_435 dL_law_436 dL_law_437 ?_
  refine VB_arg 3 rfl (by omega) hN dL_law_438 dL_law_439 dL_law_440 dL_law_441 dL_law_442 ?_
  refine VB_call6 (av := [.int (xs (i + 1)), .int (xs (i + 2)), .int (xs (i + 3))]) lL_60 rfl hm h6 rfl dL_law_443 rfl ?_
  intro M1 F1 G1 hm1 hX1 hF1
  refine VL_aload_n dL_law_446 rfl ?_
  refine VB_arg 1 rfl (by omega) hN dL_law_447 dL_law_448 dL_law_449 dL_law_450 dL_law_451 ?_
  refine VB_arg 2 rfl (by omega) hN dL_law_452 dL_law_453 dL_law_454 dL_law_455 dL_law_456 ?_
  refine VB_arg 3 rfl (by omega) hN dL_law_457 dL_law_458 dL_law_459 dL_law_460 dL_law_461 ?_
  refine VB_call7 (av := [.int (xs (i + 1)), .int (xs (i + 2)), .int (xs (i + 3))]) lL_64 rfl hm1 (h7 F1 G1 (hM.keep hF1)) rfl dL_law_462 rfl ?_
  intro M2 F2 G2 hm2 hM2 hF2
  exact VL_icmp_eq 901 dL_law_465 (by decide) (fun _ => K a' F2 G2 M2 hI' (hX1.keep hF2) hM2 hm2) (fun h => absurd rfl h)
theorem lc_12 (hi : i + 4 ≤ N) (hN : N ≤ 256) (K : KK nm N xs i) {a : AS} {F : FT} {G : GT} (hI : InvA a) (hX : XR a F G) (hM : MR a F G) (hm : Mem M F G) : VB nm N xs i 470 [] M := by
  obtain ⟨r, a', hI', h6, h7⟩ := both_dye (xs (i + 1)) (xs (i + 2)) a F G hI hX hM hm.2.2
  refine VL_aload_n dL_law_470 rfl ?_
  refine VB_arg 1 rfl (by omega) hN dL_law_471 dL_law_472 dL_law_473 dL_law_474 dL_law_475 ?_
  refine VB_arg 2 rfl (by omega) hN dL_law_476 dL_law_477 dL_law_478 dL_law_479 dL_law_480 ?_
  refine VB_call6 (av := [.int (xs (i + 1)), .int (xs (i + 2))]) lL_65 rfl hm h6 rfl dL_law_481 rfl ?_
  intro M1 F1 G1 hm1 hX1 hF1
  refine VL_aload_n dL_law_484 rfl ?_
  refine VB_arg 1 rfl (by omega) hN dL_law_485 dL_law_486 dL_law_487 dL_law_488 dL_law_489 ?_
  refine VB_arg 2 rfl (by omega) hN dL_law_490 dL_law_491 dL_law_492 dL_law_493 dL_law_494 ?_
  refine VB_call7 (av := [.int (xs (i + 1)), .int (xs (i + 2))]) lL_68 rfl hm1 (h7 F1 G1 (hM.keep hF1)) rfl dL_law_495 rfl ?_
  intro M2 F2 G2 hm2 hM2 hF2
  exact VL_icmp_eq 901 dL_law_498 (by decide) (fun _ => K a' F2 G2 M2 hI' (hX1.keep hF2) hM2 hm2) (fun h => absurd rfl h)
theorem lc_13 (hi : i + 4 ≤ N) (hN : N ≤ 256) (K : KK nm N xs i) {a : AS} {F : FT} {G : GT} (hI : InvA a) (hX : XR a F G) (hM : MR a F G) (hm : Mem M F G) : VB nm N xs i 503 [] M := by
  obtain ⟨r, a', hI', h6, h7⟩ := both_go (xs (i + 1)) a F G hI hX hM hm.2.2
  refine VL_aload_n dL_law_503 rfl ?_
  refine VB_arg 1 rfl (by omega) hN dL_law_504 dL_law_505 dL_law_506 dL_law_507 dL_law_508 ?_
  refine VB_call6 (av := [.int (xs (i + 1))]) lL_69 rfl hm h6 rfl dL_law_509 rfl ?_
  intro M1 F1 G1 hm1 hX1 hF1
  refine VL_aload_n dL_law_512 rfl ?_
  refine VB_arg 1 rfl (by omega) hN dL_law_513 dL_law_514 dL_law_515 dL_law_516 dL_law_517 ?_
  refine VB_call7 (av := [.int (xs (i + 1))]) lL_72 rfl hm1 (h7 F1 G1 (hM.keep hF1)) rfl dL_law_518 rfl ?_
  intro M2 F2 G2 hm2 hM2 hF2
  exact VL_icmp_eq 901 dL_law_521 (by decide) (fun _ => K a' F2 G2 M2 hI' (hX1.keep hF2) hM2 hm2) (fun h => absurd rfl h)
theorem lc_14 (hi : i + 4 ≤ N) (hN : N ≤ 256) (K : KK nm N xs i) {a : AS} {F : FT} {G : GT} (hI : InvA a) (hX : XR a F G) (hM : MR a F G) (hm : Mem M F G) : VB nm N xs i 526 [] M := by
  obtain ⟨r, a', hI', h6, h7⟩ := both_undo  a F G hI hX hM hm.2.2
  refine VL_aload_n dL_law_526 rfl ?_
  refine VB_call6 (av := []) lL_73 rfl hm h6 rfl dL_law_527 rfl ?_
  intro M1 F1 G1 hm1 hX1 hF1
  refine VL_aload_n dL_law_530 rfl ?_
  refine VB_call7 (av := []) lL_76 rfl hm1 (h7 F1 G1 (hM.keep hF1)) rfl dL_law_531 rfl ?_
  intro M2 F2 G2 hm2 hM2 hF2
  exact VL_icmp_eq 901 dL_law_534 (by decide) (fun _ => K a' F2 G2 M2 hI' (hX1.keep hF2) hM2 hm2) (fun h => absurd rfl h)
theorem lc_15 (hi : i + 4 ≤ N) (hN : N ≤ 256) (K : KK nm N xs i) {a : AS} {F : FT} {G : GT} (hI : InvA a) (hX : XR a F G) (hM : MR a F G) (hm : Mem M F G) : VB nm N xs i 539 [] M := by
  obtain ⟨r, a', hI', h6, h7⟩ := both_keep (xs (i + 1)) a F G hI hX hM hm.2.2
  refine VL_aload_n dL_law_539 rfl ?_
  refine VB_arg 1 rfl (by omega) hN dL_law_540 dL_law_541 dL_law_542 dL_law_543 dL_law_544 ?_
  refine VB_call6 (av := [.int (xs (i + 1))]) lL_77 rfl hm h6 rfl dL_law_545 rfl ?_
  intro M1 F1 G1 hm1 hX1 hF1
  refine VL_aload_n dL_law_548 rfl ?_
  refine VB_arg 1 rfl (by omega) hN dL_law_549 dL_law_550 dL_law_551 dL_law_552 dL_law_553 ?_
  refine VB_call7 (av := [.int (xs (i + 1))]) lL_80 rfl hm1 (h7 F1 G1 (hM.keep hF1)) rfl dL_law_554 rfl ?_
  intro M2 F2 G2 hm2 hM2 hF2
  exact VL_icmp_eq 901 dL_law_557 (by decide) (fun _ => K a' F2 G2 M2 hI' (hX1.keep hF2) hM2 hm2) (fun h => absurd rfl h)
theorem lc_16 (hi : i + 4 ≤ N) (hN : N ≤ 256) (K : KK nm N xs i) {a : AS} {F : FT} {G : GT} (hI : InvA a) (hX : XR a F G) (hM : MR a F G) (hm : Mem M F G) : VB nm N xs i 562 [] M := by
  obtain ⟨r, a', hI', h6, h7⟩ := both_back (xs (i + 1)) a F G hI hX hM hm.2.2
  refine VL_aload_n dL_law_562 rfl ?_
  refine VB_arg 1 rfl (by omega) hN dL_law_563 dL_law_564 dL_law_565 dL_law_566 dL_law_567 ?_
  refine VB_call6 (av := [.int (xs (i + 1))]) lL_81 rfl hm h6 rfl dL_law_568 rfl ?_
  intro M1 F1 G1 hm1 hX1 hF1
  refine VL_aload_n dL_law_571 rfl ?_
  refine VB_arg 1 rfl (by omega) hN dL_law_572 dL_law_573 dL_law_574 dL_law_575 dL_law_576 ?_
  refine VB_call7 (av := [.int (xs (i + 1))]) lL_84 rfl hm1 (h7 F1 G1 (hM.keep hF1)) rfl dL_law_577 rfl ?_
  intro M2 F2 G2 hm2 hM2 hF2
  exact VL_icmp_eq 901 dL_law_580 (by decide) (fun _ => K a' F2 G2 M2 hI' (hX1.keep hF2) hM2 hm2) (fun h => absurd rfl h)
theorem lc_17 (hi : i + 4 ≤ N) (hN : N ≤ 256) (K : KK nm N xs i) {a : AS} {F : FT} {G : GT} (hI : InvA a) (hX : XR a F G) (hM : MR a F G) (hm : Mem M F G) : VB nm N xs i 585 [] M := by
  obtain ⟨r, a', hI', h6, h7⟩ := both_takes (xs (i + 1)) a F G hI hX hM hm.2.2
  refine VL_aload_n dL_law_585 rfl ?_
  refine VB_arg 1 rfl (by omega) hN dL_law_586 dL_law_587 dL_law_588 dL_law_589 dL_law_590 ?_
  refine VB_call6 (av := [.int (xs (i + 1))]) lL_85 rfl hm h6 rfl dL_law_591 rfl ?_
  intro M1 F1 G1 hm1 hX1 hF1
  refine VL_aload_n dL_law_594 rfl ?_
  refine VB_arg 1 rfl (by omega) hN dL_law_595 dL_law_596 dL_law_597 dL_law_598 dL_law_599 ?_
  refine VB_call7 (av := [.int (xs (i + 1))]) lL_88 rfl hm1 (h7 F1 G1 (hM.keep hF1)) rfl dL_law_600 rfl ?_
  intro M2 F2 G2 hm2 hM2 hF2
  exact VL_icmp_eq 901 dL_law_603 (by decide) (fun _ => K a' F2 G2 M2 hI' (hX1.keep hF2) hM2 hm2) (fun h => absurd rfl h)
theorem lc_18 (hi : i + 4 ≤ N) (hN : N ≤ 256) (K : KK nm N xs i) {a : AS} {F : FT} {G : GT} (hI : InvA a) (hX : XR a F G) (hM : MR a F G) (hm : Mem M F G) : VB nm N xs i 608 [] M := by
  obtain ⟨r, a', hI', h6, h7⟩ := both_loss (xs (i + 1)) a F G hI hX hM hm.2.2
  refine VL_aload_n dL_law_608 rfl ?_
  refine VB_arg 1 rfl (by omega) hN dL_law_609 dL_law_610 dL_law_611 dL_law_612 dL_law_613 ?_
  refine VB_call6 (av := [.int (xs (i + 1))]) lL_89 rfl hm h6 rfl dL_law_614 rfl ?_
  intro M1 F1 G1 hm1 hX1 hF1
  refine VL_aload_n dL_law_617 rfl ?_
  refine VB_arg 1 rfl (by omega) hN dL_law_618 dL_law_619 dL_law_620 dL_law_621 dL_law_622 ?_
  refine VB_call7 (av := [.int (xs (i + 1))]) lL_92 rfl hm1 (h7 F1 G1 (hM.keep hF1)) rfl dL_law_623 rfl ?_
  intro M2 F2 G2 hm2 hM2 hF2
  exact VL_icmp_eq 901 dL_law_626 (by decide) (fun _ => K a' F2 G2 M2 hI' (hX1.keep hF2) hM2 hm2) (fun h => absurd rfl h)
theorem lc_19 (hi : i + 4 ≤ N) (hN : N ≤ 256) (K : KK nm N xs i) {a : AS} {F : FT} {G : GT} (hI : InvA a) (hX : XR a F G) (hM : MR a F G) (hm : Mem M F G) : VB nm N xs i 631 [] M := by
  obtain ⟨r, a', hI', h6, h7⟩ := both_lifts (xs (i + 1)) (xs (i + 2)) a F G hI hX hM hm.2.2
  refine VL_aload_n dL_law_631 rfl ?_
  refine VB_arg 1 rfl (by omega) hN dL_law_632 dL_law_633 dL_law_634 dL_law_635 dL_law_636 ?_
  refine VB_arg 2 rfl (by omega) hN dL_law_637 dL_law_638 dL_law_639 dL_law_640 dL_law_641 ?_
  refine VB_call6 (av := [.int (xs (i + 1)), .int (xs (i + 2))]) lL_93 rfl hm h6 rfl dL_law_642 rfl ?_
  intro M1 F1 G1 hm1 hX1 hF1
  refine VL_aload_n dL_law_645 rfl ?_
  refine VB_arg 1 rfl (by omega) hN dL_law_646 dL_law_647 dL_law_648 dL_law_649 dL_law_650 ?_
  refine VB_arg 2 rfl (by omega) hN dL_law_651 dL_law_652 dL_law_653 dL_law_654 dL_law_655 ?_
  refine VB_call7 (av := [.int (xs (i + 1)), .int (xs (i + 2))]) lL_96 rfl hm1 (h7 F1 G1 (hM.keep hF1)) rfl dL_law_656 rfl ?_
  intro M2 F2 G2 hm2 hM2 hF2
  exact VL_icmp_eq 901 dL_law_659 (by decide) (fun _ => K a' F2 G2 M2 hI' (hX1.keep hF2) hM2 hm2) (fun h => absurd rfl h)
theorem lc_20 (hi : i + 4 ≤ N) (hN : N ≤ 256) (K : KK nm N xs i) {a : AS} {F : FT} {G : GT} (hI : InvA a) (hX : XR a F G) (hM : MR a F G) (hm : Mem M F G) : VB nm N xs i 664 [] M := by
  obtain ⟨r, a', hI', h6, h7⟩ := both_doom (xs (i + 1)) a F G hI hX hM hm.2.2
  refine VL_aload_n dL_law_664 rfl ?_
  refine VB_arg 1 rfl (by omega) hN dL_law_665 dL_law_666 dL_law_667 dL_law_668 dL_law_669 ?_
  refine VB_call6 (av := [.int (xs (i + 1))]) lL_97 rfl hm h6 rfl dL_law_670 rfl ?_
  intro M1 F1 G1 hm1 hX1 hF1
  refine VL_aload_n dL_law_673 rfl ?_
  refine VB_arg 1 rfl (by omega) hN dL_law_674 dL_law_675 dL_law_676 dL_law_677 dL_law_678 ?_
  refine VB_call7 (av := [.int (xs (i + 1))]) lL_100 rfl hm1 (h7 F1 G1 (hM.keep hF1)) rfl dL_law_679 rfl ?_
  intro M2 F2 G2 hm2 hM2 hF2
  exact VL_icmp_eq 901 dL_law_682 (by decide) (fun _ => K a' F2 G2 M2 hI' (hX1.keep hF2) hM2 hm2) (fun h => absurd rfl h)
theorem lc_21 (hi : i + 4 ≤ N) (hN : N ≤ 256) (K : KK nm N xs i) {a : AS} {F : FT} {G : GT} (hI : InvA a) (hX : XR a F G) (hM : MR a F G) (hm : Mem M F G) : VB nm N xs i 687 [] M := by
  obtain ⟨r, a', hI', h6, h7⟩ := both_swapped (xs (i + 1)) a F G hI hX hM hm.2.2
  refine VL_aload_n dL_law_687 rfl ?_
  refine VB_arg 1 rfl (by omega) hN dL_law_688 dL_law_689 dL_law_690 dL_law_691 dL_law_692 ?_
  refine VB_call6 (av := [.int (xs (i + 1))]) lL_101 rfl hm h6 rfl dL_law_693 rfl ?_
  intro M1 F1 G1 hm1 hX1 hF1
  refine VL_aload_n dL_law_696 rfl ?_
  refine VB_arg 1 rfl (by omega) hN dL_law_697 dL_law_698 dL_law_699 dL_law_700 dL_law_701 ?_
  refine VB_call7 (av := [.int (xs (i + 1))]) lL_104 rfl hm1 (h7 F1 G1 (hM.keep hF1)) rfl dL_law_702 rfl ?_
  intro M2 F2 G2 hm2 hM2 hF2
  exact VL_icmp_eq 901 dL_law_705 (by decide) (fun _ => K a' F2 G2 M2 hI' (hX1.keep hF2) hM2 hm2) (fun h => absurd rfl h)
theorem lc_22 (hi : i + 4 ≤ N) (hN : N ≤ 256) (K : KK nm N xs i) {a : AS} {F : FT} {G : GT} (hI : InvA a) (hX : XR a F G) (hM : MR a F G) (hm : Mem M F G) : VB nm N xs i 710 [] M := by
  obtain ⟨r, a', hI', h6, h7⟩ := both_tails (xs (i + 1)) a F G hI hX hM hm.2.2
  refine VL_aload_n dL_law_710 rfl ?_
  refine VB_arg 1 rfl (by omega) hN dL_law_711 dL_law_712 dL_law_713 dL_law_714 dL_law_715 ?_
  refine VB_call6 (av := [.int (xs (i + 1))]) lL_105 rfl hm h6 rfl dL_law_716 rfl ?_
  intro M1 F1 G1 hm1 hX1 hF1
  refine VL_aload_n dL_law_719 rfl ?_
  refine VB_arg 1 rfl (by omega) hN dL_law_720 dL_law_721 dL_law_722 dL_law_723 dL_law_724 ?_
  refine VB_call7 (av := [.int (xs (i + 1))]) lL_108 rfl hm1 (h7 F1 G1 (hM.keep hF1)) rfl dL_law_725 rfl ?_
  intro M2 F2 G2 hm2 hM2 hF2
  exact VL_icmp_eq 901 dL_law_728 (by decide) (fun _ => K a' F2 G2 M2 hI' (hX1.keep hF2) hM2 hm2) (fun h => absurd rfl h)
theorem lc_23 (hi : i + 4 ≤ N) (hN : N ≤ 256) (K : KK nm N xs i) {a : AS} {F : FT} {G : GT} (hI : InvA a) (hX : XR a F G) (hM : MR a F G) (hm : Mem M F G) : VB nm N xs i 733 [] M := by
  obtain ⟨r, a', hI', h6, h7⟩ := both_given (xs (i + 1)) (xs (i + 2)) (xs (i + 3)) a F G hI hX hM hm.2.2
  refine VL_aload_n dL_law_733 rfl ?_
  refine VB_arg 1 rfl (by omega) hN dL_law_734 dL_law_735 dL_law_736 dL_law_737 dL_law_738 ?_
  refine VB_arg 2 rfl (by omega) hN dL_law_739 dL_law_740 dL_law_741 dL_law_742 dL_law_743 ?_
  refine VB_arg 3 rfl (by omega) hN dL_law_744 dL_law_745 dL_law_746 dL_law_747 dL_law_748 ?_
  refine VB_call6 (av := [.int (xs (i + 1)), .int (xs (i + 2)), .int (xs (i + 3))]) lL_109 rfl hm h6 rfl dL_law_749 rfl ?_
  intro M1 F1 G1 hm1 hX1 hF1
  refine VL_aload_n dL_law_752 rfl ?_
  refine VB_arg 1 rfl (by omega) hN dL_law_753 dL_law_754 dL_law_755 dL_law_756 dL_law_757 ?_
  refine VB_arg 2 rfl (by omega) hN dL_law_758 dL_law_759 dL_law_760 dL_law_761 dL_law_762 ?_
  refine VB_arg 3 rfl (by omega) hN dL_law_763 dL_law_764 dL_law_765 dL_law_766 dL_law_767 ?_
  refine VB_call7 (av := [.int (xs (i + 1)), .int (xs (i + 2)), .int (xs (i + 3))]) lL_112 rfl hm1 (h7 F1 G1 (hM.keep hF1)) rfl dL_law_768 rfl ?_
  intro M2 F2 G2 hm2 hM2 hF2
  exact VL_icmp_eq 901 dL_law_771 (by decide) (fun _ => K a' F2 G2 M2 hI' (hX1.keep hF2) hM2 hm2) (fun h => absurd rfl h)
theorem lc_24 (hi : i + 4 ≤ N) (hN : N ≤ 256) (K : KK nm N xs i) {a : AS} {F : FT} {G : GT} (hI : InvA a) (hX : XR a F G) (hM : MR a F G) (hm : Mem M F G) : VB nm N xs i 776 [] M := by
  obtain ⟨r, a', hI', h6, h7⟩ := both_cat (xs (i + 1)) (xs (i + 2)) a F G hI hX hM hm.2.2
  refine VL_aload_n dL_law_776 rfl ?_
  refine VB_arg 1 rfl (by omega) hN dL_law_777 dL_law_778 dL_law_779 dL_law_780 dL_law_781 ?_
  refine VB_arg 2 rfl (by omega) hN dL_law_782 dL_law_783 dL_law_784 dL_law_785 dL_law_786 ?_
  refine VB_call6 (av := [.int (xs (i + 1)), .int (xs (i + 2))]) lL_113 rfl hm h6 rfl dL_law_787 rfl ?_
  intro M1 F1 G1 hm1 hX1 hF1
  refine VL_aload_n dL_law_790 rfl ?_
  refine VB_arg 1 rfl (by omega) hN dL_law_791 dL_law_792 dL_law_793 dL_law_794 dL_law_795 ?_
  refine VB_arg 2 rfl (by omega) hN dL_law_796 dL_law_797 dL_law_798 dL_law_799 dL_law_800 ?_
  refine VB_call7 (av := [.int (xs (i + 1)), .int (xs (i + 2))]) lL_116 rfl hm1 (h7 F1 G1 (hM.keep hF1)) rfl dL_law_801 rfl ?_
  intro M2 F2 G2 hm2 hM2 hF2
  exact VL_icmp_eq 901 dL_law_804 (by decide) (fun _ => K a' F2 G2 M2 hI' (hX1.keep hF2) hM2 hm2) (fun h => absurd rfl h)
theorem lc_25 (hi : i + 4 ≤ N) (hN : N ≤ 256) (K : KK nm N xs i) {a : AS} {F : FT} {G : GT} (hI : InvA a) (hX : XR a F G) (hM : MR a F G) (hm : Mem M F G) : VB nm N xs i 809 [] M := by
  obtain ⟨r, a', hI', h6, h7⟩ := both_mean (xs (i + 1)) a F G hI hX hM hm.2.2
  refine VL_aload_n dL_law_809 rfl ?_
  refine VB_arg 1 rfl (by omega) hN dL_law_810 dL_law_811 dL_law_812 dL_law_813 dL_law_814 ?_
  refine VB_call6 (av := [.int (xs (i + 1))]) lL_117 rfl hm h6 rfl dL_law_815 rfl ?_
  intro M1 F1 G1 hm1 hX1 hF1
  refine VL_aload_n dL_law_818 rfl ?_
  refine VB_arg 1 rfl (by omega) hN dL_law_819 dL_law_820 dL_law_821 dL_law_822 dL_law_823 ?_
  refine VB_call7 (av := [.int (xs (i + 1))]) lL_120 rfl hm1 (h7 F1 G1 (hM.keep hF1)) rfl dL_law_824 rfl ?_
  intro M2 F2 G2 hm2 hM2 hF2
  exact VL_icmp_eq 901 dL_law_827 (by decide) (fun _ => K a' F2 G2 M2 hI' (hX1.keep hF2) hM2 hm2) (fun h => absurd rfl h)
theorem lc_26 (hi : i + 4 ≤ N) (hN : N ≤ 256) (K : KK nm N xs i) {a : AS} {F : FT} {G : GT} (hI : InvA a) (hX : XR a F G) (hM : MR a F G) (hm : Mem M F G) : VB nm N xs i 832 [] M := by
  obtain ⟨r, a', hI', h6, h7⟩ := both_whose (xs (i + 1)) a F G hI hX hM hm.2.2
  refine VL_aload_n dL_law_832 rfl ?_
  refine VB_arg 1 rfl (by omega) hN dL_law_833 dL_law_834 dL_law_835 dL_law_836 dL_law_837 ?_
  refine VB_call6 (av := [.int (xs (i + 1))]) lL_121 rfl hm h6 rfl dL_law_838 rfl ?_
  intro M1 F1 G1 hm1 hX1 hF1
  refine VL_aload_n dL_law_841 rfl ?_
  refine VB_arg 1 rfl (by omega) hN dL_law_842 dL_law_843 dL_law_844 dL_law_845 dL_law_846 ?_
  refine VB_call7 (av := [.int (xs (i + 1))]) lL_124 rfl hm1 (h7 F1 G1 (hM.keep hF1)) rfl dL_law_847 rfl ?_
  intro M2 F2 G2 hm2 hM2 hF2
  exact VL_icmp_eq 901 dL_law_850 (by decide) (fun _ => K a' F2 G2 M2 hI' (hX1.keep hF2) hM2 hm2) (fun h => absurd rfl h)
theorem lc_27 (hi : i + 4 ≤ N) (hN : N ≤ 256) (K : KK nm N xs i) {a : AS} {F : FT} {G : GT} (hI : InvA a) (hX : XR a F G) (hM : MR a F G) (hm : Mem M F G) : VB nm N xs i 855 [] M := by
  obtain ⟨r, a', hI', h6, h7⟩ := both_fourth (xs (i + 1)) a F G hI hX hM hm.2.2
  refine VL_aload_n dL_law_855 rfl ?_
  refine VB_arg 1 rfl (by omega) hN dL_law_856 dL_law_857 dL_law_858 dL_law_859 dL_law_860 ?_
  refine VB_call6 (av := [.int (xs (i + 1))]) lL_125 rfl hm h6 rfl dL_law_861 rfl ?_
  intro M1 F1 G1 hm1 hX1 hF1
  refine VL_aload_n dL_law_864 rfl ?_
  refine VB_arg 1 rfl (by omega) hN dL_law_865 dL_law_866 dL_law_867 dL_law_868 dL_law_869 ?_
  refine VB_call7 (av := [.int (xs (i + 1))]) lL_128 rfl hm1 (h7 F1 G1 (hM.keep hF1)) rfl dL_law_870 rfl ?_
  intro M2 F2 G2 hm2 hM2 hF2
  exact VL_icmp_eq 901 dL_law_873 (by decide) (fun _ => K a' F2 G2 M2 hI' (hX1.keep hF2) hM2 hm2) (fun h => absurd rfl h)
theorem lc_28 (hi : i + 4 ≤ N) (hN : N ≤ 256) (K : KK nm N xs i) {a : AS} {F : FT} {G : GT} (hI : InvA a) (hX : XR a F G) (hM : MR a F G) (hm : Mem M F G) : VB nm N xs i 878 [] M := by
  obtain ⟨r, a', hI', h6, h7⟩ := both_count (xs (i + 1)) a F G hI hX hM hm.2.2
  refine VL_aload_n dL_law_878 rfl ?_
  refine VB_arg 1 rfl (by omega) hN dL_law_879 dL_law_880 dL_law_881 dL_law_882 dL_law_883 ?_
  refine VB_call6 (av := [.int (xs (i + 1))]) lL_129 rfl hm h6 rfl dL_law_884 rfl ?_
  intro M1 F1 G1 hm1 hX1 hF1
  refine VL_aload_n dL_law_887 rfl ?_
  refine VB_arg 1 rfl (by omega) hN dL_law_888 dL_law_889 dL_law_890 dL_law_891 dL_law_892 ?_
  refine VB_call7 (av := [.int (xs (i + 1))]) lL_132 rfl hm1 (h7 F1 G1 (hM.keep hF1)) rfl dL_law_893 rfl ?_
  intro M2 F2 G2 hm2 hM2 hF2
  exact VL_icmp_eq 901 dL_law_896 (by decide) (fun _ => K a' F2 G2 M2 hI' (hX1.keep hF2) hM2 hm2) (fun h => absurd rfl h)
end LC
