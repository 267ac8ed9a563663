/-! the law, call by call -/
def mLw (xx : String × List (Nat × Nat × Nat × Nat)) : AMM := (⟨RL, xx.1, "([I)Z"⟩, cL_law, 8, some .boolean, xx.2)
theorem az_ci {qz : Nat × (Nat → Int)} {M : AMM} {d mc ms pc nx n : Nat} {K : AO → Nat → AH → Prop} {ls rest : List AV} {h : AH} {v : AV} (k : AZ qz M d mc ms K n nx ls (v :: rest) h) : az_cont qz M d mc ms K pc nx ls rest (.inl (some v)) n h := k
theorem az_cv {qz : Nat × (Nat → Int)} {M : AMM} {d mc ms pc nx n : Nat} {K : AO → Nat → AH → Prop} {ls rest : List AV} {h : AH} (k : AZ qz M d mc ms K n nx ls rest h) : az_cont qz M d mc ms K pc nx ls rest (.inl none) n h := k
/-- the script's numbers -/
def LQ (qz : Nat × (Nat → Int)) : Prop := qz.1 ≤ 3072 ∧ ∀ j : Nat, -2147483648 ≤ qz.2 j ∧ qz.2 j < 2147483648
/-- behind a call -/
def LJ (xx : String × List (Nat × Nat × Nat × Nat)) (qz : Nat × (Nat → Int)) (mc ms : Nat) (K : AO → Nat → AH → Prop) (i : Int) : Prop := ∀ (h : AH) (v6 v7 : AV) (mc' ms' : Nat), LI h → am_n2 v6 = true → mc ≤ mc' + 3 → ms ≤ ms' + 18 → AZ qz (mLw xx) 20 mc' ms' K 159 1999 [(2, 3000), (2, 0), (2, 140), (2, 157), (2, 158), (0, i), v6, v7] [] h
theorem lc_append {xx : String × List (Nat × Nat × Nat × Nat)} {qz : Nat × (Nat → Int)} {mc ms : Nat} {K : AO → Nat → AH → Prop} {i : Int} {v6 v7 : AV} {h : AH} (hz : LQ qz) (hi : 0 ≤ i ∧ i + 6 ≤ qz.1) (hm : 3 ≤ mc ∧ 18 ≤ ms) (hL : LI h) (h6 : am_n2 v6 = true) (J : LJ xx qz mc ms K i) : AZ qz (mLw xx) 20 mc ms K 159 180 [(2, 3000), (2, 0), (2, 140), (2, 157), (2, 158), (0, i), v6, v7] [] h := by
  obtain ⟨hQ, hq⟩ := hz
  refine za_al1 (by decide) dL_law_180 ?_
  refine za_alX0 (by decide) dL_law_181 ?_
  refine za_il5 dL_law_182 ?_
  refine zaw_iconst dL_law_184 (by decide) ?_
  refine zaw_iaddR (by omega) dL_law_185 ?_
  refine zaw_sld hq dL_law_186 (by omega) ?_
  refine za_alX0 (by decide) dL_law_187 ?_
  refine za_il5 dL_law_188 ?_
  refine zaw_iconst dL_law_190 (by decide) ?_
  refine zaw_iaddR (by omega) dL_law_191 ?_
  refine zaw_sld hq dL_law_192 (by omega) ?_
  refine za_alX0 (by decide) dL_law_193 ?_
  refine za_il5 dL_law_194 ?_
  refine zaw_iconst dL_law_196 (by decide) ?_
  refine zaw_iaddR (by omega) dL_law_197 ?_
  refine zaw_sld hq dL_law_198 (by omega) ?_
  refine za_alX0 (by decide) dL_law_199 ?_
  refine za_il5 dL_law_200 ?_
  refine zaw_iconst dL_law_202 (by decide) ?_
  refine zaw_iaddR (by omega) dL_law_203 ?_
  refine zaw_sld hq dL_law_204 (by omega) ?_
  refine za_alX0 (by decide) dL_law_205 ?_
  refine za_il5 dL_law_206 ?_
  refine zaw_iconst dL_law_208 (by decide) ?_
  refine zaw_iaddR (by omega) dL_law_209 ?_
  refine zaw_sld hq dL_law_210 (by omega) ?_
  refine za_al3 (by decide) dL_law_211 ?_
  refine zaw_callX 7 1 6 dL_law_212 yw_L_append ml_L_109 sm_L_append (as := [_, _, _, _, _, _, _]) rfl rfl ⟨by decide, by omega, by omega, Nat.le_of_ble_eq_true rfl⟩ ?_
  refine ag_append hL (fun k v h1 e ag => ?_)
  refine az_ci ?_
  refine za_is6 rfl rfl dL_law_215 ?_
  refine za_al2 (by decide) dL_law_217 ?_
  refine za_alX0 (by decide) dL_law_218 ?_
  refine za_il5 dL_law_219 ?_
  refine zaw_iconst dL_law_221 (by decide) ?_
  refine zaw_iaddR (by omega) dL_law_222 ?_
  refine zaw_sld hq dL_law_223 (by omega) ?_
  refine za_alX0 (by decide) dL_law_224 ?_
  refine za_il5 dL_law_225 ?_
  refine zaw_iconst dL_law_227 (by decide) ?_
  refine zaw_iaddR (by omega) dL_law_228 ?_
  refine zaw_sld hq dL_law_229 (by omega) ?_
  refine za_alX0 (by decide) dL_law_230 ?_
  refine za_il5 dL_law_231 ?_
  refine zaw_iconst dL_law_233 (by decide) ?_
  refine zaw_iaddR (by omega) dL_law_234 ?_
  refine zaw_sld hq dL_law_235 (by omega) ?_
  refine za_alX0 (by decide) dL_law_236 ?_
  refine za_il5 dL_law_237 ?_
  refine zaw_iconst dL_law_239 (by decide) ?_
  refine zaw_iaddR (by omega) dL_law_240 ?_
  refine zaw_sld hq dL_law_241 (by omega) ?_
  refine za_alX0 (by decide) dL_law_242 ?_
  refine za_il5 dL_law_243 ?_
  refine zaw_iconst dL_law_245 (by decide) ?_
  refine zaw_iaddR (by omega) dL_law_246 ?_
  refine zaw_sld hq dL_law_247 (by omega) ?_
  refine zaw_callV 2 0 0 dL_law_248 yw_X9_append ml_L_114 in_X9_append se_X9_append (ci := 8) rfl at_140 (as := [_, _, _, _, _]) rfl rfl ⟨by decide, by omega, by omega, Nat.le_of_ble_eq_true rfl⟩ ?_
  refine ag _ (fun b h2 e7 eb e0 l2 => ?_)
  refine az_ci ?_
  refine za_is7 rfl rfl dL_law_251 ?_
  refine za_al2 (by decide) dL_law_253 ?_
  refine zaw_callV 1 0 0 dL_law_254 yw_X9_thrown ml_L_115 in_X9_thrown se_X9_thrown (ci := 8) rfl at_140 (as := []) rfl rfl ⟨by decide, by omega, by omega, Nat.le_of_ble_eq_true rfl⟩ ?_
  refine ac_thrown ?_
  refine az_ci ?_
  refine za_il6 dL_law_257 ?_
  refine zaw_icmp_eq 264 dL_law_259 (by decide) (fun c259 => ?_) (fun c259 => ?_)
  · refine za_il6 dL_law_264 ?_
    refine zaw_if_ne 281 dL_law_266 (by decide) (fun c266 => ?_) (fun c266 => ?_)
    · refine zaw_goto 1999 dL_law_281 (by decide) ?_
      exact J h2 _ _ _ _ l2 rfl (by omega) (by omega)
    · have k0 : k = 0 := by omega
      have e1 : h2 157 0 = b := by rw [e0, e k0, eb k0]
      refine za_al3 (by decide) dL_law_269 ?_
      refine zaw_iconst dL_law_270 (by decide) ?_
      refine zaw_lald dL_law_271 ar_157 (by omega) ?_
      refine za_il7 dL_law_272 ?_
      refine zaw_i2l dL_law_274 ?_
      refine zaw_lcmp dL_law_275 ?_
      refine zaw_if_eq 281 dL_law_276 (by decide) (fun c276 => ?_) (fun c276 => ?_)
      · refine zaw_goto 1999 dL_law_281 (by decide) ?_
        exact J h2 _ _ _ _ l2 rfl (by omega) (by omega)
      · exfalso
        refine c276 ?_
        rw [if_neg (by omega), if_pos (by omega)]
  · exfalso
    omega
theorem lc_load {xx : String × List (Nat × Nat × Nat × Nat)} {qz : Nat × (Nat → Int)} {mc ms : Nat} {K : AO → Nat → AH → Prop} {i : Int} {v6 v7 : AV} {h : AH} (hz : LQ qz) (hi : 0 ≤ i ∧ i + 6 ≤ qz.1) (hm : 3 ≤ mc ∧ 18 ≤ ms) (hL : LI h) (h6 : am_n2 v6 = true) (J : LJ xx qz mc ms K i) : AZ qz (mLw xx) 20 mc ms K 159 284 [(2, 3000), (2, 0), (2, 140), (2, 157), (2, 158), (0, i), v6, v7] [] h := by
  obtain ⟨hQ, hq⟩ := hz
  refine za_al1 (by decide) dL_law_284 ?_
  refine zaw_callV 11 0 0 dL_law_285 yw_X8_load ml_L_118 in_X8_load se_X8_load (ci := 7) rfl at_0 (as := []) rfl rfl ⟨by decide, by omega, by omega, Nat.le_of_ble_eq_true rfl⟩ ?_
  refine ag_load hL (fun v h1 ag => ?_)
  refine az_ci ?_
  refine za_al2 (by decide) dL_law_288 ?_
  refine zaw_callV 9 0 0 dL_law_289 yw_X9_load ml_L_121 in_X9_load se_X9_load (ci := 8) rfl at_140 (as := []) rfl rfl ⟨by decide, by omega, by omega, Nat.le_of_ble_eq_true rfl⟩ ?_
  refine ag _ (fun b h2 eb l2 => ?_)
  refine az_ci ?_
  refine zaw_icmp_eq 1999 dL_law_292 (by decide) (fun c292 => ?_) (fun c292 => ?_)
  · skip
    exact J h2 _ _ _ _ l2 h6 (by omega) (by omega)
  · exfalso
    omega
theorem lc_errorPosition {xx : String × List (Nat × Nat × Nat × Nat)} {qz : Nat × (Nat → Int)} {mc ms : Nat} {K : AO → Nat → AH → Prop} {i : Int} {v6 v7 : AV} {h : AH} (hz : LQ qz) (hi : 0 ≤ i ∧ i + 6 ≤ qz.1) (hm : 3 ≤ mc ∧ 18 ≤ ms) (hL : LI h) (h6 : am_n2 v6 = true) (J : LJ xx qz mc ms K i) : AZ qz (mLw xx) 20 mc ms K 159 297 [(2, 3000), (2, 0), (2, 140), (2, 157), (2, 158), (0, i), v6, v7] [] h := by
  obtain ⟨hQ, hq⟩ := hz
  refine za_al1 (by decide) dL_law_297 ?_
  refine zaw_callV 2 0 0 dL_law_298 yw_X8_errorPosition ml_L_122 in_X8_errorPosition se_X8_errorPosition (ci := 7) rfl at_0 (as := []) rfl rfl ⟨by decide, by omega, by omega, Nat.le_of_ble_eq_true rfl⟩ ?_
  refine ag_errorPosition hL (fun v h1 ag => ?_)
  refine az_ci ?_
  refine za_al2 (by decide) dL_law_301 ?_
  refine zaw_callV 1 0 0 dL_law_302 yw_X9_errorPosition ml_L_125 in_X9_errorPosition se_X9_errorPosition (ci := 8) rfl at_140 (as := []) rfl rfl ⟨by decide, by omega, by omega, Nat.le_of_ble_eq_true rfl⟩ ?_
  refine ag _ (fun b h2 eb l2 => ?_)
  refine az_ci ?_
  refine zaw_icmp_eq 1999 dL_law_305 (by decide) (fun c305 => ?_) (fun c305 => ?_)
  · skip
    exact J h2 _ _ _ _ l2 h6 (by omega) (by omega)
  · exfalso
    omega
theorem lc_count {xx : String × List (Nat × Nat × Nat × Nat)} {qz : Nat × (Nat → Int)} {mc ms : Nat} {K : AO → Nat → AH → Prop} {i : Int} {v6 v7 : AV} {h : AH} (hz : LQ qz) (hi : 0 ≤ i ∧ i + 6 ≤ qz.1) (hm : 3 ≤ mc ∧ 18 ≤ ms) (hL : LI h) (h6 : am_n2 v6 = true) (J : LJ xx qz mc ms K i) : AZ qz (mLw xx) 20 mc ms K 159 310 [(2, 3000), (2, 0), (2, 140), (2, 157), (2, 158), (0, i), v6, v7] [] h := by
  obtain ⟨hQ, hq⟩ := hz
  refine za_al1 (by decide) dL_law_310 ?_
  refine za_alX0 (by decide) dL_law_311 ?_
  refine za_il5 dL_law_312 ?_
  refine zaw_iconst dL_law_314 (by decide) ?_
  refine zaw_iaddR (by omega) dL_law_315 ?_
  refine zaw_sld hq dL_law_316 (by omega) ?_
  refine za_al3 (by decide) dL_law_317 ?_
  refine zaw_callX 7 1 6 dL_law_318 yw_L_count ml_L_126 sm_L_count (as := [_, _, _]) rfl rfl ⟨by decide, by omega, by omega, Nat.le_of_ble_eq_true rfl⟩ ?_
  refine ag_count hL (fun k v h1 e ag => ?_)
  refine az_ci ?_
  refine za_is6 rfl rfl dL_law_321 ?_
  refine za_al2 (by decide) dL_law_323 ?_
  refine za_alX0 (by decide) dL_law_324 ?_
  refine za_il5 dL_law_325 ?_
  refine zaw_iconst dL_law_327 (by decide) ?_
  refine zaw_iaddR (by omega) dL_law_328 ?_
  refine zaw_sld hq dL_law_329 (by omega) ?_
  refine zaw_callV 4 0 0 dL_law_330 yw_X9_count ml_L_129 in_X9_count se_X9_count (ci := 8) rfl at_140 (as := [_]) rfl rfl ⟨by decide, by omega, by omega, Nat.le_of_ble_eq_true rfl⟩ ?_
  refine ag _ (fun b h2 e7 eb e0 l2 => ?_)
  refine az_ci ?_
  refine za_is7 rfl rfl dL_law_333 ?_
  refine za_al2 (by decide) dL_law_335 ?_
  refine zaw_callV 1 0 0 dL_law_336 yw_X9_thrown ml_L_115 in_X9_thrown se_X9_thrown (ci := 8) rfl at_140 (as := []) rfl rfl ⟨by decide, by omega, by omega, Nat.le_of_ble_eq_true rfl⟩ ?_
  refine ac_thrown ?_
  refine az_ci ?_
  refine za_il6 dL_law_339 ?_
  refine zaw_icmp_eq 346 dL_law_341 (by decide) (fun c341 => ?_) (fun c341 => ?_)
  · refine za_il6 dL_law_346 ?_
    refine zaw_if_ne 363 dL_law_348 (by decide) (fun c348 => ?_) (fun c348 => ?_)
    · refine zaw_goto 1999 dL_law_363 (by decide) ?_
      exact J h2 _ _ _ _ l2 rfl (by omega) (by omega)
    · have k0 : k = 0 := by omega
      have e1 : h2 157 0 = b := by rw [e0, e k0, eb k0]
      refine za_al3 (by decide) dL_law_351 ?_
      refine zaw_iconst dL_law_352 (by decide) ?_
      refine zaw_lald dL_law_353 ar_157 (by omega) ?_
      refine za_il7 dL_law_354 ?_
      refine zaw_i2l dL_law_356 ?_
      refine zaw_lcmp dL_law_357 ?_
      refine zaw_if_eq 363 dL_law_358 (by decide) (fun c358 => ?_) (fun c358 => ?_)
      · refine zaw_goto 1999 dL_law_363 (by decide) ?_
        exact J h2 _ _ _ _ l2 rfl (by omega) (by omega)
      · exfalso
        refine c358 ?_
        rw [if_neg (by omega), if_pos (by omega)]
  · exfalso
    omega
theorem lc_ship {xx : String × List (Nat × Nat × Nat × Nat)} {qz : Nat × (Nat → Int)} {mc ms : Nat} {K : AO → Nat → AH → Prop} {i : Int} {v6 v7 : AV} {h : AH} (hz : LQ qz) (hi : 0 ≤ i ∧ i + 6 ≤ qz.1) (hm : 3 ≤ mc ∧ 18 ≤ ms) (hL : LI h) (h6 : am_n2 v6 = true) (J : LJ xx qz mc ms K i) : AZ qz (mLw xx) 20 mc ms K 159 366 [(2, 3000), (2, 0), (2, 140), (2, 157), (2, 158), (0, i), v6, v7] [] h := by
  obtain ⟨hQ, hq⟩ := hz
  refine za_al1 (by decide) dL_law_366 ?_
  refine za_alX0 (by decide) dL_law_367 ?_
  refine za_il5 dL_law_368 ?_
  refine zaw_iconst dL_law_370 (by decide) ?_
  refine zaw_iaddR (by omega) dL_law_371 ?_
  refine zaw_sld hq dL_law_372 (by omega) ?_
  refine za_alX0 (by decide) dL_law_373 ?_
  refine za_il5 dL_law_374 ?_
  refine zaw_iconst dL_law_376 (by decide) ?_
  refine zaw_iaddR (by omega) dL_law_377 ?_
  refine zaw_sld hq dL_law_378 (by omega) ?_
  refine za_al3 (by decide) dL_law_379 ?_
  refine zaw_callX 8 2 12 dL_law_380 yw_L_ship ml_L_130 sm_L_ship (as := [_, _, _, _]) rfl rfl ⟨by decide, by omega, by omega, Nat.le_of_ble_eq_true rfl⟩ ?_
  refine ag_ship hL (fun k v h1 e ag => ?_)
  refine az_ci ?_
  refine za_is6 rfl rfl dL_law_383 ?_
  refine za_al2 (by decide) dL_law_385 ?_
  refine za_alX0 (by decide) dL_law_386 ?_
  refine za_il5 dL_law_387 ?_
  refine zaw_iconst dL_law_389 (by decide) ?_
  refine zaw_iaddR (by omega) dL_law_390 ?_
  refine zaw_sld hq dL_law_391 (by omega) ?_
  refine za_alX0 (by decide) dL_law_392 ?_
  refine za_il5 dL_law_393 ?_
  refine zaw_iconst dL_law_395 (by decide) ?_
  refine zaw_iaddR (by omega) dL_law_396 ?_
  refine zaw_sld hq dL_law_397 (by omega) ?_
  refine zaw_callV 3 0 0 dL_law_398 yw_X9_ship ml_L_133 in_X9_ship se_X9_ship (ci := 8) rfl at_140 (as := [_, _]) rfl rfl ⟨by decide, by omega, by omega, Nat.le_of_ble_eq_true rfl⟩ ?_
  refine ag _ (fun b h2 e7 eb e0 l2 => ?_)
  refine az_ci ?_
  refine za_is7 rfl rfl dL_law_401 ?_
  refine za_al2 (by decide) dL_law_403 ?_
  refine zaw_callV 1 0 0 dL_law_404 yw_X9_thrown ml_L_115 in_X9_thrown se_X9_thrown (ci := 8) rfl at_140 (as := []) rfl rfl ⟨by decide, by omega, by omega, Nat.le_of_ble_eq_true rfl⟩ ?_
  refine ac_thrown ?_
  refine az_ci ?_
  refine za_il6 dL_law_407 ?_
  refine zaw_icmp_eq 414 dL_law_409 (by decide) (fun c409 => ?_) (fun c409 => ?_)
  · refine za_il6 dL_law_414 ?_
    refine zaw_if_ne 431 dL_law_416 (by decide) (fun c416 => ?_) (fun c416 => ?_)
    · refine zaw_goto 1999 dL_law_431 (by decide) ?_
      exact J h2 _ _ _ _ l2 rfl (by omega) (by omega)
    · have k0 : k = 0 := by omega
      have e1 : h2 157 0 = b := by rw [e0, e k0, eb k0]
      refine za_al3 (by decide) dL_law_419 ?_
      refine zaw_iconst dL_law_420 (by decide) ?_
      refine zaw_lald dL_law_421 ar_157 (by omega) ?_
      refine za_il7 dL_law_422 ?_
      refine zaw_i2l dL_law_424 ?_
      refine zaw_lcmp dL_law_425 ?_
      refine zaw_if_eq 431 dL_law_426 (by decide) (fun c426 => ?_) (fun c426 => ?_)
      · refine zaw_goto 1999 dL_law_431 (by decide) ?_
        exact J h2 _ _ _ _ l2 rfl (by omega) (by omega)
      · exfalso
        refine c426 ?_
        rw [if_neg (by omega), if_pos (by omega)]
  · exfalso
    omega
theorem lc_fleet {xx : String × List (Nat × Nat × Nat × Nat)} {qz : Nat × (Nat → Int)} {mc ms : Nat} {K : AO → Nat → AH → Prop} {i : Int} {v6 v7 : AV} {h : AH} (hz : LQ qz) (hi : 0 ≤ i ∧ i + 6 ≤ qz.1) (hm : 3 ≤ mc ∧ 18 ≤ ms) (hL : LI h) (h6 : am_n2 v6 = true) (J : LJ xx qz mc ms K i) : AZ qz (mLw xx) 20 mc ms K 159 434 [(2, 3000), (2, 0), (2, 140), (2, 157), (2, 158), (0, i), v6, v7] [] h := by
  obtain ⟨hQ, hq⟩ := hz
  refine za_al1 (by decide) dL_law_434 ?_
  refine za_alX0 (by decide) dL_law_435 ?_
  refine za_il5 dL_law_436 ?_
  refine zaw_iconst dL_law_438 (by decide) ?_
  refine zaw_iaddR (by omega) dL_law_439 ?_
  refine zaw_sld hq dL_law_440 (by omega) ?_
  refine za_alX0 (by decide) dL_law_441 ?_
  refine za_il5 dL_law_442 ?_
  refine zaw_iconst dL_law_444 (by decide) ?_
  refine zaw_iaddR (by omega) dL_law_445 ?_
  refine zaw_sld hq dL_law_446 (by omega) ?_
  refine za_al3 (by decide) dL_law_447 ?_
  refine zaw_callX 8 2 12 dL_law_448 yw_L_fleet ml_L_134 sm_L_fleet (as := [_, _, _, _]) rfl rfl ⟨by decide, by omega, by omega, Nat.le_of_ble_eq_true rfl⟩ ?_
  refine ag_fleet hL (fun k v h1 e ag => ?_)
  refine az_ci ?_
  refine za_is6 rfl rfl dL_law_451 ?_
  refine za_al2 (by decide) dL_law_453 ?_
  refine za_alX0 (by decide) dL_law_454 ?_
  refine za_il5 dL_law_455 ?_
  refine zaw_iconst dL_law_457 (by decide) ?_
  refine zaw_iaddR (by omega) dL_law_458 ?_
  refine zaw_sld hq dL_law_459 (by omega) ?_
  refine za_alX0 (by decide) dL_law_460 ?_
  refine za_il5 dL_law_461 ?_
  refine zaw_iconst dL_law_463 (by decide) ?_
  refine zaw_iaddR (by omega) dL_law_464 ?_
  refine zaw_sld hq dL_law_465 (by omega) ?_
  refine zaw_callV 5 0 0 dL_law_466 yw_X9_fleet ml_L_136 in_X9_fleet se_X9_fleet (ci := 8) rfl at_140 (as := [_, _]) rfl rfl ⟨by decide, by omega, by omega, Nat.le_of_ble_eq_true rfl⟩ ?_
  refine ag _ (fun b h2 e7 eb e0 l2 => ?_)
  refine az_ci ?_
  refine za_is7 rfl rfl dL_law_469 ?_
  refine za_al2 (by decide) dL_law_471 ?_
  refine zaw_callV 1 0 0 dL_law_472 yw_X9_thrown ml_L_115 in_X9_thrown se_X9_thrown (ci := 8) rfl at_140 (as := []) rfl rfl ⟨by decide, by omega, by omega, Nat.le_of_ble_eq_true rfl⟩ ?_
  refine ac_thrown ?_
  refine az_ci ?_
  refine za_il6 dL_law_475 ?_
  refine zaw_icmp_eq 482 dL_law_477 (by decide) (fun c477 => ?_) (fun c477 => ?_)
  · refine za_il6 dL_law_482 ?_
    refine zaw_if_ne 499 dL_law_484 (by decide) (fun c484 => ?_) (fun c484 => ?_)
    · refine zaw_goto 1999 dL_law_499 (by decide) ?_
      exact J h2 _ _ _ _ l2 rfl (by omega) (by omega)
    · have k0 : k = 0 := by omega
      have e1 : h2 157 0 = b := by rw [e0, e k0, eb k0]
      refine za_al3 (by decide) dL_law_487 ?_
      refine zaw_iconst dL_law_488 (by decide) ?_
      refine zaw_lald dL_law_489 ar_157 (by omega) ?_
      refine za_il7 dL_law_490 ?_
      refine zaw_i2l dL_law_492 ?_
      refine zaw_lcmp dL_law_493 ?_
      refine zaw_if_eq 499 dL_law_494 (by decide) (fun c494 => ?_) (fun c494 => ?_)
      · refine zaw_goto 1999 dL_law_499 (by decide) ?_
        exact J h2 _ _ _ _ l2 rfl (by omega) (by omega)
      · exfalso
        refine c494 ?_
        rw [if_neg (by omega), if_pos (by omega)]
  · exfalso
    omega
theorem lc_at {xx : String × List (Nat × Nat × Nat × Nat)} {qz : Nat × (Nat → Int)} {mc ms : Nat} {K : AO → Nat → AH → Prop} {i : Int} {v6 v7 : AV} {h : AH} (hz : LQ qz) (hi : 0 ≤ i ∧ i + 6 ≤ qz.1) (hm : 3 ≤ mc ∧ 18 ≤ ms) (hL : LI h) (h6 : am_n2 v6 = true) (J : LJ xx qz mc ms K i) : AZ qz (mLw xx) 20 mc ms K 159 502 [(2, 3000), (2, 0), (2, 140), (2, 157), (2, 158), (0, i), v6, v7] [] h := by
  obtain ⟨hQ, hq⟩ := hz
  refine za_al1 (by decide) dL_law_502 ?_
  refine za_alX0 (by decide) dL_law_503 ?_
  refine za_il5 dL_law_504 ?_
  refine zaw_iconst dL_law_506 (by decide) ?_
  refine zaw_iaddR (by omega) dL_law_507 ?_
  refine zaw_sld hq dL_law_508 (by omega) ?_
  refine za_alX0 (by decide) dL_law_509 ?_
  refine za_il5 dL_law_510 ?_
  refine zaw_iconst dL_law_512 (by decide) ?_
  refine zaw_iaddR (by omega) dL_law_513 ?_
  refine zaw_sld hq dL_law_514 (by omega) ?_
  refine za_al3 (by decide) dL_law_515 ?_
  refine zaw_callX 7 1 6 dL_law_516 yw_L_at ml_L_137 sm_L_at (as := [_, _, _, _]) rfl rfl ⟨by decide, by omega, by omega, Nat.le_of_ble_eq_true rfl⟩ ?_
  refine ag_at hL (fun k v h1 e ag => ?_)
  refine az_ci ?_
  refine za_is6 rfl rfl dL_law_519 ?_
  refine za_al2 (by decide) dL_law_521 ?_
  refine za_alX0 (by decide) dL_law_522 ?_
  refine za_il5 dL_law_523 ?_
  refine zaw_iconst dL_law_525 (by decide) ?_
  refine zaw_iaddR (by omega) dL_law_526 ?_
  refine zaw_sld hq dL_law_527 (by omega) ?_
  refine za_alX0 (by decide) dL_law_528 ?_
  refine za_il5 dL_law_529 ?_
  refine zaw_iconst dL_law_531 (by decide) ?_
  refine zaw_iaddR (by omega) dL_law_532 ?_
  refine zaw_sld hq dL_law_533 (by omega) ?_
  refine zaw_callV 4 0 0 dL_law_534 yw_X9_at ml_L_139 in_X9_at se_X9_at (ci := 8) rfl at_140 (as := [_, _]) rfl rfl ⟨by decide, by omega, by omega, Nat.le_of_ble_eq_true rfl⟩ ?_
  refine ag _ (fun b h2 e7 eb e0 l2 => ?_)
  refine az_ci ?_
  refine za_is7 rfl rfl dL_law_537 ?_
  refine za_al2 (by decide) dL_law_539 ?_
  refine zaw_callV 1 0 0 dL_law_540 yw_X9_thrown ml_L_115 in_X9_thrown se_X9_thrown (ci := 8) rfl at_140 (as := []) rfl rfl ⟨by decide, by omega, by omega, Nat.le_of_ble_eq_true rfl⟩ ?_
  refine ac_thrown ?_
  refine az_ci ?_
  refine za_il6 dL_law_543 ?_
  refine zaw_icmp_eq 550 dL_law_545 (by decide) (fun c545 => ?_) (fun c545 => ?_)
  · refine za_il6 dL_law_550 ?_
    refine zaw_if_ne 567 dL_law_552 (by decide) (fun c552 => ?_) (fun c552 => ?_)
    · refine zaw_goto 1999 dL_law_567 (by decide) ?_
      exact J h2 _ _ _ _ l2 rfl (by omega) (by omega)
    · have k0 : k = 0 := by omega
      have e1 : h2 157 0 = b := by rw [e0, e k0, eb k0]
      refine za_al3 (by decide) dL_law_555 ?_
      refine zaw_iconst dL_law_556 (by decide) ?_
      refine zaw_lald dL_law_557 ar_157 (by omega) ?_
      refine za_il7 dL_law_558 ?_
      refine zaw_i2l dL_law_560 ?_
      refine zaw_lcmp dL_law_561 ?_
      refine zaw_if_eq 567 dL_law_562 (by decide) (fun c562 => ?_) (fun c562 => ?_)
      · refine zaw_goto 1999 dL_law_567 (by decide) ?_
        exact J h2 _ _ _ _ l2 rfl (by omega) (by omega)
      · exfalso
        refine c562 ?_
        rw [if_neg (by omega), if_pos (by omega)]
  · exfalso
    omega
theorem lc_order {xx : String × List (Nat × Nat × Nat × Nat)} {qz : Nat × (Nat → Int)} {mc ms : Nat} {K : AO → Nat → AH → Prop} {i : Int} {v6 v7 : AV} {h : AH} (hz : LQ qz) (hi : 0 ≤ i ∧ i + 6 ≤ qz.1) (hm : 3 ≤ mc ∧ 18 ≤ ms) (hL : LI h) (h6 : am_n2 v6 = true) (J : LJ xx qz mc ms K i) : AZ qz (mLw xx) 20 mc ms K 159 570 [(2, 3000), (2, 0), (2, 140), (2, 157), (2, 158), (0, i), v6, v7] [] h := by
  obtain ⟨hQ, hq⟩ := hz
  refine za_al1 (by decide) dL_law_570 ?_
  refine za_alX0 (by decide) dL_law_571 ?_
  refine za_il5 dL_law_572 ?_
  refine zaw_iconst dL_law_574 (by decide) ?_
  refine zaw_iaddR (by omega) dL_law_575 ?_
  refine zaw_sld hq dL_law_576 (by omega) ?_
  refine za_alX0 (by decide) dL_law_577 ?_
  refine za_il5 dL_law_578 ?_
  refine zaw_iconst dL_law_580 (by decide) ?_
  refine zaw_iaddR (by omega) dL_law_581 ?_
  refine zaw_sld hq dL_law_582 (by omega) ?_
  refine za_al3 (by decide) dL_law_583 ?_
  refine zaw_callX 8 2 12 dL_law_584 yw_L_order ml_L_140 sm_L_order (as := [_, _, _, _]) rfl rfl ⟨by decide, by omega, by omega, Nat.le_of_ble_eq_true rfl⟩ ?_
  refine ag_order hL (fun k v h1 e ag => ?_)
  refine az_ci ?_
  refine za_is6 rfl rfl dL_law_587 ?_
  refine za_al2 (by decide) dL_law_589 ?_
  refine za_alX0 (by decide) dL_law_590 ?_
  refine za_il5 dL_law_591 ?_
  refine zaw_iconst dL_law_593 (by decide) ?_
  refine zaw_iaddR (by omega) dL_law_594 ?_
  refine zaw_sld hq dL_law_595 (by omega) ?_
  refine za_alX0 (by decide) dL_law_596 ?_
  refine za_il5 dL_law_597 ?_
  refine zaw_iconst dL_law_599 (by decide) ?_
  refine zaw_iaddR (by omega) dL_law_600 ?_
  refine zaw_sld hq dL_law_601 (by omega) ?_
  refine zaw_callV 3 0 0 dL_law_602 yw_X9_order ml_L_142 in_X9_order se_X9_order (ci := 8) rfl at_140 (as := [_, _]) rfl rfl ⟨by decide, by omega, by omega, Nat.le_of_ble_eq_true rfl⟩ ?_
  refine ag _ (fun b h2 e7 eb e0 l2 => ?_)
  refine az_ci ?_
  refine za_is7 rfl rfl dL_law_605 ?_
  refine za_al2 (by decide) dL_law_607 ?_
  refine zaw_callV 1 0 0 dL_law_608 yw_X9_thrown ml_L_115 in_X9_thrown se_X9_thrown (ci := 8) rfl at_140 (as := []) rfl rfl ⟨by decide, by omega, by omega, Nat.le_of_ble_eq_true rfl⟩ ?_
  refine ac_thrown ?_
  refine az_ci ?_
  refine za_il6 dL_law_611 ?_
  refine zaw_icmp_eq 618 dL_law_613 (by decide) (fun c613 => ?_) (fun c613 => ?_)
  · refine za_il6 dL_law_618 ?_
    refine zaw_if_ne 635 dL_law_620 (by decide) (fun c620 => ?_) (fun c620 => ?_)
    · refine zaw_goto 1999 dL_law_635 (by decide) ?_
      exact J h2 _ _ _ _ l2 rfl (by omega) (by omega)
    · have k0 : k = 0 := by omega
      have e1 : h2 157 0 = b := by rw [e0, e k0, eb k0]
      refine za_al3 (by decide) dL_law_623 ?_
      refine zaw_iconst dL_law_624 (by decide) ?_
      refine zaw_lald dL_law_625 ar_157 (by omega) ?_
      refine za_il7 dL_law_626 ?_
      refine zaw_i2l dL_law_628 ?_
      refine zaw_lcmp dL_law_629 ?_
      refine zaw_if_eq 635 dL_law_630 (by decide) (fun c630 => ?_) (fun c630 => ?_)
      · refine zaw_goto 1999 dL_law_635 (by decide) ?_
        exact J h2 _ _ _ _ l2 rfl (by omega) (by omega)
      · exfalso
        refine c630 ?_
        rw [if_neg (by omega), if_pos (by omega)]
  · exfalso
    omega
theorem lc_gain {xx : String × List (Nat × Nat × Nat × Nat)} {qz : Nat × (Nat → Int)} {mc ms : Nat} {K : AO → Nat → AH → Prop} {i : Int} {v6 v7 : AV} {h : AH} (hz : LQ qz) (hi : 0 ≤ i ∧ i + 6 ≤ qz.1) (hm : 3 ≤ mc ∧ 18 ≤ ms) (hL : LI h) (h6 : am_n2 v6 = true) (J : LJ xx qz mc ms K i) : AZ qz (mLw xx) 20 mc ms K 159 638 [(2, 3000), (2, 0), (2, 140), (2, 157), (2, 158), (0, i), v6, v7] [] h := by
  obtain ⟨hQ, hq⟩ := hz
  refine za_al1 (by decide) dL_law_638 ?_
  refine za_alX0 (by decide) dL_law_639 ?_
  refine za_il5 dL_law_640 ?_
  refine zaw_iconst dL_law_642 (by decide) ?_
  refine zaw_iaddR (by omega) dL_law_643 ?_
  refine zaw_sld hq dL_law_644 (by omega) ?_
  refine za_alX0 (by decide) dL_law_645 ?_
  refine za_il5 dL_law_646 ?_
  refine zaw_iconst dL_law_648 (by decide) ?_
  refine zaw_iaddR (by omega) dL_law_649 ?_
  refine zaw_sld hq dL_law_650 (by omega) ?_
  refine za_al3 (by decide) dL_law_651 ?_
  refine zaw_callX 8 2 12 dL_law_652 yw_L_gain ml_L_143 sm_L_gain (as := [_, _, _, _]) rfl rfl ⟨by decide, by omega, by omega, Nat.le_of_ble_eq_true rfl⟩ ?_
  refine ag_gain hL (fun k v h1 e ag => ?_)
  refine az_ci ?_
  refine za_is6 rfl rfl dL_law_655 ?_
  refine za_al2 (by decide) dL_law_657 ?_
  refine za_alX0 (by decide) dL_law_658 ?_
  refine za_il5 dL_law_659 ?_
  refine zaw_iconst dL_law_661 (by decide) ?_
  refine zaw_iaddR (by omega) dL_law_662 ?_
  refine zaw_sld hq dL_law_663 (by omega) ?_
  refine za_alX0 (by decide) dL_law_664 ?_
  refine za_il5 dL_law_665 ?_
  refine zaw_iconst dL_law_667 (by decide) ?_
  refine zaw_iaddR (by omega) dL_law_668 ?_
  refine zaw_sld hq dL_law_669 (by omega) ?_
  refine zaw_callV 4 0 0 dL_law_670 yw_X9_gain ml_L_145 in_X9_gain se_X9_gain (ci := 8) rfl at_140 (as := [_, _]) rfl rfl ⟨by decide, by omega, by omega, Nat.le_of_ble_eq_true rfl⟩ ?_
  refine ag _ (fun b h2 e7 eb e0 l2 => ?_)
  refine az_ci ?_
  refine za_is7 rfl rfl dL_law_673 ?_
  refine za_al2 (by decide) dL_law_675 ?_
  refine zaw_callV 1 0 0 dL_law_676 yw_X9_thrown ml_L_115 in_X9_thrown se_X9_thrown (ci := 8) rfl at_140 (as := []) rfl rfl ⟨by decide, by omega, by omega, Nat.le_of_ble_eq_true rfl⟩ ?_
  refine ac_thrown ?_
  refine az_ci ?_
  refine za_il6 dL_law_679 ?_
  refine zaw_icmp_eq 686 dL_law_681 (by decide) (fun c681 => ?_) (fun c681 => ?_)
  · refine za_il6 dL_law_686 ?_
    refine zaw_if_ne 703 dL_law_688 (by decide) (fun c688 => ?_) (fun c688 => ?_)
    · refine zaw_goto 1999 dL_law_703 (by decide) ?_
      exact J h2 _ _ _ _ l2 rfl (by omega) (by omega)
    · have k0 : k = 0 := by omega
      have e1 : h2 157 0 = b := by rw [e0, e k0, eb k0]
      refine za_al3 (by decide) dL_law_691 ?_
      refine zaw_iconst dL_law_692 (by decide) ?_
      refine zaw_lald dL_law_693 ar_157 (by omega) ?_
      refine za_il7 dL_law_694 ?_
      refine zaw_i2l dL_law_696 ?_
      refine zaw_lcmp dL_law_697 ?_
      refine zaw_if_eq 703 dL_law_698 (by decide) (fun c698 => ?_) (fun c698 => ?_)
      · refine zaw_goto 1999 dL_law_703 (by decide) ?_
        exact J h2 _ _ _ _ l2 rfl (by omega) (by omega)
      · exfalso
        refine c698 ?_
        rw [if_neg (by omega), if_pos (by omega)]
  · exfalso
    omega
theorem lc_sees {xx : String × List (Nat × Nat × Nat × Nat)} {qz : Nat × (Nat → Int)} {mc ms : Nat} {K : AO → Nat → AH → Prop} {i : Int} {v6 v7 : AV} {h : AH} (hz : LQ qz) (hi : 0 ≤ i ∧ i + 6 ≤ qz.1) (hm : 3 ≤ mc ∧ 18 ≤ ms) (hL : LI h) (h6 : am_n2 v6 = true) (J : LJ xx qz mc ms K i) : AZ qz (mLw xx) 20 mc ms K 159 706 [(2, 3000), (2, 0), (2, 140), (2, 157), (2, 158), (0, i), v6, v7] [] h := by
  obtain ⟨hQ, hq⟩ := hz
  refine za_al1 (by decide) dL_law_706 ?_
  refine za_alX0 (by decide) dL_law_707 ?_
  refine za_il5 dL_law_708 ?_
  refine zaw_iconst dL_law_710 (by decide) ?_
  refine zaw_iaddR (by omega) dL_law_711 ?_
  refine zaw_sld hq dL_law_712 (by omega) ?_
  refine za_alX0 (by decide) dL_law_713 ?_
  refine za_il5 dL_law_714 ?_
  refine zaw_iconst dL_law_716 (by decide) ?_
  refine zaw_iaddR (by omega) dL_law_717 ?_
  refine zaw_sld hq dL_law_718 (by omega) ?_
  refine za_al3 (by decide) dL_law_719 ?_
  refine zaw_callX 8 2 12 dL_law_720 yw_L_sees ml_L_146 sm_L_sees (as := [_, _, _, _]) rfl rfl ⟨by decide, by omega, by omega, Nat.le_of_ble_eq_true rfl⟩ ?_
  refine ag_sees hL (fun k v h1 e ag => ?_)
  refine az_ci ?_
  refine za_is6 rfl rfl dL_law_723 ?_
  refine za_al2 (by decide) dL_law_725 ?_
  refine za_alX0 (by decide) dL_law_726 ?_
  refine za_il5 dL_law_727 ?_
  refine zaw_iconst dL_law_729 (by decide) ?_
  refine zaw_iaddR (by omega) dL_law_730 ?_
  refine zaw_sld hq dL_law_731 (by omega) ?_
  refine za_alX0 (by decide) dL_law_732 ?_
  refine za_il5 dL_law_733 ?_
  refine zaw_iconst dL_law_735 (by decide) ?_
  refine zaw_iaddR (by omega) dL_law_736 ?_
  refine zaw_sld hq dL_law_737 (by omega) ?_
  refine zaw_callV 4 0 0 dL_law_738 yw_X9_sees ml_L_148 in_X9_sees se_X9_sees (ci := 8) rfl at_140 (as := [_, _]) rfl rfl ⟨by decide, by omega, by omega, Nat.le_of_ble_eq_true rfl⟩ ?_
  refine ag _ (fun b h2 e7 eb e0 l2 => ?_)
  refine az_ci ?_
  refine za_is7 rfl rfl dL_law_741 ?_
  refine za_al2 (by decide) dL_law_743 ?_
  refine zaw_callV 1 0 0 dL_law_744 yw_X9_thrown ml_L_115 in_X9_thrown se_X9_thrown (ci := 8) rfl at_140 (as := []) rfl rfl ⟨by decide, by omega, by omega, Nat.le_of_ble_eq_true rfl⟩ ?_
  refine ac_thrown ?_
  refine az_ci ?_
  refine za_il6 dL_law_747 ?_
  refine zaw_icmp_eq 754 dL_law_749 (by decide) (fun c749 => ?_) (fun c749 => ?_)
  · refine za_il6 dL_law_754 ?_
    refine zaw_if_ne 778 dL_law_756 (by decide) (fun c756 => ?_) (fun c756 => ?_)
    · refine zaw_goto 1999 dL_law_778 (by decide) ?_
      exact J h2 _ _ _ _ l2 rfl (by omega) (by omega)
    · have k0 : k = 0 := by omega
      have e1 : h2 157 0 = b := by rw [e0, (e k0).1, eb k0]
      have e2 : b = 0 ∨ b = 1 := by rw [eb k0]; exact (e k0).2
      refine za_al3 (by decide) dL_law_759 ?_
      refine zaw_iconst dL_law_760 (by decide) ?_
      refine zaw_lald dL_law_761 ar_157 (by omega) ?_
      refine za_il7 dL_law_762 ?_
      refine zaw_if_eq 771 dL_law_764 (by decide) (fun c764 => ?_) (fun c764 => ?_)
      · refine zaw_lconst (x := 0) dL_law_771 (by decide) ?_
        refine zaw_lcmp dL_law_772 ?_
        refine zaw_if_eq 778 dL_law_773 (by decide) (fun c773 => ?_) (fun c773 => ?_)
        · refine zaw_goto 1999 dL_law_778 (by decide) ?_
          exact J h2 _ _ _ _ l2 rfl (by omega) (by omega)
        · exfalso
          refine c773 ?_
          rw [if_neg (by omega), if_pos (by omega)]
      · refine zaw_lconst (x := 1) dL_law_767 (by decide) ?_
        refine zaw_goto 772 dL_law_768 (by decide) ?_
        refine zaw_lcmp dL_law_772 ?_
        refine zaw_if_eq 778 dL_law_773 (by decide) (fun c773 => ?_) (fun c773 => ?_)
        · refine zaw_goto 1999 dL_law_778 (by decide) ?_
          exact J h2 _ _ _ _ l2 rfl (by omega) (by omega)
        · exfalso
          refine c773 ?_
          rw [if_neg (by omega), if_pos (by omega)]
  · exfalso
    omega
theorem lc_shift {xx : String × List (Nat × Nat × Nat × Nat)} {qz : Nat × (Nat → Int)} {mc ms : Nat} {K : AO → Nat → AH → Prop} {i : Int} {v6 v7 : AV} {h : AH} (hz : LQ qz) (hi : 0 ≤ i ∧ i + 6 ≤ qz.1) (hm : 3 ≤ mc ∧ 18 ≤ ms) (hL : LI h) (h6 : am_n2 v6 = true) (J : LJ xx qz mc ms K i) : AZ qz (mLw xx) 20 mc ms K 159 781 [(2, 3000), (2, 0), (2, 140), (2, 157), (2, 158), (0, i), v6, v7] [] h := by
  obtain ⟨hQ, hq⟩ := hz
  refine za_al1 (by decide) dL_law_781 ?_
  refine za_alX0 (by decide) dL_law_782 ?_
  refine za_il5 dL_law_783 ?_
  refine zaw_iconst dL_law_785 (by decide) ?_
  refine zaw_iaddR (by omega) dL_law_786 ?_
  refine zaw_sld hq dL_law_787 (by omega) ?_
  refine za_alX0 (by decide) dL_law_788 ?_
  refine za_il5 dL_law_789 ?_
  refine zaw_iconst dL_law_791 (by decide) ?_
  refine zaw_iaddR (by omega) dL_law_792 ?_
  refine zaw_sld hq dL_law_793 (by omega) ?_
  refine za_al3 (by decide) dL_law_794 ?_
  refine zaw_callX 7 1 6 dL_law_795 yw_L_shift ml_L_149 sm_L_shift (as := [_, _, _, _]) rfl rfl ⟨by decide, by omega, by omega, Nat.le_of_ble_eq_true rfl⟩ ?_
  refine ag_shift hL (fun k v h1 e ag => ?_)
  refine az_ci ?_
  refine za_is6 rfl rfl dL_law_798 ?_
  refine za_al2 (by decide) dL_law_800 ?_
  refine za_alX0 (by decide) dL_law_801 ?_
  refine za_il5 dL_law_802 ?_
  refine zaw_iconst dL_law_804 (by decide) ?_
  refine zaw_iaddR (by omega) dL_law_805 ?_
  refine zaw_sld hq dL_law_806 (by omega) ?_
  refine za_alX0 (by decide) dL_law_807 ?_
  refine za_il5 dL_law_808 ?_
  refine zaw_iconst dL_law_810 (by decide) ?_
  refine zaw_iaddR (by omega) dL_law_811 ?_
  refine zaw_sld hq dL_law_812 (by omega) ?_
  refine zaw_callV 2 0 0 dL_law_813 yw_X9_shift ml_L_151 in_X9_shift se_X9_shift (ci := 8) rfl at_140 (as := [_, _]) rfl rfl ⟨by decide, by omega, by omega, Nat.le_of_ble_eq_true rfl⟩ ?_
  refine ag _ (fun b h2 e7 eb e0 l2 => ?_)
  refine az_ci ?_
  refine za_is7 rfl rfl dL_law_816 ?_
  refine za_al2 (by decide) dL_law_818 ?_
  refine zaw_callV 1 0 0 dL_law_819 yw_X9_thrown ml_L_115 in_X9_thrown se_X9_thrown (ci := 8) rfl at_140 (as := []) rfl rfl ⟨by decide, by omega, by omega, Nat.le_of_ble_eq_true rfl⟩ ?_
  refine ac_thrown ?_
  refine az_ci ?_
  refine za_il6 dL_law_822 ?_
  refine zaw_icmp_eq 829 dL_law_824 (by decide) (fun c824 => ?_) (fun c824 => ?_)
  · refine za_il6 dL_law_829 ?_
    refine zaw_if_ne 846 dL_law_831 (by decide) (fun c831 => ?_) (fun c831 => ?_)
    · refine zaw_goto 1999 dL_law_846 (by decide) ?_
      exact J h2 _ _ _ _ l2 rfl (by omega) (by omega)
    · have k0 : k = 0 := by omega
      have e1 : h2 157 0 = b := by rw [e0, e k0, eb k0]
      refine za_al3 (by decide) dL_law_834 ?_
      refine zaw_iconst dL_law_835 (by decide) ?_
      refine zaw_lald dL_law_836 ar_157 (by omega) ?_
      refine za_il7 dL_law_837 ?_
      refine zaw_i2l dL_law_839 ?_
      refine zaw_lcmp dL_law_840 ?_
      refine zaw_if_eq 846 dL_law_841 (by decide) (fun c841 => ?_) (fun c841 => ?_)
      · refine zaw_goto 1999 dL_law_846 (by decide) ?_
        exact J h2 _ _ _ _ l2 rfl (by omega) (by omega)
      · exfalso
        refine c841 ?_
        rw [if_neg (by omega), if_pos (by omega)]
  · exfalso
    omega
theorem lc_ram {xx : String × List (Nat × Nat × Nat × Nat)} {qz : Nat × (Nat → Int)} {mc ms : Nat} {K : AO → Nat → AH → Prop} {i : Int} {v6 v7 : AV} {h : AH} (hz : LQ qz) (hi : 0 ≤ i ∧ i + 6 ≤ qz.1) (hm : 3 ≤ mc ∧ 18 ≤ ms) (hL : LI h) (h6 : am_n2 v6 = true) (J : LJ xx qz mc ms K i) : AZ qz (mLw xx) 20 mc ms K 159 849 [(2, 3000), (2, 0), (2, 140), (2, 157), (2, 158), (0, i), v6, v7] [] h := by
  obtain ⟨hQ, hq⟩ := hz
  refine za_al1 (by decide) dL_law_849 ?_
  refine za_alX0 (by decide) dL_law_850 ?_
  refine za_il5 dL_law_851 ?_
  refine zaw_iconst dL_law_853 (by decide) ?_
  refine zaw_iaddR (by omega) dL_law_854 ?_
  refine zaw_sld hq dL_law_855 (by omega) ?_
  refine za_alX0 (by decide) dL_law_856 ?_
  refine za_il5 dL_law_857 ?_
  refine zaw_iconst dL_law_859 (by decide) ?_
  refine zaw_iaddR (by omega) dL_law_860 ?_
  refine zaw_sld hq dL_law_861 (by omega) ?_
  refine za_al3 (by decide) dL_law_862 ?_
  refine zaw_callX 7 1 6 dL_law_863 yw_L_ram ml_L_152 sm_L_ram (as := [_, _, _, _]) rfl rfl ⟨by decide, by omega, by omega, Nat.le_of_ble_eq_true rfl⟩ ?_
  refine ag_ram hL (fun k v h1 e ag => ?_)
  refine az_ci ?_
  refine za_is6 rfl rfl dL_law_866 ?_
  refine za_al2 (by decide) dL_law_868 ?_
  refine za_alX0 (by decide) dL_law_869 ?_
  refine za_il5 dL_law_870 ?_
  refine zaw_iconst dL_law_872 (by decide) ?_
  refine zaw_iaddR (by omega) dL_law_873 ?_
  refine zaw_sld hq dL_law_874 (by omega) ?_
  refine za_alX0 (by decide) dL_law_875 ?_
  refine za_il5 dL_law_876 ?_
  refine zaw_iconst dL_law_878 (by decide) ?_
  refine zaw_iaddR (by omega) dL_law_879 ?_
  refine zaw_sld hq dL_law_880 (by omega) ?_
  refine zaw_callV 2 0 0 dL_law_881 yw_X9_ram ml_L_154 in_X9_ram se_X9_ram (ci := 8) rfl at_140 (as := [_, _]) rfl rfl ⟨by decide, by omega, by omega, Nat.le_of_ble_eq_true rfl⟩ ?_
  refine ag _ (fun b h2 e7 eb e0 l2 => ?_)
  refine az_ci ?_
  refine za_is7 rfl rfl dL_law_884 ?_
  refine za_al2 (by decide) dL_law_886 ?_
  refine zaw_callV 1 0 0 dL_law_887 yw_X9_thrown ml_L_115 in_X9_thrown se_X9_thrown (ci := 8) rfl at_140 (as := []) rfl rfl ⟨by decide, by omega, by omega, Nat.le_of_ble_eq_true rfl⟩ ?_
  refine ac_thrown ?_
  refine az_ci ?_
  refine za_il6 dL_law_890 ?_
  refine zaw_icmp_eq 897 dL_law_892 (by decide) (fun c892 => ?_) (fun c892 => ?_)
  · refine za_il6 dL_law_897 ?_
    refine zaw_if_ne 914 dL_law_899 (by decide) (fun c899 => ?_) (fun c899 => ?_)
    · refine zaw_goto 1999 dL_law_914 (by decide) ?_
      exact J h2 _ _ _ _ l2 rfl (by omega) (by omega)
    · have k0 : k = 0 := by omega
      have e1 : h2 157 0 = b := by rw [e0, e k0, eb k0]
      refine za_al3 (by decide) dL_law_902 ?_
      refine zaw_iconst dL_law_903 (by decide) ?_
      refine zaw_lald dL_law_904 ar_157 (by omega) ?_
      refine za_il7 dL_law_905 ?_
      refine zaw_i2l dL_law_907 ?_
      refine zaw_lcmp dL_law_908 ?_
      refine zaw_if_eq 914 dL_law_909 (by decide) (fun c909 => ?_) (fun c909 => ?_)
      · refine zaw_goto 1999 dL_law_914 (by decide) ?_
        exact J h2 _ _ _ _ l2 rfl (by omega) (by omega)
      · exfalso
        refine c909 ?_
        rw [if_neg (by omega), if_pos (by omega)]
  · exfalso
    omega
theorem lc_sealOf {xx : String × List (Nat × Nat × Nat × Nat)} {qz : Nat × (Nat → Int)} {mc ms : Nat} {K : AO → Nat → AH → Prop} {i : Int} {v6 v7 : AV} {h : AH} (hz : LQ qz) (hi : 0 ≤ i ∧ i + 6 ≤ qz.1) (hm : 3 ≤ mc ∧ 18 ≤ ms) (hL : LI h) (h6 : am_n2 v6 = true) (J : LJ xx qz mc ms K i) : AZ qz (mLw xx) 20 mc ms K 159 917 [(2, 3000), (2, 0), (2, 140), (2, 157), (2, 158), (0, i), v6, v7] [] h := by
  obtain ⟨hQ, hq⟩ := hz
  refine za_al1 (by decide) dL_law_917 ?_
  refine za_alX0 (by decide) dL_law_918 ?_
  refine za_il5 dL_law_919 ?_
  refine zaw_iconst dL_law_921 (by decide) ?_
  refine zaw_iaddR (by omega) dL_law_922 ?_
  refine zaw_sld hq dL_law_923 (by omega) ?_
  refine za_alX0 (by decide) dL_law_924 ?_
  refine za_il5 dL_law_925 ?_
  refine zaw_iconst dL_law_927 (by decide) ?_
  refine zaw_iaddR (by omega) dL_law_928 ?_
  refine zaw_sld hq dL_law_929 (by omega) ?_
  refine za_al3 (by decide) dL_law_930 ?_
  refine zaw_callX 8 1 6 dL_law_931 yw_L_sealOf ml_L_155 sm_L_sealOf (as := [_, _, _, _]) rfl rfl ⟨by decide, by omega, by omega, Nat.le_of_ble_eq_true rfl⟩ ?_
  refine ag_sealOf hL (fun k v h1 e ag => ?_)
  refine az_ci ?_
  refine za_is6 rfl rfl dL_law_934 ?_
  refine za_al2 (by decide) dL_law_936 ?_
  refine za_alX0 (by decide) dL_law_937 ?_
  refine za_il5 dL_law_938 ?_
  refine zaw_iconst dL_law_940 (by decide) ?_
  refine zaw_iaddR (by omega) dL_law_941 ?_
  refine zaw_sld hq dL_law_942 (by omega) ?_
  refine za_alX0 (by decide) dL_law_943 ?_
  refine za_il5 dL_law_944 ?_
  refine zaw_iconst dL_law_946 (by decide) ?_
  refine zaw_iaddR (by omega) dL_law_947 ?_
  refine zaw_sld hq dL_law_948 (by omega) ?_
  refine zaw_callV 4 0 0 dL_law_949 yw_X9_sealOf ml_L_157 in_X9_sealOf se_X9_sealOf (ci := 8) rfl at_140 (as := [_, _]) rfl rfl ⟨by decide, by omega, by omega, Nat.le_of_ble_eq_true rfl⟩ ?_
  refine ag _ (fun b h2 e7 eb e0 l2 => ?_)
  refine az_ci ?_
  refine za_is7 rfl rfl dL_law_952 ?_
  refine za_al2 (by decide) dL_law_954 ?_
  refine zaw_callV 1 0 0 dL_law_955 yw_X9_thrown ml_L_115 in_X9_thrown se_X9_thrown (ci := 8) rfl at_140 (as := []) rfl rfl ⟨by decide, by omega, by omega, Nat.le_of_ble_eq_true rfl⟩ ?_
  refine ac_thrown ?_
  refine az_ci ?_
  refine za_il6 dL_law_958 ?_
  refine zaw_icmp_eq 965 dL_law_960 (by decide) (fun c960 => ?_) (fun c960 => ?_)
  · refine za_il6 dL_law_965 ?_
    refine zaw_if_ne 982 dL_law_967 (by decide) (fun c967 => ?_) (fun c967 => ?_)
    · refine zaw_goto 1999 dL_law_982 (by decide) ?_
      exact J h2 _ _ _ _ l2 rfl (by omega) (by omega)
    · have k0 : k = 0 := by omega
      have e1 : h2 157 0 = b := by rw [e0, e k0, eb k0]
      refine za_al3 (by decide) dL_law_970 ?_
      refine zaw_iconst dL_law_971 (by decide) ?_
      refine zaw_lald dL_law_972 ar_157 (by omega) ?_
      refine za_il7 dL_law_973 ?_
      refine zaw_i2l dL_law_975 ?_
      refine zaw_lcmp dL_law_976 ?_
      refine zaw_if_eq 982 dL_law_977 (by decide) (fun c977 => ?_) (fun c977 => ?_)
      · refine zaw_goto 1999 dL_law_982 (by decide) ?_
        exact J h2 _ _ _ _ l2 rfl (by omega) (by omega)
      · exfalso
        refine c977 ?_
        rw [if_neg (by omega), if_pos (by omega)]
  · exfalso
    omega
theorem lc_check {xx : String × List (Nat × Nat × Nat × Nat)} {qz : Nat × (Nat → Int)} {mc ms : Nat} {K : AO → Nat → AH → Prop} {i : Int} {v6 v7 : AV} {h : AH} (hz : LQ qz) (hi : 0 ≤ i ∧ i + 6 ≤ qz.1) (hm : 3 ≤ mc ∧ 18 ≤ ms) (hL : LI h) (h6 : am_n2 v6 = true) (J : LJ xx qz mc ms K i) : AZ qz (mLw xx) 20 mc ms K 159 985 [(2, 3000), (2, 0), (2, 140), (2, 157), (2, 158), (0, i), v6, v7] [] h := by
  obtain ⟨hQ, hq⟩ := hz
  refine za_al1 (by decide) dL_law_985 ?_
  refine za_alX0 (by decide) dL_law_986 ?_
  refine za_il5 dL_law_987 ?_
  refine zaw_iconst dL_law_989 (by decide) ?_
  refine zaw_iaddR (by omega) dL_law_990 ?_
  refine zaw_sld hq dL_law_991 (by omega) ?_
  refine za_alX0 (by decide) dL_law_992 ?_
  refine za_il5 dL_law_993 ?_
  refine zaw_iconst dL_law_995 (by decide) ?_
  refine zaw_iaddR (by omega) dL_law_996 ?_
  refine zaw_sld hq dL_law_997 (by omega) ?_
  refine za_alX0 (by decide) dL_law_998 ?_
  refine za_il5 dL_law_999 ?_
  refine zaw_iconst dL_law_1001 (by decide) ?_
  refine zaw_iaddR (by omega) dL_law_1002 ?_
  refine zaw_sld hq dL_law_1003 (by omega) ?_
  refine za_al3 (by decide) dL_law_1004 ?_
  refine zaw_callX 8 2 12 dL_law_1005 yw_L_check ml_L_158 sm_L_check (as := [_, _, _, _, _]) rfl rfl ⟨by decide, by omega, by omega, Nat.le_of_ble_eq_true rfl⟩ ?_
  refine ag_check hL (fun k v h1 e ag => ?_)
  refine az_ci ?_
  refine za_is6 rfl rfl dL_law_1008 ?_
  refine za_al2 (by decide) dL_law_1010 ?_
  refine za_alX0 (by decide) dL_law_1011 ?_
  refine za_il5 dL_law_1012 ?_
  refine zaw_iconst dL_law_1014 (by decide) ?_
  refine zaw_iaddR (by omega) dL_law_1015 ?_
  refine zaw_sld hq dL_law_1016 (by omega) ?_
  refine za_alX0 (by decide) dL_law_1017 ?_
  refine za_il5 dL_law_1018 ?_
  refine zaw_iconst dL_law_1020 (by decide) ?_
  refine zaw_iaddR (by omega) dL_law_1021 ?_
  refine zaw_sld hq dL_law_1022 (by omega) ?_
  refine za_alX0 (by decide) dL_law_1023 ?_
  refine za_il5 dL_law_1024 ?_
  refine zaw_iconst dL_law_1026 (by decide) ?_
  refine zaw_iaddR (by omega) dL_law_1027 ?_
  refine zaw_sld hq dL_law_1028 (by omega) ?_
  refine zaw_callV 4 0 0 dL_law_1029 yw_X9_check ml_L_161 in_X9_check se_X9_check (ci := 8) rfl at_140 (as := [_, _, _]) rfl rfl ⟨by decide, by omega, by omega, Nat.le_of_ble_eq_true rfl⟩ ?_
  refine ag _ (fun b h2 e7 eb e0 l2 => ?_)
  refine az_ci ?_
  refine za_is7 rfl rfl dL_law_1032 ?_
  refine za_al2 (by decide) dL_law_1034 ?_
  refine zaw_callV 1 0 0 dL_law_1035 yw_X9_thrown ml_L_115 in_X9_thrown se_X9_thrown (ci := 8) rfl at_140 (as := []) rfl rfl ⟨by decide, by omega, by omega, Nat.le_of_ble_eq_true rfl⟩ ?_
  refine ac_thrown ?_
  refine az_ci ?_
  refine za_il6 dL_law_1038 ?_
  refine zaw_icmp_eq 1045 dL_law_1040 (by decide) (fun c1040 => ?_) (fun c1040 => ?_)
  · refine za_il6 dL_law_1045 ?_
    refine zaw_if_ne 1069 dL_law_1047 (by decide) (fun c1047 => ?_) (fun c1047 => ?_)
    · refine zaw_goto 1999 dL_law_1069 (by decide) ?_
      exact J h2 _ _ _ _ l2 rfl (by omega) (by omega)
    · have k0 : k = 0 := by omega
      have e1 : h2 157 0 = b := by rw [e0, (e k0).1, eb k0]
      have e2 : b = 0 ∨ b = 1 := by rw [eb k0]; exact (e k0).2
      refine za_al3 (by decide) dL_law_1050 ?_
      refine zaw_iconst dL_law_1051 (by decide) ?_
      refine zaw_lald dL_law_1052 ar_157 (by omega) ?_
      refine za_il7 dL_law_1053 ?_
      refine zaw_if_eq 1062 dL_law_1055 (by decide) (fun c1055 => ?_) (fun c1055 => ?_)
      · refine zaw_lconst (x := 0) dL_law_1062 (by decide) ?_
        refine zaw_lcmp dL_law_1063 ?_
        refine zaw_if_eq 1069 dL_law_1064 (by decide) (fun c1064 => ?_) (fun c1064 => ?_)
        · refine zaw_goto 1999 dL_law_1069 (by decide) ?_
          exact J h2 _ _ _ _ l2 rfl (by omega) (by omega)
        · exfalso
          refine c1064 ?_
          rw [if_neg (by omega), if_pos (by omega)]
      · refine zaw_lconst (x := 1) dL_law_1058 (by decide) ?_
        refine zaw_goto 1063 dL_law_1059 (by decide) ?_
        refine zaw_lcmp dL_law_1063 ?_
        refine zaw_if_eq 1069 dL_law_1064 (by decide) (fun c1064 => ?_) (fun c1064 => ?_)
        · refine zaw_goto 1999 dL_law_1069 (by decide) ?_
          exact J h2 _ _ _ _ l2 rfl (by omega) (by omega)
        · exfalso
          refine c1064 ?_
          rw [if_neg (by omega), if_pos (by omega)]
  · exfalso
    omega
theorem lc_logged {xx : String × List (Nat × Nat × Nat × Nat)} {qz : Nat × (Nat → Int)} {mc ms : Nat} {K : AO → Nat → AH → Prop} {i : Int} {v6 v7 : AV} {h : AH} (hz : LQ qz) (hi : 0 ≤ i ∧ i + 6 ≤ qz.1) (hm : 3 ≤ mc ∧ 18 ≤ ms) (hL : LI h) (h6 : am_n2 v6 = true) (J : LJ xx qz mc ms K i) : AZ qz (mLw xx) 20 mc ms K 159 1072 [(2, 3000), (2, 0), (2, 140), (2, 157), (2, 158), (0, i), v6, v7] [] h := by
  obtain ⟨hQ, hq⟩ := hz
  refine za_al1 (by decide) dL_law_1072 ?_
  refine za_alX0 (by decide) dL_law_1073 ?_
  refine za_il5 dL_law_1074 ?_
  refine zaw_iconst dL_law_1076 (by decide) ?_
  refine zaw_iaddR (by omega) dL_law_1077 ?_
  refine zaw_sld hq dL_law_1078 (by omega) ?_
  refine za_alX0 (by decide) dL_law_1079 ?_
  refine za_il5 dL_law_1080 ?_
  refine zaw_iconst dL_law_1082 (by decide) ?_
  refine zaw_iaddR (by omega) dL_law_1083 ?_
  refine zaw_sld hq dL_law_1084 (by omega) ?_
  refine za_alX0 (by decide) dL_law_1085 ?_
  refine za_il5 dL_law_1086 ?_
  refine zaw_iconst dL_law_1088 (by decide) ?_
  refine zaw_iaddR (by omega) dL_law_1089 ?_
  refine zaw_sld hq dL_law_1090 (by omega) ?_
  refine za_al3 (by decide) dL_law_1091 ?_
  refine zaw_callX 8 3 18 dL_law_1092 yw_L_logged ml_L_162 sm_L_logged (as := [_, _, _, _, _]) rfl rfl ⟨by decide, by omega, by omega, Nat.le_of_ble_eq_true rfl⟩ ?_
  refine ag_logged hL (fun k v h1 e ag => ?_)
  refine az_ci ?_
  refine za_is6 rfl rfl dL_law_1095 ?_
  refine za_al2 (by decide) dL_law_1097 ?_
  refine za_alX0 (by decide) dL_law_1098 ?_
  refine za_il5 dL_law_1099 ?_
  refine zaw_iconst dL_law_1101 (by decide) ?_
  refine zaw_iaddR (by omega) dL_law_1102 ?_
  refine zaw_sld hq dL_law_1103 (by omega) ?_
  refine za_alX0 (by decide) dL_law_1104 ?_
  refine za_il5 dL_law_1105 ?_
  refine zaw_iconst dL_law_1107 (by decide) ?_
  refine zaw_iaddR (by omega) dL_law_1108 ?_
  refine zaw_sld hq dL_law_1109 (by omega) ?_
  refine za_alX0 (by decide) dL_law_1110 ?_
  refine za_il5 dL_law_1111 ?_
  refine zaw_iconst dL_law_1113 (by decide) ?_
  refine zaw_iaddR (by omega) dL_law_1114 ?_
  refine zaw_sld hq dL_law_1115 (by omega) ?_
  refine zaw_callV 4 0 0 dL_law_1116 yw_X9_logged ml_L_164 in_X9_logged se_X9_logged (ci := 8) rfl at_140 (as := [_, _, _]) rfl rfl ⟨by decide, by omega, by omega, Nat.le_of_ble_eq_true rfl⟩ ?_
  refine ag _ (fun b h2 e7 eb e0 l2 => ?_)
  refine az_ci ?_
  refine za_is7 rfl rfl dL_law_1119 ?_
  refine za_al2 (by decide) dL_law_1121 ?_
  refine zaw_callV 1 0 0 dL_law_1122 yw_X9_thrown ml_L_115 in_X9_thrown se_X9_thrown (ci := 8) rfl at_140 (as := []) rfl rfl ⟨by decide, by omega, by omega, Nat.le_of_ble_eq_true rfl⟩ ?_
  refine ac_thrown ?_
  refine az_ci ?_
  refine za_il6 dL_law_1125 ?_
  refine zaw_icmp_eq 1132 dL_law_1127 (by decide) (fun c1127 => ?_) (fun c1127 => ?_)
  · refine za_il6 dL_law_1132 ?_
    refine zaw_if_ne 1149 dL_law_1134 (by decide) (fun c1134 => ?_) (fun c1134 => ?_)
    · refine zaw_goto 1999 dL_law_1149 (by decide) ?_
      exact J h2 _ _ _ _ l2 rfl (by omega) (by omega)
    · have k0 : k = 0 := by omega
      have e1 : h2 157 0 = b := by rw [e0, e k0, eb k0]
      refine za_al3 (by decide) dL_law_1137 ?_
      refine zaw_iconst dL_law_1138 (by decide) ?_
      refine zaw_lald dL_law_1139 ar_157 (by omega) ?_
      refine za_il7 dL_law_1140 ?_
      refine zaw_i2l dL_law_1142 ?_
      refine zaw_lcmp dL_law_1143 ?_
      refine zaw_if_eq 1149 dL_law_1144 (by decide) (fun c1144 => ?_) (fun c1144 => ?_)
      · refine zaw_goto 1999 dL_law_1149 (by decide) ?_
        exact J h2 _ _ _ _ l2 rfl (by omega) (by omega)
      · exfalso
        refine c1144 ?_
        rw [if_neg (by omega), if_pos (by omega)]
  · exfalso
    omega
theorem lc_after {xx : String × List (Nat × Nat × Nat × Nat)} {qz : Nat × (Nat → Int)} {mc ms : Nat} {K : AO → Nat → AH → Prop} {i : Int} {v6 v7 : AV} {h : AH} (hz : LQ qz) (hi : 0 ≤ i ∧ i + 6 ≤ qz.1) (hm : 3 ≤ mc ∧ 18 ≤ ms) (hL : LI h) (h6 : am_n2 v6 = true) (J : LJ xx qz mc ms K i) : AZ qz (mLw xx) 20 mc ms K 159 1152 [(2, 3000), (2, 0), (2, 140), (2, 157), (2, 158), (0, i), v6, v7] [] h := by
  obtain ⟨hQ, hq⟩ := hz
  refine za_al1 (by decide) dL_law_1152 ?_
  refine za_alX0 (by decide) dL_law_1153 ?_
  refine za_il5 dL_law_1154 ?_
  refine zaw_iconst dL_law_1156 (by decide) ?_
  refine zaw_iaddR (by omega) dL_law_1157 ?_
  refine zaw_sld hq dL_law_1158 (by omega) ?_
  refine za_alX0 (by decide) dL_law_1159 ?_
  refine za_il5 dL_law_1160 ?_
  refine zaw_iconst dL_law_1162 (by decide) ?_
  refine zaw_iaddR (by omega) dL_law_1163 ?_
  refine zaw_sld hq dL_law_1164 (by omega) ?_
  refine za_al3 (by decide) dL_law_1165 ?_
  refine zaw_callX 8 2 12 dL_law_1166 yw_L_after ml_L_165 sm_L_after (as := [_, _, _, _]) rfl rfl ⟨by decide, by omega, by omega, Nat.le_of_ble_eq_true rfl⟩ ?_
  refine ag_after hL (fun k v h1 e ag => ?_)
  refine az_ci ?_
  refine za_is6 rfl rfl dL_law_1169 ?_
  refine za_al2 (by decide) dL_law_1171 ?_
  refine za_alX0 (by decide) dL_law_1172 ?_
  refine za_il5 dL_law_1173 ?_
  refine zaw_iconst dL_law_1175 (by decide) ?_
  refine zaw_iaddR (by omega) dL_law_1176 ?_
  refine zaw_sld hq dL_law_1177 (by omega) ?_
  refine za_alX0 (by decide) dL_law_1178 ?_
  refine za_il5 dL_law_1179 ?_
  refine zaw_iconst dL_law_1181 (by decide) ?_
  refine zaw_iaddR (by omega) dL_law_1182 ?_
  refine zaw_sld hq dL_law_1183 (by omega) ?_
  refine zaw_callV 9 0 0 dL_law_1184 yw_X9_after ml_L_167 in_X9_after se_X9_after (ci := 8) rfl at_140 (as := [_, _]) rfl rfl ⟨by decide, by omega, by omega, Nat.le_of_ble_eq_true rfl⟩ ?_
  refine ag _ (fun b h2 e7 eb e0 l2 => ?_)
  refine az_ci ?_
  refine za_is7 rfl rfl dL_law_1187 ?_
  refine za_al2 (by decide) dL_law_1189 ?_
  refine zaw_callV 1 0 0 dL_law_1190 yw_X9_thrown ml_L_115 in_X9_thrown se_X9_thrown (ci := 8) rfl at_140 (as := []) rfl rfl ⟨by decide, by omega, by omega, Nat.le_of_ble_eq_true rfl⟩ ?_
  refine ac_thrown ?_
  refine az_ci ?_
  refine za_il6 dL_law_1193 ?_
  refine zaw_icmp_eq 1200 dL_law_1195 (by decide) (fun c1195 => ?_) (fun c1195 => ?_)
  · refine za_il6 dL_law_1200 ?_
    refine zaw_if_ne 1217 dL_law_1202 (by decide) (fun c1202 => ?_) (fun c1202 => ?_)
    · refine zaw_goto 1999 dL_law_1217 (by decide) ?_
      exact J h2 _ _ _ _ l2 rfl (by omega) (by omega)
    · have k0 : k = 0 := by omega
      have e1 : h2 157 0 = b := by rw [e0, e k0, eb k0]
      refine za_al3 (by decide) dL_law_1205 ?_
      refine zaw_iconst dL_law_1206 (by decide) ?_
      refine zaw_lald dL_law_1207 ar_157 (by omega) ?_
      refine za_il7 dL_law_1208 ?_
      refine zaw_i2l dL_law_1210 ?_
      refine zaw_lcmp dL_law_1211 ?_
      refine zaw_if_eq 1217 dL_law_1212 (by decide) (fun c1212 => ?_) (fun c1212 => ?_)
      · refine zaw_goto 1999 dL_law_1217 (by decide) ?_
        exact J h2 _ _ _ _ l2 rfl (by omega) (by omega)
      · exfalso
        refine c1212 ?_
        rw [if_neg (by omega), if_pos (by omega)]
  · exfalso
    omega
theorem lc_course {xx : String × List (Nat × Nat × Nat × Nat)} {qz : Nat × (Nat → Int)} {mc ms : Nat} {K : AO → Nat → AH → Prop} {i : Int} {v6 v7 : AV} {h : AH} (hz : LQ qz) (hi : 0 ≤ i ∧ i + 6 ≤ qz.1) (hm : 3 ≤ mc ∧ 18 ≤ ms) (hL : LI h) (h6 : am_n2 v6 = true) (J : LJ xx qz mc ms K i) : AZ qz (mLw xx) 20 mc ms K 159 1220 [(2, 3000), (2, 0), (2, 140), (2, 157), (2, 158), (0, i), v6, v7] [] h := by
  obtain ⟨hQ, hq⟩ := hz
  refine za_al1 (by decide) dL_law_1220 ?_
  refine za_alX0 (by decide) dL_law_1221 ?_
  refine za_il5 dL_law_1222 ?_
  refine zaw_iconst dL_law_1224 (by decide) ?_
  refine zaw_iaddR (by omega) dL_law_1225 ?_
  refine zaw_sld hq dL_law_1226 (by omega) ?_
  refine za_alX0 (by decide) dL_law_1227 ?_
  refine za_il5 dL_law_1228 ?_
  refine zaw_iconst dL_law_1230 (by decide) ?_
  refine zaw_iaddR (by omega) dL_law_1231 ?_
  refine zaw_sld hq dL_law_1232 (by omega) ?_
  refine za_al3 (by decide) dL_law_1233 ?_
  refine zaw_callX 8 2 12 dL_law_1234 yw_L_course ml_L_168 sm_L_course (as := [_, _, _, _]) rfl rfl ⟨by decide, by omega, by omega, Nat.le_of_ble_eq_true rfl⟩ ?_
  refine ag_course hL (fun k v h1 e ag => ?_)
  refine az_ci ?_
  refine za_is6 rfl rfl dL_law_1237 ?_
  refine za_al2 (by decide) dL_law_1239 ?_
  refine za_alX0 (by decide) dL_law_1240 ?_
  refine za_il5 dL_law_1241 ?_
  refine zaw_iconst dL_law_1243 (by decide) ?_
  refine zaw_iaddR (by omega) dL_law_1244 ?_
  refine zaw_sld hq dL_law_1245 (by omega) ?_
  refine za_alX0 (by decide) dL_law_1246 ?_
  refine za_il5 dL_law_1247 ?_
  refine zaw_iconst dL_law_1249 (by decide) ?_
  refine zaw_iaddR (by omega) dL_law_1250 ?_
  refine zaw_sld hq dL_law_1251 (by omega) ?_
  refine zaw_callV 6 0 0 dL_law_1252 yw_X9_course ml_L_170 in_X9_course se_X9_course (ci := 8) rfl at_140 (as := [_, _]) rfl rfl ⟨by decide, by omega, by omega, Nat.le_of_ble_eq_true rfl⟩ ?_
  refine ag _ (fun b h2 e7 eb e0 l2 => ?_)
  refine az_ci ?_
  refine za_is7 rfl rfl dL_law_1255 ?_
  refine za_al2 (by decide) dL_law_1257 ?_
  refine zaw_callV 1 0 0 dL_law_1258 yw_X9_thrown ml_L_115 in_X9_thrown se_X9_thrown (ci := 8) rfl at_140 (as := []) rfl rfl ⟨by decide, by omega, by omega, Nat.le_of_ble_eq_true rfl⟩ ?_
  refine ac_thrown ?_
  refine az_ci ?_
  refine za_il6 dL_law_1261 ?_
  refine zaw_icmp_eq 1268 dL_law_1263 (by decide) (fun c1263 => ?_) (fun c1263 => ?_)
  · refine za_il6 dL_law_1268 ?_
    refine zaw_if_ne 1285 dL_law_1270 (by decide) (fun c1270 => ?_) (fun c1270 => ?_)
    · refine zaw_goto 1999 dL_law_1285 (by decide) ?_
      exact J h2 _ _ _ _ l2 rfl (by omega) (by omega)
    · have k0 : k = 0 := by omega
      have e1 : h2 157 0 = b := by rw [e0, e k0, eb k0]
      refine za_al3 (by decide) dL_law_1273 ?_
      refine zaw_iconst dL_law_1274 (by decide) ?_
      refine zaw_lald dL_law_1275 ar_157 (by omega) ?_
      refine za_il7 dL_law_1276 ?_
      refine zaw_i2l dL_law_1278 ?_
      refine zaw_lcmp dL_law_1279 ?_
      refine zaw_if_eq 1285 dL_law_1280 (by decide) (fun c1280 => ?_) (fun c1280 => ?_)
      · refine zaw_goto 1999 dL_law_1285 (by decide) ?_
        exact J h2 _ _ _ _ l2 rfl (by omega) (by omega)
      · exfalso
        refine c1280 ?_
        rw [if_neg (by omega), if_pos (by omega)]
  · exfalso
    omega
theorem lc_meet {xx : String × List (Nat × Nat × Nat × Nat)} {qz : Nat × (Nat → Int)} {mc ms : Nat} {K : AO → Nat → AH → Prop} {i : Int} {v6 v7 : AV} {h : AH} (hz : LQ qz) (hi : 0 ≤ i ∧ i + 6 ≤ qz.1) (hm : 3 ≤ mc ∧ 18 ≤ ms) (hL : LI h) (h6 : am_n2 v6 = true) (J : LJ xx qz mc ms K i) : AZ qz (mLw xx) 20 mc ms K 159 1288 [(2, 3000), (2, 0), (2, 140), (2, 157), (2, 158), (0, i), v6, v7] [] h := by
  obtain ⟨hQ, hq⟩ := hz
  refine za_al1 (by decide) dL_law_1288 ?_
  refine za_alX0 (by decide) dL_law_1289 ?_
  refine za_il5 dL_law_1290 ?_
  refine zaw_iconst dL_law_1292 (by decide) ?_
  refine zaw_iaddR (by omega) dL_law_1293 ?_
  refine zaw_sld hq dL_law_1294 (by omega) ?_
  refine za_alX0 (by decide) dL_law_1295 ?_
  refine za_il5 dL_law_1296 ?_
  refine zaw_iconst dL_law_1298 (by decide) ?_
  refine zaw_iaddR (by omega) dL_law_1299 ?_
  refine zaw_sld hq dL_law_1300 (by omega) ?_
  refine za_al3 (by decide) dL_law_1301 ?_
  refine zaw_callX 8 2 12 dL_law_1302 yw_L_meet ml_L_171 sm_L_meet (as := [_, _, _, _]) rfl rfl ⟨by decide, by omega, by omega, Nat.le_of_ble_eq_true rfl⟩ ?_
  refine ag_meet hL (fun k v h1 e ag => ?_)
  refine az_ci ?_
  refine za_is6 rfl rfl dL_law_1305 ?_
  refine za_al2 (by decide) dL_law_1307 ?_
  refine za_alX0 (by decide) dL_law_1308 ?_
  refine za_il5 dL_law_1309 ?_
  refine zaw_iconst dL_law_1311 (by decide) ?_
  refine zaw_iaddR (by omega) dL_law_1312 ?_
  refine zaw_sld hq dL_law_1313 (by omega) ?_
  refine za_alX0 (by decide) dL_law_1314 ?_
  refine za_il5 dL_law_1315 ?_
  refine zaw_iconst dL_law_1317 (by decide) ?_
  refine zaw_iaddR (by omega) dL_law_1318 ?_
  refine zaw_sld hq dL_law_1319 (by omega) ?_
  refine zaw_callV 9 0 0 dL_law_1320 yw_X9_meet ml_L_173 in_X9_meet se_X9_meet (ci := 8) rfl at_140 (as := [_, _]) rfl rfl ⟨by decide, by omega, by omega, Nat.le_of_ble_eq_true rfl⟩ ?_
  refine ag _ (fun b h2 e7 eb e0 l2 => ?_)
  refine az_ci ?_
  refine za_is7 rfl rfl dL_law_1323 ?_
  refine za_al2 (by decide) dL_law_1325 ?_
  refine zaw_callV 1 0 0 dL_law_1326 yw_X9_thrown ml_L_115 in_X9_thrown se_X9_thrown (ci := 8) rfl at_140 (as := []) rfl rfl ⟨by decide, by omega, by omega, Nat.le_of_ble_eq_true rfl⟩ ?_
  refine ac_thrown ?_
  refine az_ci ?_
  refine za_il6 dL_law_1329 ?_
  refine zaw_icmp_eq 1336 dL_law_1331 (by decide) (fun c1331 => ?_) (fun c1331 => ?_)
  · refine za_il6 dL_law_1336 ?_
    refine zaw_if_ne 1353 dL_law_1338 (by decide) (fun c1338 => ?_) (fun c1338 => ?_)
    · refine zaw_goto 1999 dL_law_1353 (by decide) ?_
      exact J h2 _ _ _ _ l2 rfl (by omega) (by omega)
    · have k0 : k = 0 := by omega
      have e1 : h2 157 0 = b := by rw [e0, e k0, eb k0]
      refine za_al3 (by decide) dL_law_1341 ?_
      refine zaw_iconst dL_law_1342 (by decide) ?_
      refine zaw_lald dL_law_1343 ar_157 (by omega) ?_
      refine za_il7 dL_law_1344 ?_
      refine zaw_i2l dL_law_1346 ?_
      refine zaw_lcmp dL_law_1347 ?_
      refine zaw_if_eq 1353 dL_law_1348 (by decide) (fun c1348 => ?_) (fun c1348 => ?_)
      · refine zaw_goto 1999 dL_law_1353 (by decide) ?_
        exact J h2 _ _ _ _ l2 rfl (by omega) (by omega)
      · exfalso
        refine c1348 ?_
        rw [if_neg (by omega), if_pos (by omega)]
  · exfalso
    omega
theorem lc_spares {xx : String × List (Nat × Nat × Nat × Nat)} {qz : Nat × (Nat → Int)} {mc ms : Nat} {K : AO → Nat → AH → Prop} {i : Int} {v6 v7 : AV} {h : AH} (hz : LQ qz) (hi : 0 ≤ i ∧ i + 6 ≤ qz.1) (hm : 3 ≤ mc ∧ 18 ≤ ms) (hL : LI h) (h6 : am_n2 v6 = true) (J : LJ xx qz mc ms K i) : AZ qz (mLw xx) 20 mc ms K 159 1356 [(2, 3000), (2, 0), (2, 140), (2, 157), (2, 158), (0, i), v6, v7] [] h := by
  obtain ⟨hQ, hq⟩ := hz
  refine za_al1 (by decide) dL_law_1356 ?_
  refine za_alX0 (by decide) dL_law_1357 ?_
  refine za_il5 dL_law_1358 ?_
  refine zaw_iconst dL_law_1360 (by decide) ?_
  refine zaw_iaddR (by omega) dL_law_1361 ?_
  refine zaw_sld hq dL_law_1362 (by omega) ?_
  refine za_alX0 (by decide) dL_law_1363 ?_
  refine za_il5 dL_law_1364 ?_
  refine zaw_iconst dL_law_1366 (by decide) ?_
  refine zaw_iaddR (by omega) dL_law_1367 ?_
  refine zaw_sld hq dL_law_1368 (by omega) ?_
  refine za_al3 (by decide) dL_law_1369 ?_
  refine zaw_callX 8 2 12 dL_law_1370 yw_L_spares ml_L_174 sm_L_spares (as := [_, _, _, _]) rfl rfl ⟨by decide, by omega, by omega, Nat.le_of_ble_eq_true rfl⟩ ?_
  refine ag_spares hL (fun k v h1 e ag => ?_)
  refine az_ci ?_
  refine za_is6 rfl rfl dL_law_1373 ?_
  refine za_al2 (by decide) dL_law_1375 ?_
  refine za_alX0 (by decide) dL_law_1376 ?_
  refine za_il5 dL_law_1377 ?_
  refine zaw_iconst dL_law_1379 (by decide) ?_
  refine zaw_iaddR (by omega) dL_law_1380 ?_
  refine zaw_sld hq dL_law_1381 (by omega) ?_
  refine za_alX0 (by decide) dL_law_1382 ?_
  refine za_il5 dL_law_1383 ?_
  refine zaw_iconst dL_law_1385 (by decide) ?_
  refine zaw_iaddR (by omega) dL_law_1386 ?_
  refine zaw_sld hq dL_law_1387 (by omega) ?_
  refine zaw_callV 9 0 0 dL_law_1388 yw_X9_spares ml_L_176 in_X9_spares se_X9_spares (ci := 8) rfl at_140 (as := [_, _]) rfl rfl ⟨by decide, by omega, by omega, Nat.le_of_ble_eq_true rfl⟩ ?_
  refine ag _ (fun b h2 e7 eb e0 l2 => ?_)
  refine az_ci ?_
  refine za_is7 rfl rfl dL_law_1391 ?_
  refine za_al2 (by decide) dL_law_1393 ?_
  refine zaw_callV 1 0 0 dL_law_1394 yw_X9_thrown ml_L_115 in_X9_thrown se_X9_thrown (ci := 8) rfl at_140 (as := []) rfl rfl ⟨by decide, by omega, by omega, Nat.le_of_ble_eq_true rfl⟩ ?_
  refine ac_thrown ?_
  refine az_ci ?_
  refine za_il6 dL_law_1397 ?_
  refine zaw_icmp_eq 1404 dL_law_1399 (by decide) (fun c1399 => ?_) (fun c1399 => ?_)
  · refine za_il6 dL_law_1404 ?_
    refine zaw_if_ne 1421 dL_law_1406 (by decide) (fun c1406 => ?_) (fun c1406 => ?_)
    · refine zaw_goto 1999 dL_law_1421 (by decide) ?_
      exact J h2 _ _ _ _ l2 rfl (by omega) (by omega)
    · have k0 : k = 0 := by omega
      have e1 : h2 157 0 = b := by rw [e0, e k0, eb k0]
      refine za_al3 (by decide) dL_law_1409 ?_
      refine zaw_iconst dL_law_1410 (by decide) ?_
      refine zaw_lald dL_law_1411 ar_157 (by omega) ?_
      refine za_il7 dL_law_1412 ?_
      refine zaw_i2l dL_law_1414 ?_
      refine zaw_lcmp dL_law_1415 ?_
      refine zaw_if_eq 1421 dL_law_1416 (by decide) (fun c1416 => ?_) (fun c1416 => ?_)
      · refine zaw_goto 1999 dL_law_1421 (by decide) ?_
        exact J h2 _ _ _ _ l2 rfl (by omega) (by omega)
      · exfalso
        refine c1416 ?_
        rw [if_neg (by omega), if_pos (by omega)]
  · exfalso
    omega
theorem lc_bestWind {xx : String × List (Nat × Nat × Nat × Nat)} {qz : Nat × (Nat → Int)} {mc ms : Nat} {K : AO → Nat → AH → Prop} {i : Int} {v6 v7 : AV} {h : AH} (hz : LQ qz) (hi : 0 ≤ i ∧ i + 6 ≤ qz.1) (hm : 3 ≤ mc ∧ 18 ≤ ms) (hL : LI h) (h6 : am_n2 v6 = true) (J : LJ xx qz mc ms K i) : AZ qz (mLw xx) 20 mc ms K 159 1424 [(2, 3000), (2, 0), (2, 140), (2, 157), (2, 158), (0, i), v6, v7] [] h := by
  obtain ⟨hQ, hq⟩ := hz
  refine za_al1 (by decide) dL_law_1424 ?_
  refine za_alX0 (by decide) dL_law_1425 ?_
  refine za_il5 dL_law_1426 ?_
  refine zaw_iconst dL_law_1428 (by decide) ?_
  refine zaw_iaddR (by omega) dL_law_1429 ?_
  refine zaw_sld hq dL_law_1430 (by omega) ?_
  refine za_al3 (by decide) dL_law_1431 ?_
  refine zaw_callX 8 1 6 dL_law_1432 yw_L_bestWind ml_L_177 sm_L_bestWind (as := [_, _, _]) rfl rfl ⟨by decide, by omega, by omega, Nat.le_of_ble_eq_true rfl⟩ ?_
  refine ag_bestWind hL (fun k v h1 e ag => ?_)
  refine az_ci ?_
  refine za_is6 rfl rfl dL_law_1435 ?_
  refine za_al2 (by decide) dL_law_1437 ?_
  refine za_alX0 (by decide) dL_law_1438 ?_
  refine za_il5 dL_law_1439 ?_
  refine zaw_iconst dL_law_1441 (by decide) ?_
  refine zaw_iaddR (by omega) dL_law_1442 ?_
  refine zaw_sld hq dL_law_1443 (by omega) ?_
  refine zaw_callV 9 0 0 dL_law_1444 yw_X9_bestWind ml_L_179 in_X9_bestWind se_X9_bestWind (ci := 8) rfl at_140 (as := [_]) rfl rfl ⟨by decide, by omega, by omega, Nat.le_of_ble_eq_true rfl⟩ ?_
  refine ag _ (fun b h2 e7 eb e0 l2 => ?_)
  refine az_ci ?_
  refine za_is7 rfl rfl dL_law_1447 ?_
  refine za_al2 (by decide) dL_law_1449 ?_
  refine zaw_callV 1 0 0 dL_law_1450 yw_X9_thrown ml_L_115 in_X9_thrown se_X9_thrown (ci := 8) rfl at_140 (as := []) rfl rfl ⟨by decide, by omega, by omega, Nat.le_of_ble_eq_true rfl⟩ ?_
  refine ac_thrown ?_
  refine az_ci ?_
  refine za_il6 dL_law_1453 ?_
  refine zaw_icmp_eq 1460 dL_law_1455 (by decide) (fun c1455 => ?_) (fun c1455 => ?_)
  · refine za_il6 dL_law_1460 ?_
    refine zaw_if_ne 1477 dL_law_1462 (by decide) (fun c1462 => ?_) (fun c1462 => ?_)
    · refine zaw_goto 1999 dL_law_1477 (by decide) ?_
      exact J h2 _ _ _ _ l2 rfl (by omega) (by omega)
    · have k0 : k = 0 := by omega
      have e1 : h2 157 0 = b := by rw [e0, e k0, eb k0]
      refine za_al3 (by decide) dL_law_1465 ?_
      refine zaw_iconst dL_law_1466 (by decide) ?_
      refine zaw_lald dL_law_1467 ar_157 (by omega) ?_
      refine za_il7 dL_law_1468 ?_
      refine zaw_i2l dL_law_1470 ?_
      refine zaw_lcmp dL_law_1471 ?_
      refine zaw_if_eq 1477 dL_law_1472 (by decide) (fun c1472 => ?_) (fun c1472 => ?_)
      · refine zaw_goto 1999 dL_law_1477 (by decide) ?_
        exact J h2 _ _ _ _ l2 rfl (by omega) (by omega)
      · exfalso
        refine c1472 ?_
        rw [if_neg (by omega), if_pos (by omega)]
  · exfalso
    omega
theorem lc_pace {xx : String × List (Nat × Nat × Nat × Nat)} {qz : Nat × (Nat → Int)} {mc ms : Nat} {K : AO → Nat → AH → Prop} {i : Int} {v6 v7 : AV} {h : AH} (hz : LQ qz) (hi : 0 ≤ i ∧ i + 6 ≤ qz.1) (hm : 3 ≤ mc ∧ 18 ≤ ms) (hL : LI h) (h6 : am_n2 v6 = true) (J : LJ xx qz mc ms K i) : AZ qz (mLw xx) 20 mc ms K 159 1480 [(2, 3000), (2, 0), (2, 140), (2, 157), (2, 158), (0, i), v6, v7] [] h := by
  obtain ⟨hQ, hq⟩ := hz
  refine za_al1 (by decide) dL_law_1480 ?_
  refine za_alX0 (by decide) dL_law_1481 ?_
  refine za_il5 dL_law_1482 ?_
  refine zaw_iconst dL_law_1484 (by decide) ?_
  refine zaw_iaddR (by omega) dL_law_1485 ?_
  refine zaw_sld hq dL_law_1486 (by omega) ?_
  refine za_al4 (by decide) dL_law_1487 ?_
  refine zaw_callX 8 1 6 dL_law_1489 yw_L_pace ml_L_180 sm_L_pace (as := [_, _, _]) rfl rfl ⟨by decide, by omega, by omega, Nat.le_of_ble_eq_true rfl⟩ ?_
  refine ag_pace hL (fun k v h1 e ag => ?_)
  refine az_ci ?_
  refine za_is6 rfl rfl dL_law_1492 ?_
  refine za_al2 (by decide) dL_law_1494 ?_
  refine za_alX0 (by decide) dL_law_1495 ?_
  refine za_il5 dL_law_1496 ?_
  refine zaw_iconst dL_law_1498 (by decide) ?_
  refine zaw_iaddR (by omega) dL_law_1499 ?_
  refine zaw_sld hq dL_law_1500 (by omega) ?_
  refine zaw_callV 9 0 0 dL_law_1501 yw_X9_pace ml_L_183 in_X9_pace se_X9_pace (ci := 8) rfl at_140 (as := [_]) rfl rfl ⟨by decide, by omega, by omega, Nat.le_of_ble_eq_true rfl⟩ ?_
  refine ag _ (fun b h2 e7 eb e0 l2 => ?_)
  refine az_ci ?_
  refine za_fs7 rfl rfl dL_law_1504 ?_
  refine za_al2 (by decide) dL_law_1506 ?_
  refine zaw_callV 1 0 0 dL_law_1507 yw_X9_thrown ml_L_115 in_X9_thrown se_X9_thrown (ci := 8) rfl at_140 (as := []) rfl rfl ⟨by decide, by omega, by omega, Nat.le_of_ble_eq_true rfl⟩ ?_
  refine ac_thrown ?_
  refine az_ci ?_
  refine za_il6 dL_law_1510 ?_
  refine zaw_icmp_eq 1517 dL_law_1512 (by decide) (fun c1512 => ?_) (fun c1512 => ?_)
  · refine za_il6 dL_law_1517 ?_
    refine zaw_if_ne 1555 dL_law_1519 (by decide) (fun c1519 => ?_) (fun c1519 => ?_)
    · refine zaw_goto 1999 dL_law_1555 (by decide) ?_
      exact J h2 _ _ _ _ l2 rfl (by omega) (by omega)
    · have k0 : k = 0 := by omega
      obtain ⟨e1, e2, e3⟩ := e k0
      have eb := eb k0
      rw [← eb] at e1 e2 e3
      refine za_al4 (by decide) dL_law_1522 ?_
      refine zaw_iconst dL_law_1524 (by decide) ?_
      refine zaw_dald dL_law_1525 ar_158 (by omega) ?_
      rw [e0, e1]
      refine za_fl7 dL_law_1526 ?_
      refine zaw_f2d dL_law_1528 e2 ?_
      refine zaw_dcmpl dL_law_1529 ?_
      rw [e3]
      refine zaw_if_eq 1555 dL_law_1530 (by decide) (fun c1530 => ?_) (fun c1530 => ?_)
      · refine zaw_goto 1999 dL_law_1555 (by decide) ?_
        exact J h2 _ _ _ _ l2 rfl (by omega) (by omega)
      · exfalso
        omega
  · exfalso
    omega
theorem lc_write {xx : String × List (Nat × Nat × Nat × Nat)} {qz : Nat × (Nat → Int)} {mc ms : Nat} {K : AO → Nat → AH → Prop} {i : Int} {v6 v7 : AV} {h : AH} (hz : LQ qz) (hi : 0 ≤ i ∧ i + 6 ≤ qz.1) (hm : 3 ≤ mc ∧ 18 ≤ ms) (hL : LI h) (h6 : am_n2 v6 = true) (J : LJ xx qz mc ms K i) : AZ qz (mLw xx) 20 mc ms K 159 1558 [(2, 3000), (2, 0), (2, 140), (2, 157), (2, 158), (0, i), v6, v7] [] h := by
  obtain ⟨hQ, hq⟩ := hz
  refine za_al1 (by decide) dL_law_1558 ?_
  refine za_alX0 (by decide) dL_law_1559 ?_
  refine za_il5 dL_law_1560 ?_
  refine zaw_iconst dL_law_1562 (by decide) ?_
  refine zaw_iaddR (by omega) dL_law_1563 ?_
  refine zaw_sld hq dL_law_1564 (by omega) ?_
  refine za_al3 (by decide) dL_law_1565 ?_
  refine zaw_callX 8 2 12 dL_law_1566 yw_L_write ml_L_184 sm_L_write (as := [_, _, _]) rfl rfl ⟨by decide, by omega, by omega, Nat.le_of_ble_eq_true rfl⟩ ?_
  refine ag_write hL (fun k v h1 e ag => ?_)
  refine az_ci ?_
  refine za_is6 rfl rfl dL_law_1569 ?_
  refine za_al2 (by decide) dL_law_1571 ?_
  refine za_alX0 (by decide) dL_law_1572 ?_
  refine za_il5 dL_law_1573 ?_
  refine zaw_iconst dL_law_1575 (by decide) ?_
  refine zaw_iaddR (by omega) dL_law_1576 ?_
  refine zaw_sld hq dL_law_1577 (by omega) ?_
  refine zaw_callV 6 0 0 dL_law_1578 yw_X9_write ml_L_186 in_X9_write se_X9_write (ci := 8) rfl at_140 (as := [_]) rfl rfl ⟨by decide, by omega, by omega, Nat.le_of_ble_eq_true rfl⟩ ?_
  refine ag _ (fun b h2 e7 eb e0 l2 => ?_)
  refine az_ci ?_
  refine za_is7 rfl rfl dL_law_1581 ?_
  refine za_al2 (by decide) dL_law_1583 ?_
  refine zaw_callV 1 0 0 dL_law_1584 yw_X9_thrown ml_L_115 in_X9_thrown se_X9_thrown (ci := 8) rfl at_140 (as := []) rfl rfl ⟨by decide, by omega, by omega, Nat.le_of_ble_eq_true rfl⟩ ?_
  refine ac_thrown ?_
  refine az_ci ?_
  refine za_il6 dL_law_1587 ?_
  refine zaw_icmp_eq 1594 dL_law_1589 (by decide) (fun c1589 => ?_) (fun c1589 => ?_)
  · refine za_il6 dL_law_1594 ?_
    refine zaw_if_ne 1611 dL_law_1596 (by decide) (fun c1596 => ?_) (fun c1596 => ?_)
    · refine zaw_goto 1999 dL_law_1611 (by decide) ?_
      exact J h2 _ _ _ _ l2 rfl (by omega) (by omega)
    · have k0 : k = 0 := by omega
      have e1 : h2 157 0 = b := by rw [e0, e k0, eb k0]
      refine za_al3 (by decide) dL_law_1599 ?_
      refine zaw_iconst dL_law_1600 (by decide) ?_
      refine zaw_lald dL_law_1601 ar_157 (by omega) ?_
      refine za_il7 dL_law_1602 ?_
      refine zaw_i2l dL_law_1604 ?_
      refine zaw_lcmp dL_law_1605 ?_
      refine zaw_if_eq 1611 dL_law_1606 (by decide) (fun c1606 => ?_) (fun c1606 => ?_)
      · refine zaw_goto 1999 dL_law_1611 (by decide) ?_
        exact J h2 _ _ _ _ l2 rfl (by omega) (by omega)
      · exfalso
        refine c1606 ?_
        rw [if_neg (by omega), if_pos (by omega)]
  · exfalso
    omega
theorem lc_seal {xx : String × List (Nat × Nat × Nat × Nat)} {qz : Nat × (Nat → Int)} {mc ms : Nat} {K : AO → Nat → AH → Prop} {i : Int} {v6 v7 : AV} {h : AH} (hz : LQ qz) (hi : 0 ≤ i ∧ i + 6 ≤ qz.1) (hm : 3 ≤ mc ∧ 18 ≤ ms) (hL : LI h) (h6 : am_n2 v6 = true) (J : LJ xx qz mc ms K i) : AZ qz (mLw xx) 20 mc ms K 159 1614 [(2, 3000), (2, 0), (2, 140), (2, 157), (2, 158), (0, i), v6, v7] [] h := by
  obtain ⟨hQ, hq⟩ := hz
  refine za_al1 (by decide) dL_law_1614 ?_
  refine za_alX0 (by decide) dL_law_1615 ?_
  refine za_il5 dL_law_1616 ?_
  refine zaw_iconst dL_law_1618 (by decide) ?_
  refine zaw_iaddR (by omega) dL_law_1619 ?_
  refine zaw_sld hq dL_law_1620 (by omega) ?_
  refine za_alX0 (by decide) dL_law_1621 ?_
  refine za_il5 dL_law_1622 ?_
  refine zaw_iconst dL_law_1624 (by decide) ?_
  refine zaw_iaddR (by omega) dL_law_1625 ?_
  refine zaw_sld hq dL_law_1626 (by omega) ?_
  refine za_al3 (by decide) dL_law_1627 ?_
  refine zaw_callX 8 2 12 dL_law_1628 yw_L_seal ml_L_187 sm_L_seal (as := [_, _, _, _]) rfl rfl ⟨by decide, by omega, by omega, Nat.le_of_ble_eq_true rfl⟩ ?_
  refine ag_seal hL (fun k v h1 e ag => ?_)
  refine az_ci ?_
  refine za_is6 rfl rfl dL_law_1631 ?_
  refine za_al2 (by decide) dL_law_1633 ?_
  refine za_alX0 (by decide) dL_law_1634 ?_
  refine za_il5 dL_law_1635 ?_
  refine zaw_iconst dL_law_1637 (by decide) ?_
  refine zaw_iaddR (by omega) dL_law_1638 ?_
  refine zaw_sld hq dL_law_1639 (by omega) ?_
  refine za_alX0 (by decide) dL_law_1640 ?_
  refine za_il5 dL_law_1641 ?_
  refine zaw_iconst dL_law_1643 (by decide) ?_
  refine zaw_iaddR (by omega) dL_law_1644 ?_
  refine zaw_sld hq dL_law_1645 (by omega) ?_
  refine zaw_callV 4 0 0 dL_law_1646 yw_X9_seal ml_L_189 in_X9_seal se_X9_seal (ci := 8) rfl at_140 (as := [_, _]) rfl rfl ⟨by decide, by omega, by omega, Nat.le_of_ble_eq_true rfl⟩ ?_
  refine ag _ (fun b h2 e7 eb e0 l2 => ?_)
  refine az_ci ?_
  refine za_is7 rfl rfl dL_law_1649 ?_
  refine za_al2 (by decide) dL_law_1651 ?_
  refine zaw_callV 1 0 0 dL_law_1652 yw_X9_thrown ml_L_115 in_X9_thrown se_X9_thrown (ci := 8) rfl at_140 (as := []) rfl rfl ⟨by decide, by omega, by omega, Nat.le_of_ble_eq_true rfl⟩ ?_
  refine ac_thrown ?_
  refine az_ci ?_
  refine za_il6 dL_law_1655 ?_
  refine zaw_icmp_eq 1662 dL_law_1657 (by decide) (fun c1657 => ?_) (fun c1657 => ?_)
  · refine za_il6 dL_law_1662 ?_
    refine zaw_if_ne 1679 dL_law_1664 (by decide) (fun c1664 => ?_) (fun c1664 => ?_)
    · refine zaw_goto 1999 dL_law_1679 (by decide) ?_
      exact J h2 _ _ _ _ l2 rfl (by omega) (by omega)
    · have k0 : k = 0 := by omega
      have e1 : h2 157 0 = b := by rw [e0, e k0, eb k0]
      refine za_al3 (by decide) dL_law_1667 ?_
      refine zaw_iconst dL_law_1668 (by decide) ?_
      refine zaw_lald dL_law_1669 ar_157 (by omega) ?_
      refine za_il7 dL_law_1670 ?_
      refine zaw_i2l dL_law_1672 ?_
      refine zaw_lcmp dL_law_1673 ?_
      refine zaw_if_eq 1679 dL_law_1674 (by decide) (fun c1674 => ?_) (fun c1674 => ?_)
      · refine zaw_goto 1999 dL_law_1679 (by decide) ?_
        exact J h2 _ _ _ _ l2 rfl (by omega) (by omega)
      · exfalso
        refine c1674 ?_
        rw [if_neg (by omega), if_pos (by omega)]
  · exfalso
    omega
theorem lc_run {xx : String × List (Nat × Nat × Nat × Nat)} {qz : Nat × (Nat → Int)} {mc ms : Nat} {K : AO → Nat → AH → Prop} {i : Int} {v6 v7 : AV} {h : AH} (hz : LQ qz) (hi : 0 ≤ i ∧ i + 6 ≤ qz.1) (hm : 3 ≤ mc ∧ 18 ≤ ms) (hL : LI h) (h6 : am_n2 v6 = true) (J : LJ xx qz mc ms K i) : AZ qz (mLw xx) 20 mc ms K 159 1682 [(2, 3000), (2, 0), (2, 140), (2, 157), (2, 158), (0, i), v6, v7] [] h := by
  obtain ⟨hQ, hq⟩ := hz
  refine za_al1 (by decide) dL_law_1682 ?_
  refine za_al3 (by decide) dL_law_1683 ?_
  refine zaw_callX 8 2 12 dL_law_1684 yw_L_run ml_L_190 sm_L_run (as := [_, _]) rfl rfl ⟨by decide, by omega, by omega, Nat.le_of_ble_eq_true rfl⟩ ?_
  refine ag_run hL (fun k v h1 e ag => ?_)
  refine az_ci ?_
  refine za_is6 rfl rfl dL_law_1687 ?_
  refine za_al2 (by decide) dL_law_1689 ?_
  refine zaw_callV 9 0 0 dL_law_1690 yw_X9_run ml_L_193 in_X9_run se_X9_run (ci := 8) rfl at_140 (as := []) rfl rfl ⟨by decide, by omega, by omega, Nat.le_of_ble_eq_true rfl⟩ ?_
  refine ag _ (fun b h2 e7 eb e0 l2 => ?_)
  refine az_ci ?_
  refine za_is7 rfl rfl dL_law_1693 ?_
  refine za_al2 (by decide) dL_law_1695 ?_
  refine zaw_callV 1 0 0 dL_law_1696 yw_X9_thrown ml_L_115 in_X9_thrown se_X9_thrown (ci := 8) rfl at_140 (as := []) rfl rfl ⟨by decide, by omega, by omega, Nat.le_of_ble_eq_true rfl⟩ ?_
  refine ac_thrown ?_
  refine az_ci ?_
  refine za_il6 dL_law_1699 ?_
  refine zaw_icmp_eq 1706 dL_law_1701 (by decide) (fun c1701 => ?_) (fun c1701 => ?_)
  · refine za_il6 dL_law_1706 ?_
    refine zaw_if_ne 1723 dL_law_1708 (by decide) (fun c1708 => ?_) (fun c1708 => ?_)
    · refine zaw_goto 1999 dL_law_1723 (by decide) ?_
      exact J h2 _ _ _ _ l2 rfl (by omega) (by omega)
    · have k0 : k = 0 := by omega
      have e1 : h2 157 0 = b := by rw [e0, e k0, eb k0]
      refine za_al3 (by decide) dL_law_1711 ?_
      refine zaw_iconst dL_law_1712 (by decide) ?_
      refine zaw_lald dL_law_1713 ar_157 (by omega) ?_
      refine za_il7 dL_law_1714 ?_
      refine zaw_i2l dL_law_1716 ?_
      refine zaw_lcmp dL_law_1717 ?_
      refine zaw_if_eq 1723 dL_law_1718 (by decide) (fun c1718 => ?_) (fun c1718 => ?_)
      · refine zaw_goto 1999 dL_law_1723 (by decide) ?_
        exact J h2 _ _ _ _ l2 rfl (by omega) (by omega)
      · exfalso
        refine c1718 ?_
        rw [if_neg (by omega), if_pos (by omega)]
  · exfalso
    omega
theorem lc_setWind {xx : String × List (Nat × Nat × Nat × Nat)} {qz : Nat × (Nat → Int)} {mc ms : Nat} {K : AO → Nat → AH → Prop} {i : Int} {v6 v7 : AV} {h : AH} (hz : LQ qz) (hi : 0 ≤ i ∧ i + 6 ≤ qz.1) (hm : 3 ≤ mc ∧ 18 ≤ ms) (hL : LI h) (h6 : am_n2 v6 = true) (J : LJ xx qz mc ms K i) : AZ qz (mLw xx) 20 mc ms K 159 1726 [(2, 3000), (2, 0), (2, 140), (2, 157), (2, 158), (0, i), v6, v7] [] h := by
  obtain ⟨hQ, hq⟩ := hz
  refine za_al1 (by decide) dL_law_1726 ?_
  refine za_alX0 (by decide) dL_law_1727 ?_
  refine za_il5 dL_law_1728 ?_
  refine zaw_iconst dL_law_1730 (by decide) ?_
  refine zaw_iaddR (by omega) dL_law_1731 ?_
  refine zaw_sld hq dL_law_1732 (by omega) ?_
  refine za_alX0 (by decide) dL_law_1733 ?_
  refine za_il5 dL_law_1734 ?_
  refine zaw_iconst dL_law_1736 (by decide) ?_
  refine zaw_iaddR (by omega) dL_law_1737 ?_
  refine zaw_sld hq dL_law_1738 (by omega) ?_
  refine za_al3 (by decide) dL_law_1739 ?_
  refine zaw_callX 7 1 6 dL_law_1740 yw_L_setWind ml_L_194 sm_L_setWind (as := [_, _, _, _]) rfl rfl ⟨by decide, by omega, by omega, Nat.le_of_ble_eq_true rfl⟩ ?_
  refine ag_setWind hL (fun k v h1 e ag => ?_)
  refine az_ci ?_
  refine za_is6 rfl rfl dL_law_1743 ?_
  refine za_al2 (by decide) dL_law_1745 ?_
  refine za_alX0 (by decide) dL_law_1746 ?_
  refine za_il5 dL_law_1747 ?_
  refine zaw_iconst dL_law_1749 (by decide) ?_
  refine zaw_iaddR (by omega) dL_law_1750 ?_
  refine zaw_sld hq dL_law_1751 (by omega) ?_
  refine za_alX0 (by decide) dL_law_1752 ?_
  refine za_il5 dL_law_1753 ?_
  refine zaw_iconst dL_law_1755 (by decide) ?_
  refine zaw_iaddR (by omega) dL_law_1756 ?_
  refine zaw_sld hq dL_law_1757 (by omega) ?_
  refine zaw_callV 3 0 0 dL_law_1758 yw_X9_setWind ml_L_196 in_X9_setWind se_X9_setWind (ci := 8) rfl at_140 (as := [_, _]) rfl rfl ⟨by decide, by omega, by omega, Nat.le_of_ble_eq_true rfl⟩ ?_
  refine ag _ (fun b h2 e7 eb e0 l2 => ?_)
  refine az_ci ?_
  refine za_is7 rfl rfl dL_law_1761 ?_
  refine za_al2 (by decide) dL_law_1763 ?_
  refine zaw_callV 1 0 0 dL_law_1764 yw_X9_thrown ml_L_115 in_X9_thrown se_X9_thrown (ci := 8) rfl at_140 (as := []) rfl rfl ⟨by decide, by omega, by omega, Nat.le_of_ble_eq_true rfl⟩ ?_
  refine ac_thrown ?_
  refine az_ci ?_
  refine za_il6 dL_law_1767 ?_
  refine zaw_icmp_eq 1774 dL_law_1769 (by decide) (fun c1769 => ?_) (fun c1769 => ?_)
  · refine za_il6 dL_law_1774 ?_
    refine zaw_if_ne 1791 dL_law_1776 (by decide) (fun c1776 => ?_) (fun c1776 => ?_)
    · refine zaw_goto 1999 dL_law_1791 (by decide) ?_
      exact J h2 _ _ _ _ l2 rfl (by omega) (by omega)
    · have k0 : k = 0 := by omega
      have e1 : h2 157 0 = b := by rw [e0, e k0, eb k0]
      refine za_al3 (by decide) dL_law_1779 ?_
      refine zaw_iconst dL_law_1780 (by decide) ?_
      refine zaw_lald dL_law_1781 ar_157 (by omega) ?_
      refine za_il7 dL_law_1782 ?_
      refine zaw_i2l dL_law_1784 ?_
      refine zaw_lcmp dL_law_1785 ?_
      refine zaw_if_eq 1791 dL_law_1786 (by decide) (fun c1786 => ?_) (fun c1786 => ?_)
      · refine zaw_goto 1999 dL_law_1791 (by decide) ?_
        exact J h2 _ _ _ _ l2 rfl (by omega) (by omega)
      · exfalso
        refine c1786 ?_
        rw [if_neg (by omega), if_pos (by omega)]
  · exfalso
    omega
theorem lc_undo {xx : String × List (Nat × Nat × Nat × Nat)} {qz : Nat × (Nat → Int)} {mc ms : Nat} {K : AO → Nat → AH → Prop} {i : Int} {v6 v7 : AV} {h : AH} (hz : LQ qz) (hi : 0 ≤ i ∧ i + 6 ≤ qz.1) (hm : 3 ≤ mc ∧ 18 ≤ ms) (hL : LI h) (h6 : am_n2 v6 = true) (J : LJ xx qz mc ms K i) : AZ qz (mLw xx) 20 mc ms K 159 1794 [(2, 3000), (2, 0), (2, 140), (2, 157), (2, 158), (0, i), v6, v7] [] h := by
  obtain ⟨hQ, hq⟩ := hz
  refine za_al1 (by decide) dL_law_1794 ?_
  refine za_al3 (by decide) dL_law_1795 ?_
  refine zaw_callX 7 1 6 dL_law_1796 yw_L_undo ml_L_197 sm_L_undo (as := [_, _]) rfl rfl ⟨by decide, by omega, by omega, Nat.le_of_ble_eq_true rfl⟩ ?_
  refine ag_undo hL (fun k v h1 e ag => ?_)
  refine az_ci ?_
  refine za_is6 rfl rfl dL_law_1799 ?_
  refine za_al2 (by decide) dL_law_1801 ?_
  refine zaw_callV 3 0 0 dL_law_1802 yw_X9_undo ml_L_199 in_X9_undo se_X9_undo (ci := 8) rfl at_140 (as := []) rfl rfl ⟨by decide, by omega, by omega, Nat.le_of_ble_eq_true rfl⟩ ?_
  refine ag _ (fun b h2 e7 eb e0 l2 => ?_)
  refine az_ci ?_
  refine za_is7 rfl rfl dL_law_1805 ?_
  refine za_al2 (by decide) dL_law_1807 ?_
  refine zaw_callV 1 0 0 dL_law_1808 yw_X9_thrown ml_L_115 in_X9_thrown se_X9_thrown (ci := 8) rfl at_140 (as := []) rfl rfl ⟨by decide, by omega, by omega, Nat.le_of_ble_eq_true rfl⟩ ?_
  refine ac_thrown ?_
  refine az_ci ?_
  refine za_il6 dL_law_1811 ?_
  refine zaw_icmp_eq 1818 dL_law_1813 (by decide) (fun c1813 => ?_) (fun c1813 => ?_)
  · refine za_il6 dL_law_1818 ?_
    refine zaw_if_ne 1835 dL_law_1820 (by decide) (fun c1820 => ?_) (fun c1820 => ?_)
    · refine zaw_goto 1999 dL_law_1835 (by decide) ?_
      exact J h2 _ _ _ _ l2 rfl (by omega) (by omega)
    · have k0 : k = 0 := by omega
      have e1 : h2 157 0 = b := by rw [e0, e k0, eb k0]
      refine za_al3 (by decide) dL_law_1823 ?_
      refine zaw_iconst dL_law_1824 (by decide) ?_
      refine zaw_lald dL_law_1825 ar_157 (by omega) ?_
      refine za_il7 dL_law_1826 ?_
      refine zaw_i2l dL_law_1828 ?_
      refine zaw_lcmp dL_law_1829 ?_
      refine zaw_if_eq 1835 dL_law_1830 (by decide) (fun c1830 => ?_) (fun c1830 => ?_)
      · refine zaw_goto 1999 dL_law_1835 (by decide) ?_
        exact J h2 _ _ _ _ l2 rfl (by omega) (by omega)
      · exfalso
        refine c1830 ?_
        rw [if_neg (by omega), if_pos (by omega)]
  · exfalso
    omega
theorem lc_save {xx : String × List (Nat × Nat × Nat × Nat)} {qz : Nat × (Nat → Int)} {mc ms : Nat} {K : AO → Nat → AH → Prop} {i : Int} {v6 v7 : AV} {h : AH} (hz : LQ qz) (hi : 0 ≤ i ∧ i + 6 ≤ qz.1) (hm : 3 ≤ mc ∧ 18 ≤ ms) (hL : LI h) (h6 : am_n2 v6 = true) (J : LJ xx qz mc ms K i) : AZ qz (mLw xx) 20 mc ms K 159 1838 [(2, 3000), (2, 0), (2, 140), (2, 157), (2, 158), (0, i), v6, v7] [] h := by
  obtain ⟨hQ, hq⟩ := hz
  refine za_al1 (by decide) dL_law_1838 ?_
  refine za_alX0 (by decide) dL_law_1839 ?_
  refine za_il5 dL_law_1840 ?_
  refine zaw_iconst dL_law_1842 (by decide) ?_
  refine zaw_iaddR (by omega) dL_law_1843 ?_
  refine zaw_sld hq dL_law_1844 (by omega) ?_
  refine zaw_callX 8 1 6 dL_law_1845 yw_L_save ml_L_200 sm_L_save (as := [_, _]) rfl rfl ⟨by decide, by omega, by omega, Nat.le_of_ble_eq_true rfl⟩ ?_
  refine ag_save hL (fun k h1 ag => ?_)
  refine az_ci ?_
  refine za_is6 rfl rfl dL_law_1848 ?_
  refine za_al2 (by decide) dL_law_1850 ?_
  refine za_alX0 (by decide) dL_law_1851 ?_
  refine za_il5 dL_law_1852 ?_
  refine zaw_iconst dL_law_1854 (by decide) ?_
  refine zaw_iaddR (by omega) dL_law_1855 ?_
  refine zaw_sld hq dL_law_1856 (by omega) ?_
  refine zaw_callV 2 0 0 dL_law_1857 yw_X9_save ml_L_203 in_X9_save se_X9_save (ci := 8) rfl at_140 (as := [_]) rfl rfl ⟨by decide, by omega, by omega, Nat.le_of_ble_eq_true rfl⟩ ?_
  refine ag _ (fun h2 e7 l2 => ?_)
  refine az_cv ?_
  refine za_al2 (by decide) dL_law_1860 ?_
  refine zaw_callV 1 0 0 dL_law_1861 yw_X9_thrown ml_L_115 in_X9_thrown se_X9_thrown (ci := 8) rfl at_140 (as := []) rfl rfl ⟨by decide, by omega, by omega, Nat.le_of_ble_eq_true rfl⟩ ?_
  refine ac_thrown ?_
  refine az_ci ?_
  try simp (disch := omega) only [up_at, up_ne]
  refine za_il6 dL_law_1864 ?_
  refine zaw_icmp_eq 1871 dL_law_1866 (by decide) (fun c1866 => ?_) (fun c1866 => ?_)
  · refine zaw_goto 1999 dL_law_1871 (by decide) ?_
    exact J h2 _ _ _ _ l2 rfl (by omega) (by omega)
  · exfalso
    omega
theorem lc_restore {xx : String × List (Nat × Nat × Nat × Nat)} {qz : Nat × (Nat → Int)} {mc ms : Nat} {K : AO → Nat → AH → Prop} {i : Int} {v6 v7 : AV} {h : AH} (hz : LQ qz) (hi : 0 ≤ i ∧ i + 6 ≤ qz.1) (hm : 3 ≤ mc ∧ 18 ≤ ms) (hL : LI h) (h6 : am_n2 v6 = true) (J : LJ xx qz mc ms K i) : AZ qz (mLw xx) 20 mc ms K 159 1874 [(2, 3000), (2, 0), (2, 140), (2, 157), (2, 158), (0, i), v6, v7] [] h := by
  obtain ⟨hQ, hq⟩ := hz
  refine za_al1 (by decide) dL_law_1874 ?_
  refine za_alX0 (by decide) dL_law_1875 ?_
  refine za_il5 dL_law_1876 ?_
  refine zaw_iconst dL_law_1878 (by decide) ?_
  refine zaw_iaddR (by omega) dL_law_1879 ?_
  refine zaw_sld hq dL_law_1880 (by omega) ?_
  refine za_al3 (by decide) dL_law_1881 ?_
  refine zaw_callX 8 2 12 dL_law_1882 yw_L_restore ml_L_204 sm_L_restore (as := [_, _, _]) rfl rfl ⟨by decide, by omega, by omega, Nat.le_of_ble_eq_true rfl⟩ ?_
  refine ag_restore hL (fun k v h1 e ag => ?_)
  refine az_ci ?_
  refine za_is6 rfl rfl dL_law_1885 ?_
  refine za_al2 (by decide) dL_law_1887 ?_
  refine za_alX0 (by decide) dL_law_1888 ?_
  refine za_il5 dL_law_1889 ?_
  refine zaw_iconst dL_law_1891 (by decide) ?_
  refine zaw_iaddR (by omega) dL_law_1892 ?_
  refine zaw_sld hq dL_law_1893 (by omega) ?_
  refine zaw_callV 3 0 0 dL_law_1894 yw_X9_restore ml_L_206 in_X9_restore se_X9_restore (ci := 8) rfl at_140 (as := [_]) rfl rfl ⟨by decide, by omega, by omega, Nat.le_of_ble_eq_true rfl⟩ ?_
  refine ag _ (fun b h2 e7 eb e0 l2 => ?_)
  refine az_ci ?_
  refine za_is7 rfl rfl dL_law_1897 ?_
  refine za_al2 (by decide) dL_law_1899 ?_
  refine zaw_callV 1 0 0 dL_law_1900 yw_X9_thrown ml_L_115 in_X9_thrown se_X9_thrown (ci := 8) rfl at_140 (as := []) rfl rfl ⟨by decide, by omega, by omega, Nat.le_of_ble_eq_true rfl⟩ ?_
  refine ac_thrown ?_
  refine az_ci ?_
  refine za_il6 dL_law_1903 ?_
  refine zaw_icmp_eq 1910 dL_law_1905 (by decide) (fun c1905 => ?_) (fun c1905 => ?_)
  · refine za_il6 dL_law_1910 ?_
    refine zaw_if_ne 1927 dL_law_1912 (by decide) (fun c1912 => ?_) (fun c1912 => ?_)
    · refine zaw_goto 1999 dL_law_1927 (by decide) ?_
      exact J h2 _ _ _ _ l2 rfl (by omega) (by omega)
    · have k0 : k = 0 := by omega
      have e1 : h2 157 0 = b := by rw [e0, e k0, eb k0]
      refine za_al3 (by decide) dL_law_1915 ?_
      refine zaw_iconst dL_law_1916 (by decide) ?_
      refine zaw_lald dL_law_1917 ar_157 (by omega) ?_
      refine za_il7 dL_law_1918 ?_
      refine zaw_i2l dL_law_1920 ?_
      refine zaw_lcmp dL_law_1921 ?_
      refine zaw_if_eq 1927 dL_law_1922 (by decide) (fun c1922 => ?_) (fun c1922 => ?_)
      · refine zaw_goto 1999 dL_law_1927 (by decide) ?_
        exact J h2 _ _ _ _ l2 rfl (by omega) (by omega)
      · exfalso
        refine c1922 ?_
        rw [if_neg (by omega), if_pos (by omega)]
  · exfalso
    omega
theorem lc_writeShips {xx : String × List (Nat × Nat × Nat × Nat)} {qz : Nat × (Nat → Int)} {mc ms : Nat} {K : AO → Nat → AH → Prop} {i : Int} {v6 v7 : AV} {h : AH} (hz : LQ qz) (hi : 0 ≤ i ∧ i + 6 ≤ qz.1) (hm : 3 ≤ mc ∧ 18 ≤ ms) (hL : LI h) (h6 : am_n2 v6 = true) (J : LJ xx qz mc ms K i) : AZ qz (mLw xx) 20 mc ms K 159 1930 [(2, 3000), (2, 0), (2, 140), (2, 157), (2, 158), (0, i), v6, v7] [] h := by
  obtain ⟨hQ, hq⟩ := hz
  refine za_al1 (by decide) dL_law_1930 ?_
  refine zaw_callV 4 0 0 dL_law_1931 yw_X8_writeShips ml_L_207 in_X8_writeShips se_X8_writeShips (ci := 7) rfl at_0 (as := []) rfl rfl ⟨by decide, by omega, by omega, Nat.le_of_ble_eq_true rfl⟩ ?_
  refine ag_writeShips hL (fun v h1 ag => ?_)
  refine az_ci ?_
  refine za_al2 (by decide) dL_law_1934 ?_
  refine zaw_callV 4 0 0 dL_law_1935 yw_X9_writeShips ml_L_210 in_X9_writeShips se_X9_writeShips (ci := 8) rfl at_140 (as := []) rfl rfl ⟨by decide, by omega, by omega, Nat.le_of_ble_eq_true rfl⟩ ?_
  refine ag _ (fun b h2 eb l2 => ?_)
  refine az_ci ?_
  refine zaw_icmp_eq 1999 dL_law_1938 (by decide) (fun c1938 => ?_) (fun c1938 => ?_)
  · skip
    exact J h2 _ _ _ _ l2 h6 (by omega) (by omega)
  · exfalso
    omega
theorem lc_writtenByte {xx : String × List (Nat × Nat × Nat × Nat)} {qz : Nat × (Nat → Int)} {mc ms : Nat} {K : AO → Nat → AH → Prop} {i : Int} {v6 v7 : AV} {h : AH} (hz : LQ qz) (hi : 0 ≤ i ∧ i + 6 ≤ qz.1) (hm : 3 ≤ mc ∧ 18 ≤ ms) (hL : LI h) (h6 : am_n2 v6 = true) (J : LJ xx qz mc ms K i) : AZ qz (mLw xx) 20 mc ms K 159 1943 [(2, 3000), (2, 0), (2, 140), (2, 157), (2, 158), (0, i), v6, v7] [] h := by
  obtain ⟨hQ, hq⟩ := hz
  refine za_al1 (by decide) dL_law_1943 ?_
  refine za_alX0 (by decide) dL_law_1944 ?_
  refine za_il5 dL_law_1945 ?_
  refine zaw_iconst dL_law_1947 (by decide) ?_
  refine zaw_iaddR (by omega) dL_law_1948 ?_
  refine zaw_sld hq dL_law_1949 (by omega) ?_
  refine za_al3 (by decide) dL_law_1950 ?_
  refine zaw_callX 7 1 6 dL_law_1951 yw_L_writtenByte ml_L_211 sm_L_writtenByte (as := [_, _, _]) rfl rfl ⟨by decide, by omega, by omega, Nat.le_of_ble_eq_true rfl⟩ ?_
  refine ag_writtenByte hL (fun k v h1 e ag => ?_)
  refine az_ci ?_
  refine za_is6 rfl rfl dL_law_1954 ?_
  refine za_al2 (by decide) dL_law_1956 ?_
  refine za_alX0 (by decide) dL_law_1957 ?_
  refine za_il5 dL_law_1958 ?_
  refine zaw_iconst dL_law_1960 (by decide) ?_
  refine zaw_iaddR (by omega) dL_law_1961 ?_
  refine zaw_sld hq dL_law_1962 (by omega) ?_
  refine zaw_callV 2 0 0 dL_law_1963 yw_X9_writtenByte ml_L_213 in_X9_writtenByte se_X9_writtenByte (ci := 8) rfl at_140 (as := [_]) rfl rfl ⟨by decide, by omega, by omega, Nat.le_of_ble_eq_true rfl⟩ ?_
  refine ag _ (fun b h2 e7 eb e0 l2 => ?_)
  refine az_ci ?_
  refine za_is7 rfl rfl dL_law_1966 ?_
  refine za_al2 (by decide) dL_law_1968 ?_
  refine zaw_callV 1 0 0 dL_law_1969 yw_X9_thrown ml_L_115 in_X9_thrown se_X9_thrown (ci := 8) rfl at_140 (as := []) rfl rfl ⟨by decide, by omega, by omega, Nat.le_of_ble_eq_true rfl⟩ ?_
  refine ac_thrown ?_
  refine az_ci ?_
  refine za_il6 dL_law_1972 ?_
  refine zaw_icmp_eq 1979 dL_law_1974 (by decide) (fun c1974 => ?_) (fun c1974 => ?_)
  · refine za_il6 dL_law_1979 ?_
    refine zaw_if_ne 1996 dL_law_1981 (by decide) (fun c1981 => ?_) (fun c1981 => ?_)
    · refine zaw_goto 1999 dL_law_1996 (by decide) ?_
      exact J h2 _ _ _ _ l2 rfl (by omega) (by omega)
    · have k0 : k = 0 := by omega
      have e1 : h2 157 0 = b := by rw [e0, e k0, eb k0]
      refine za_al3 (by decide) dL_law_1984 ?_
      refine zaw_iconst dL_law_1985 (by decide) ?_
      refine zaw_lald dL_law_1986 ar_157 (by omega) ?_
      refine za_il7 dL_law_1987 ?_
      refine zaw_i2l dL_law_1989 ?_
      refine zaw_lcmp dL_law_1990 ?_
      refine zaw_if_eq 1996 dL_law_1991 (by decide) (fun c1991 => ?_) (fun c1991 => ?_)
      · refine zaw_goto 1999 dL_law_1996 (by decide) ?_
        exact J h2 _ _ _ _ l2 rfl (by omega) (by omega)
      · exfalso
        refine c1991 ?_
        rw [if_neg (by omega), if_pos (by omega)]
  · exfalso
    omega
theorem law_lp {xx : String × List (Nat × Nat × Nat × Nat)} {qz : Nat × (Nat → Int)} {K : AO → Nat → AH → Prop} (hz : LQ qz) (kk : ∀ h, K (.inl (some (0, 1))) 159 h) : ∀ (m : Nat) (i : Int) (h : AH) (mc ms : Nat) (v6 v7 : AV), LI h → am_n2 v6 = true → 0 ≤ i → i ≤ 4000 → (qz.1 : Int) < i + 6 * m + 6 → 3 * m ≤ mc → 18 * m ≤ ms → AZ qz (mLw xx) 20 mc ms K 159 28 [(2, 3000), (2, 0), (2, 140), (2, 157), (2, 158), (0, i), v6, v7] [] h
  | 0, i, h, mc, ms, v6, v7, hL, h6, i0, i4, hi, hm, hs => by
    obtain ⟨hQ, hq⟩ := hz
    refine za_il5 dL_law_28 ?_
    refine za_alX0 (by decide) dL_law_30 ?_
    refine zaw_slen hQ dL_law_31 ?_
    refine zaw_bipush dL_law_32 (by decide) ?_
    refine zaw_isubR (by omega) dL_law_34 ?_
    refine zaw_icmp_gt 2005 dL_law_35 (by decide) (fun c35 => ?_) (fun c35 => ?_)
    · refine zaw_iconst dL_law_2005 (by decide) ?_
      refine zaw_zret dL_law_2006 rfl (by omega) ?_
      exact kk h
    · exfalso
      omega
  | m + 1, i, h, mc, ms, v6, v7, hL, h6, i0, i4, hi, hm, hs => by
    have hz2 := hz
    obtain ⟨hQ, hq⟩ := hz
    refine za_il5 dL_law_28 ?_
    refine za_alX0 (by decide) dL_law_30 ?_
    refine zaw_slen hQ dL_law_31 ?_
    refine zaw_bipush dL_law_32 (by decide) ?_
    refine zaw_isubR (by omega) dL_law_34 ?_
    refine zaw_icmp_gt 2005 dL_law_35 (by decide) (fun c35 => ?_) (fun c35 => ?_)
    · refine zaw_iconst dL_law_2005 (by decide) ?_
      refine zaw_zret dL_law_2006 rfl (by omega) ?_
      exact kk h
    · have J : LJ xx qz mc ms K i := fun h' w6 w7 mc' ms' l' n6 b1 b2 => by
        refine za_iiR5 (by omega) rfl rfl dL_law_1999 ?_
        refine zaw_goto 28 dL_law_2002 (by decide) ?_
        exact law_lp hz2 kk m (i + 6) h' mc' ms' w6 w7 l' n6 (by omega) (by omega) (by omega) (by omega) (by omega)
      have hi2 : 0 ≤ i ∧ i + 6 ≤ qz.1 := by omega
      have hm2 : 3 ≤ mc ∧ 18 ≤ ms := by omega
      refine za_alX0 (by decide) dL_law_38 ?_
      refine za_il5 dL_law_39 ?_
      refine zaw_sld hq dL_law_41 (by omega) ?_
      refine zaw_bipush dL_law_42 (by decide) ?_
      refine zaw_iand dL_law_44 ?_
      rw [and31]
      have r := Int.emod_nonneg (qz.2 i.toNat) (show (32 : Int) ≠ 0 by decide)
      have r2 := Int.emod_lt_of_pos (qz.2 i.toNat) (show (0 : Int) < 32 by decide)
      obtain ⟨x, ex⟩ : ∃ x, x = qz.2 i.toNat % 32 := ⟨_, rfl⟩
      rw [← ex] at r r2 ⊢
      clear ex
      by_cases z : x ≤ 29
      · have : x = 0 ∨ x = 1 ∨ x = 2 ∨ x = 3 ∨ x = 4 ∨ x = 5 ∨ x = 6 ∨ x = 7 ∨ x = 8 ∨ x = 9 ∨ x = 10 ∨ x = 11 ∨ x = 12 ∨ x = 13 ∨ x = 14 ∨ x = 15 ∨ x = 16 ∨ x = 17 ∨ x = 18 ∨ x = 19 ∨ x = 20 ∨ x = 21 ∨ x = 22 ∨ x = 23 ∨ x = 24 ∨ x = 25 ∨ x = 26 ∨ x = 27 ∨ x = 28 ∨ x = 29 := by omega
        rcases this with rfl | rfl | rfl | rfl | rfl | rfl | rfl | rfl | rfl | rfl | rfl | rfl | rfl | rfl | rfl | rfl | rfl | rfl | rfl | rfl | rfl | rfl | rfl | rfl | rfl | rfl | rfl | rfl | rfl | rfl
        · refine zaw_tsw_in 180 dL_law_45 (by decide) rfl (by decide) ?_
          exact lc_append hz2 hi2 hm2 hL h6 J
        · refine zaw_tsw_in 284 dL_law_45 (by decide) rfl (by decide) ?_
          exact lc_load hz2 hi2 hm2 hL h6 J
        · refine zaw_tsw_in 297 dL_law_45 (by decide) rfl (by decide) ?_
          exact lc_errorPosition hz2 hi2 hm2 hL h6 J
        · refine zaw_tsw_in 310 dL_law_45 (by decide) rfl (by decide) ?_
          exact lc_count hz2 hi2 hm2 hL h6 J
        · refine zaw_tsw_in 366 dL_law_45 (by decide) rfl (by decide) ?_
          exact lc_ship hz2 hi2 hm2 hL h6 J
        · refine zaw_tsw_in 434 dL_law_45 (by decide) rfl (by decide) ?_
          exact lc_fleet hz2 hi2 hm2 hL h6 J
        · refine zaw_tsw_in 502 dL_law_45 (by decide) rfl (by decide) ?_
          exact lc_at hz2 hi2 hm2 hL h6 J
        · refine zaw_tsw_in 570 dL_law_45 (by decide) rfl (by decide) ?_
          exact lc_order hz2 hi2 hm2 hL h6 J
        · refine zaw_tsw_in 638 dL_law_45 (by decide) rfl (by decide) ?_
          exact lc_gain hz2 hi2 hm2 hL h6 J
        · refine zaw_tsw_in 706 dL_law_45 (by decide) rfl (by decide) ?_
          exact lc_sees hz2 hi2 hm2 hL h6 J
        · refine zaw_tsw_in 781 dL_law_45 (by decide) rfl (by decide) ?_
          exact lc_shift hz2 hi2 hm2 hL h6 J
        · refine zaw_tsw_in 849 dL_law_45 (by decide) rfl (by decide) ?_
          exact lc_ram hz2 hi2 hm2 hL h6 J
        · refine zaw_tsw_in 917 dL_law_45 (by decide) rfl (by decide) ?_
          exact lc_sealOf hz2 hi2 hm2 hL h6 J
        · refine zaw_tsw_in 985 dL_law_45 (by decide) rfl (by decide) ?_
          exact lc_check hz2 hi2 hm2 hL h6 J
        · refine zaw_tsw_in 1072 dL_law_45 (by decide) rfl (by decide) ?_
          exact lc_logged hz2 hi2 hm2 hL h6 J
        · refine zaw_tsw_in 1152 dL_law_45 (by decide) rfl (by decide) ?_
          exact lc_after hz2 hi2 hm2 hL h6 J
        · refine zaw_tsw_in 1220 dL_law_45 (by decide) rfl (by decide) ?_
          exact lc_course hz2 hi2 hm2 hL h6 J
        · refine zaw_tsw_in 1288 dL_law_45 (by decide) rfl (by decide) ?_
          exact lc_meet hz2 hi2 hm2 hL h6 J
        · refine zaw_tsw_in 1356 dL_law_45 (by decide) rfl (by decide) ?_
          exact lc_spares hz2 hi2 hm2 hL h6 J
        · refine zaw_tsw_in 1424 dL_law_45 (by decide) rfl (by decide) ?_
          exact lc_bestWind hz2 hi2 hm2 hL h6 J
        · refine zaw_tsw_in 1480 dL_law_45 (by decide) rfl (by decide) ?_
          exact lc_pace hz2 hi2 hm2 hL h6 J
        · refine zaw_tsw_in 1558 dL_law_45 (by decide) rfl (by decide) ?_
          exact lc_write hz2 hi2 hm2 hL h6 J
        · refine zaw_tsw_in 1614 dL_law_45 (by decide) rfl (by decide) ?_
          exact lc_seal hz2 hi2 hm2 hL h6 J
        · refine zaw_tsw_in 1682 dL_law_45 (by decide) rfl (by decide) ?_
          exact lc_run hz2 hi2 hm2 hL h6 J
        · refine zaw_tsw_in 1726 dL_law_45 (by decide) rfl (by decide) ?_
          exact lc_setWind hz2 hi2 hm2 hL h6 J
        · refine zaw_tsw_in 1794 dL_law_45 (by decide) rfl (by decide) ?_
          exact lc_undo hz2 hi2 hm2 hL h6 J
        · refine zaw_tsw_in 1838 dL_law_45 (by decide) rfl (by decide) ?_
          exact lc_save hz2 hi2 hm2 hL h6 J
        · refine zaw_tsw_in 1874 dL_law_45 (by decide) rfl (by decide) ?_
          exact lc_restore hz2 hi2 hm2 hL h6 J
        · refine zaw_tsw_in 1930 dL_law_45 (by decide) rfl (by decide) ?_
          exact lc_writeShips hz2 hi2 hm2 hL h6 J
        · refine zaw_tsw_in 1943 dL_law_45 (by decide) rfl (by decide) ?_
          exact lc_writtenByte hz2 hi2 hm2 hL h6 J
      · refine zaw_tsw_out 1999 dL_law_45 (by omega) (by decide) ?_
        exact J h v6 v7 mc ms hL h6 (by omega) (by omega)
