/-! reading: a ship -/
/-- the state of reading, with a row -/
def RS (S : Int → Int) (L : Int) (h : AH) (r : Int → Int) (st : PS) (g : AH) : Prop := RFr h g ∧ Sts S L st g ∧ (st.2.1 = 0 → g 141 = r)
theorem RS_go {S : Int → Int} {L : Int} {h : AH} {r : Int → Int} {st st' : PS} {g g' : AH} (a : RS S L h r st g) (pf : PFr g g') (hs : Sts S L st' g') (hc : st'.2.1 = 0 → st.2.1 = 0) : RS S L h r st' g' := ⟨RFr_trans a.1 (RFr_of pf), hs, fun c => by rw [PFr_row pf]; exact a.2.2 (hc c)⟩
theorem RS_up {S : Int → Int} {L : Int} {h : AH} {r : Int → Int} {st : PS} {g : AH} {x v : Int} (a : RS S L h r st g) : RS S L h (upr r x v) st (up g 141 x v) := ⟨RFr_up a.1, Sts_up a.2.1, fun c => by rw [up_row, a.2.2 c]⟩
theorem rp312 {S : Int → Int} {L f n s : Int} {h : AH} {K : AO → Nat → AH → Prop} (hT : TxS S L) (hs0 : s = 46 + 25 * n) (hn : 0 ≤ n ∧ n ≤ 11) {v4 v5 v6 : Int} : ∀ (m : Nat) (r : Int → Int) (told : Int) (st : PS) (v8 : AV) (g : AH), RS S L h r st g → am_n2 v8 = true → (st.2.1 = 0 → L - st.1 < m) → 1 ≤ m → (∀ g' told' v8', RS S L h (optN S s m r told st).1 (optN S s m r told st).2 g' → am_n2 v8' = true → AW mX9_readsShip 7 0 0 K 159 413 [(2, 140), (0, f), (0, n), (0, s), (0, v4), (0, v5), (0, v6), (0, told'), v8'] [] g') → AW mX9_readsShip 7 0 0 K 159 318 [(2, 140), (0, f), (0, n), (0, s), (0, v4), (0, v5), (0, v6), (0, told), (0, optW S st)] [] g
  | 0, r, told, st, v8, g, hs, hv, hm, h1, kk => absurd h1 (by decide)
  | m + 1, r, told, st, v8, g, hs, hv, hm, h1, kk => by
    have e : optN S s (m + 1) r told st = cif (optW S st = -1) (r, st) (optN S s m (upr r (s + optW S st) (standV S (opLo (optW S st)) (opHi (optW S st)) (opT S told (optW S st) st))) (i_or told (i_shl 1 (optW S st))) (takeS S (opLo (optW S st)) (opHi (optW S st)) (opT S told (optW S st) st))) := rfl
    have ow := optW_c (S := S) (st := st)
    obtain ⟨w, hw⟩ : ∃ w, w = optW S st := ⟨_, rfl⟩
    rw [← hw] at e ow ⊢
    refine a_il8 dX9_readsShip_318 ?_
    refine aw_iconst dX9_readsShip_320 (by decide) ?_
    refine aw_icmp_eq 413 dX9_readsShip_321 (by decide) (fun c321 => ?_) (fun c321 => ?_)
    · have e1 : w = -1 := by omega
      rw [e, cif_pos e1] at kk
      exact kk g told (0, w) hs rfl
    · have e1 : ¬ w = -1 := by omega
      rw [e, cif_neg e1] at kk
      obtain ⟨⟨w4, w7⟩, wd, wl, hwd⟩ := ow.resolve_left e1
      have hm2 := hm hwd.1
      have ha := wd_adv hT hs.2.1.2.2.2.2 hwd wl
      have J2 : ∀ g2 lo hi, RS S L h r (opT S told w st) g2 → lo = opLo w → hi = opHi w → AW mX9_readsShip 7 0 0 K 159 400 [(2, 140), (0, f), (0, n), (0, s), (0, v4), (0, v5), (0, v6), (0, i_or told (i_shl 1 w)), (0, w)] [(0, hi), (0, lo), (2, 140), (0, s + w), (2, 141)] g2 := fun g2 lo hi hs2 elo ehi => by
        subst elo
        subst ehi
        refine aw_callV 4 0 0 dX9_readsShip_400 yw_X9_takes ml_X9_153 in_X9_takes se_X9_takes (ci := 8) rfl at_140 (as := [_, _]) rfl rfl ⟨by decide, by decide, by decide, Nat.le_of_ble_eq_true rfl⟩ ?_
        refine ac_takes hT hs2.2.1 (fun g3 pf3 hs3 => ?_)
        have hR := onS_take (lo := opLo w) (hi := opHi w) hT hs2.2.1.2.2.2.2
        have hR3 := RS_up (x := s + w) (v := standV S (opLo w) (opHi w) (opT S told w st)) (RS_go hs2 pf3 hs3 hR.2.2)
        refine am_ci ?_
        refine aw_iast dX9_readsShip_403 ar_141 (by omega) ?_
        refine a_al0 (by decide) dX9_readsShip_404 ?_
        refine aw_callV 6 0 0 dX9_readsShip_405 yw_X9_option ml_X9_190 in_X9_option se_X9_option (ci := 8) rfl at_140 (as := []) rfl rfl ⟨by decide, by decide, by decide, Nat.le_of_ble_eq_true rfl⟩ ?_
        refine ac_option hT hR3.2.1 ?_
        refine am_ci ?_
        try simp (disch := omega) only [up_at, up_ne]
        refine a_is8 rfl rfl dX9_readsShip_408 ?_
        refine aw_goto 318 dX9_readsShip_410 (by decide) ?_
        refine rp312 hT hs0 hn m _ _ _ (9, 0) _ hR3 rfl (fun c => ?_) (by omega) kk
        have c2 := hR.2.2 c
        have := opT_adv hT hs.2.1.2.2.2.2 hwd wl c2
        have := hR.1
        omega
      have J : ∀ g2, RS S L h r (opT S told w st) g2 → AW mX9_readsShip 7 0 0 K 159 346 [(2, 140), (0, f), (0, n), (0, s), (0, v4), (0, v5), (0, v6), (0, told), (0, w)] [] g2 := fun g2 hs2 => by
        refine a_il7 dX9_readsShip_346 ?_
        refine aw_iconst dX9_readsShip_348 (by decide) ?_
        refine a_il8 dX9_readsShip_349 ?_
        refine aw_ishl dX9_readsShip_351 ?_
        refine aw_ior dX9_readsShip_352 ?_
        refine a_is7 rfl rfl dX9_readsShip_353 ?_
        refine a_al0 (by decide) dX9_readsShip_355 ?_
        refine aw_getR (r := 141) 0 rfl dX9_readsShip_356 fl_X9_7 at_140 rfl rfl ?_
        try simp (disch := omega) only [up_at, up_ne]
        refine a_il3 dX9_readsShip_359 ?_
        refine a_il8 dX9_readsShip_360 ?_
        refine aw_iaddR (by omega) dX9_readsShip_362 ?_
        refine a_al0 (by decide) dX9_readsShip_363 ?_
        refine a_il8 dX9_readsShip_364 ?_
        refine aw_bipush dX9_readsShip_366 (by decide) ?_
        refine aw_icmp_ne 375 dX9_readsShip_368 (by decide) (fun c368 => ?_) (fun c368 => ?_)
        · have elo : opLo w = 1 := if_neg (by omega)
          refine aw_iconst dX9_readsShip_375 (by decide) ?_
          refine a_il8 dX9_readsShip_376 ?_
          refine aw_iconst dX9_readsShip_378 (by decide) ?_
          refine aw_icmp_ne 387 dX9_readsShip_379 (by decide) (fun c379 => ?_) (fun c379 => ?_)
          · refine a_il8 dX9_readsShip_387 ?_
            refine aw_bipush dX9_readsShip_389 (by decide) ?_
            refine aw_icmp_ne 398 dX9_readsShip_391 (by decide) (fun c391 => ?_) (fun c391 => ?_)
            · have ehi : opHi w = 9 := by unfold opHi; rw [if_neg (by omega), if_neg (by omega)]
              refine aw_bipush dX9_readsShip_398 (by decide) ?_
              exact J2 g2 1 9 hs2 elo.symm ehi.symm
            · exfalso; omega
          · have ehi : opHi w = 99 := by unfold opHi; rw [if_pos (by omega)]
            refine aw_bipush dX9_readsShip_382 (by decide) ?_
            refine aw_goto 400 dX9_readsShip_384 (by decide) ?_
            exact J2 g2 1 99 hs2 elo.symm ehi.symm
        · have elo : opLo w = 0 := if_pos (by omega)
          refine aw_iconst dX9_readsShip_371 (by decide) ?_
          refine aw_goto 376 dX9_readsShip_372 (by decide) ?_
          refine a_il8 dX9_readsShip_376 ?_
          refine aw_iconst dX9_readsShip_378 (by decide) ?_
          refine aw_icmp_ne 387 dX9_readsShip_379 (by decide) (fun c379 => ?_) (fun c379 => ?_)
          · have ehi : opHi w = 3 := by unfold opHi; rw [if_neg (by omega), if_pos (by omega)]
            refine a_il8 dX9_readsShip_387 ?_
            refine aw_bipush dX9_readsShip_389 (by decide) ?_
            refine aw_icmp_ne 398 dX9_readsShip_391 (by decide) (fun c391 => ?_) (fun c391 => ?_)
            · exfalso; omega
            · refine aw_iconst dX9_readsShip_394 (by decide) ?_
              refine aw_goto 400 dX9_readsShip_395 (by decide) ?_
              exact J2 g2 0 3 hs2 elo.symm ehi.symm
          · exfalso; omega
      have J3 : ∀ g2 st2, RS S L h r st2 g2 → st2 = (if i_and (i_shr told w) 1 = 1 then failS S (-4) st else st) → AW mX9_readsShip 7 0 0 K 159 341 [(2, 140), (0, f), (0, n), (0, s), (0, v4), (0, v5), (0, v6), (0, told), (0, w)] [] g2 := fun g2 st2 hs2 e2 => by
        refine a_al0 (by decide) dX9_readsShip_341 ?_
        refine aw_iconst dX9_readsShip_342 (by decide) ?_
        refine aw_callV 4 0 0 dX9_readsShip_343 yw_X9_must ml_X9_143 in_X9_must se_X9_must (ci := 8) rfl at_140 (as := [_]) rfl rfl ⟨by decide, by decide, by decide, Nat.le_of_ble_eq_true rfl⟩ ?_
        refine ac_must hT hs2.2.1 (fun g3 pf3 hs3 => ?_)
        have hR3 := RS_go hs2 pf3 hs3 (onS_must hT hs2.2.1.2.2.2.2).2.2
        rw [e2] at hR3
        refine am_cv ?_
        exact J g3 hR3
      refine a_il7 dX9_readsShip_324 ?_
      refine a_il8 dX9_readsShip_326 ?_
      refine aw_ishr dX9_readsShip_328 ?_
      refine aw_iconst dX9_readsShip_329 (by decide) ?_
      refine aw_iand dX9_readsShip_330 ?_
      refine aw_iconst dX9_readsShip_331 (by decide) ?_
      refine aw_icmp_ne 341 dX9_readsShip_332 (by decide) (fun c332 => ?_) (fun c332 => ?_)
      · skip
        exact J3 g st hs (by rw [if_neg (by omega)])
      · refine a_al0 (by decide) dX9_readsShip_335 ?_
        refine aw_bipush dX9_readsShip_336 (by decide) ?_
        refine aw_callV 1 0 0 dX9_readsShip_338 yw_X9_fails ml_X9_126 in_X9_fails se_X9_fails (ci := 8) rfl at_140 (as := [_]) rfl rfl ⟨by decide, by decide, by decide, Nat.le_of_ble_eq_true rfl⟩ ?_
        refine ac_fails hs.2.1 (by decide) (fun g2 pf2 hs2 => ?_)
        have hR2 := RS_go hs pf2 hs2 failS_c
        refine am_cv ?_
        exact J3 g2 _ hR2 (by rw [if_pos (by omega)])
