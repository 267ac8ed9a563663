/-! the class: all ships steer -/
def cStP (h : AH) (b p : Int) (h' : AH) (j : Int) : Prop :=
  (¬ h (b + 2) (j * 11 + 1) = -1 → ∀ l hd w c r, l = cLt (h (b + 3) j) p → hd = gHd l (h (b + 2) (j * 11 + 9)) (h (b + 2) (j * 11 + 7)) (h (b + 2) (j * 11 + 3)) → w = gWay (h (b + 2) (j * 11 + 8)) (h (b + 2) (j * 11 + 6)) (h b 6) hd (h b 5) → c = h (b + 2) (j * 11 + 1) + tab1 hd → r = h (b + 2) (j * 11 + 2) + tab2 hd →
    h' (b + 2) (j * 11 + 3) = hd ∧ h' (b + 2) (j * 11 + 9) = gSi l (h (b + 2) (j * 11 + 9)) (h (b + 2) (j * 11 + 7)) ∧ h' 27 j = 100 * h (b + 2) (j * 11 + 1) + h (b + 2) (j * 11 + 2) ∧
    (l = 4 → h' (b + 2) (j * 11 + 8) = h (b + 2) (j * 11 + 8) ∧ h' 26 j = 0) ∧
    (l ≠ 4 → w < 90 → h' (b + 2) (j * 11 + 8) = w ∧ h' 26 j = 0) ∧
    (l ≠ 4 → 90 ≤ w → (0 ≤ c ∧ c < h b 0 ∧ 0 ≤ r ∧ r < h b 1) → h' (b + 2) (j * 11 + 8) = w ∧ h' 26 j = 1 ∧ h' 28 j = 100 * c + r) ∧
    (l ≠ 4 → 90 ≤ w → ¬ (0 ≤ c ∧ c < h b 0 ∧ 0 ≤ r ∧ r < h b 1) → h' (b + 2) (j * 11 + 8) = 0 ∧ h' 26 j = 0)) ∧
  (h (b + 2) (j * 11 + 1) = -1 → h' (b + 2) (j * 11 + 3) = h (b + 2) (j * 11 + 3) ∧ h' (b + 2) (j * 11 + 8) = h (b + 2) (j * 11 + 8) ∧ h' (b + 2) (j * 11 + 9) = h (b + 2) (j * 11 + 9) ∧ h' 26 j = 0 ∧ h' 27 j = -1) ∧ h' 29 j = 0
def cStF (h : AH) (b q : Int) (h' : AH) : Prop := ∀ k x, ¬ (k = b + 2 ∧ 0 ≤ x ∧ x < 11 * q ∧ (x % 11 = 3 ∨ x % 11 = 8 ∨ x % 11 = 9)) → ¬ ((k = 26 ∨ k = 27 ∨ k = 28 ∨ k = 29) ∧ 0 ≤ x ∧ x < q) → h' k x = h k x
def cSteered (h : AH) (b p n : Int) (h' : AH) : Prop := cStF h b n h' ∧ ∀ j, 0 ≤ j → j < n → cStP h b p h' j
theorem ac_steerAll {b p : Int} {h : AH} {K : AO → Nat → AH → Prop} (hB : b = 5 ∨ b = 15) (hp : 0 ≤ p ∧ p ≤ 5) (hn : 0 ≤ h b 3 ∧ h b 3 ≤ 12) (hs : ∀ j, 0 ≤ j → j < h b 3 → cSh2 h b j) (ho : cBd h b) (kk : ∀ h', cSteered h b p (h b 3) h' → K (.inl none) 159 h') : AC mX6_steerAll 4 0 0 159 [(2, 25), (2, b), (0, p)] h K := by
  have hb := sh_ab hB
  refine ac_of (ls := [(2, 25), (2, b), (0, p), (9, 0), (9, 0)]) pn_X6 rfl (Nat.le_of_ble_eq_true rfl) rfl ?_
  refine aw_iconst dX6_steerAll_0 (by decide) ?_
  refine a_is3 rfl rfl dX6_steerAll_1 ?_
  refine aw_loop (fun q : Int × AH × AV => 0 ≤ q.1 ∧ q.1 ≤ h b 3 ∧ cSteered h b p q.1 q.2.1 ∧ am_n2 q.2.2 = true) (fun q => (h b 3 - q.1).toNat) (fun q => AW mX6_steerAll 4 0 0 K 159 2 [(2, 25), (2, b), (0, p), (0, q.1), q.2.2] [] q.2.1) (fun q hq ih => ?_) (0, h, (9, 0)) ⟨by dsimp only; omega, hn.1, ⟨fun _ _ _ _ => rfl, fun j a c => by dsimp only at c; omega⟩, rfl⟩
  obtain ⟨i, g, v⟩ := q
  obtain ⟨i0, i1, ⟨fr, st⟩, hv⟩ := hq
  dsimp only at i0 i1 fr st hv ih ⊢
  have nx : ∀ g2 v2, am_n2 v2 = true → cStF g b 0 g2 ∨ (∀ k x, ¬ (k = b + 2 ∧ (x = i * 11 + 3 ∨ x = i * 11 + 8 ∨ x = i * 11 + 9)) → ¬ ((k = 26 ∨ k = 27 ∨ k = 28 ∨ k = 29) ∧ x = i) → g2 k x = g k x) → cStP h b p g2 i → i < h b 3 → AW mX6_steerAll 4 0 0 K 159 88 [(2, 25), (2, b), (0, p), (0, i), v2] [] g2 := fun g2 v2 hv2 f2' s2 il => by
    have f2 : ∀ k x, ¬ (k = b + 2 ∧ (x = i * 11 + 3 ∨ x = i * 11 + 8 ∨ x = i * 11 + 9)) → ¬ ((k = 26 ∨ k = 27 ∨ k = 28 ∨ k = 29) ∧ x = i) → g2 k x = g k x := by
      rcases f2' with f2 | f2
      · exact fun k x a c => f2 k x (by omega) (by omega)
      · exact f2
    refine a_iiR3 (by omega) rfl rfl dX6_steerAll_88 ?_
    refine aw_goto 2 dX6_steerAll_91 (by decide) ?_
    refine ih (i + 1, g2, v2) ⟨by dsimp only; omega, by dsimp only; omega, ⟨fun k x a c => ?_, fun j j0 j1 => ?_⟩, hv2⟩ (by dsimp only; omega)
    · dsimp only at a c ⊢
      rw [f2 k x (by omega) (by omega)]
      exact fr k x (by omega) (by omega)
    · dsimp only at j1 ⊢
      by_cases e : j = i
      · rw [e]; exact s2
      · have g9 := st j j0 (by omega)
        unfold cStP at g9 ⊢
        rw [f2 (b + 2) (j * 11 + 3) (by omega) (by omega), f2 (b + 2) (j * 11 + 9) (by omega) (by omega), f2 (b + 2) (j * 11 + 8) (by omega) (by omega), f2 26 j (by omega) (by omega), f2 27 j (by omega) (by omega), f2 28 j (by omega) (by omega), f2 29 j (by omega) (by omega)]
        exact g9
  have g3 : g b 3 = h b 3 := fr _ _ (by omega) (by omega)
  refine a_il3 dX6_steerAll_2 ?_
  refine a_al1 (am_sh_rg hb) dX6_steerAll_3 ?_
  refine aw_get 3 dX6_steerAll_4 fl_X6_58 (am_sh_at hb) rfl ?_
  refine aw_icmp_ge 94 dX6_steerAll_7 (by decide) (fun c7 => ?_) (fun c7 => ?_)
  · refine aw_vret dX6_steerAll_94 rfl ?_
    have e : i = h b 3 := by omega
    rw [e] at fr st
    exact kk _ ⟨fr, st⟩
  · have il : i < h b 3 := by omega
    have ev : ∀ w, 0 ≤ w → w ≤ 10 → g (b + 2) (i * 11 + w) = h (b + 2) (i * 11 + w) := fun w a c => fr _ _ (by omega) (by omega)
    have e0 : g b 0 = h b 0 := fr _ _ (by omega) (by omega)
    have e1 : g b 1 = h b 1 := fr _ _ (by omega) (by omega)
    have e5 : g b 5 = h b 5 := fr _ _ (by omega) (by omega)
    have e6 : g b 6 = h b 6 := fr _ _ (by omega) (by omega)
    have eo : g (b + 3) i = h (b + 3) i := fr _ _ (by omega) (by omega)
    have so := hs i i0 il
    obtain ⟨g1, hg1⟩ : ∃ g1, g1 = up (up (up g 26 i 0) 29 i 0) 27 i (-1) := ⟨_, rfl⟩
    refine a_al0 (by decide) dX6_steerAll_10 ?_
    refine aw_getR (r := 26) 0 rfl dX6_steerAll_11 fl_X6_9 at_25 rfl rfl ?_
    refine a_il3 dX6_steerAll_14 ?_
    refine aw_iconst dX6_steerAll_15 (by decide) ?_
    refine aw_zast dX6_steerAll_16 ar_26 (by omega) (by omega) ?_
    refine a_al0 (by decide) dX6_steerAll_17 ?_
    refine aw_getR (r := 29) 3 rfl dX6_steerAll_18 fl_X6_22 at_25 rfl rfl ?_
    try simp (disch := omega) only [up_at, up_ne]
    refine a_il3 dX6_steerAll_21 ?_
    refine aw_iconst dX6_steerAll_22 (by decide) ?_
    refine aw_iast dX6_steerAll_23 ar_29 (by omega) ?_
    refine a_al0 (by decide) dX6_steerAll_24 ?_
    refine aw_getR (r := 27) 1 rfl dX6_steerAll_25 fl_X6_15 at_25 rfl rfl ?_
    try simp (disch := omega) only [up_at, up_ne]
    refine a_il3 dX6_steerAll_28 ?_
    refine aw_iconst dX6_steerAll_29 (by decide) ?_
    refine aw_iast dX6_steerAll_30 ar_27 (by omega) ?_
    rw [← hg1]
    have f1 : ∀ k x, ¬ ((k = 26 ∨ k = 27 ∨ k = 29) ∧ x = i) → g1 k x = g k x := fun k x a => by rw [hg1, up_ne (by omega), up_ne (by omega), up_ne (by omega)]
    have w26 : g1 26 i = 0 := by rw [hg1, up_ne (by omega), up_ne (by omega), up_at]
    have w29 : g1 29 i = 0 := by rw [hg1, up_ne (by omega), up_at]
    have w27 : g1 27 i = -1 := by rw [hg1, up_at]
    refine a_al1 (am_sh_rg hb) dX6_steerAll_31 ?_
    refine a_il3 dX6_steerAll_32 ?_
    refine aw_callV 2 0 0 dX6_steerAll_33 yw_X3_floats ml_X6_61 in_X3_floats se_X3_floats (ci := 2) rfl (am_sh_at hb) (as := [_]) rfl rfl ⟨by decide, by decide, by decide, Nat.le_of_ble_eq_true rfl⟩ ?_
    refine ac_floats hB (by omega) (fun a1 => ?_) (fun a1 => ?_)
    · rw [f1 _ _ (by omega), ev 1 (by omega) (by omega)] at a1
      refine am_ci ?_
      refine aw_if_eq_n 88 dX6_steerAll_36 (by decide) (by decide) ?_
      refine a_al0 (by decide) dX6_steerAll_39 ?_
      refine aw_getR (r := 27) 1 rfl dX6_steerAll_40 fl_X6_15 at_25 rfl rfl ?_
      refine a_il3 dX6_steerAll_43 ?_
      refine a_al1 (am_sh_rg hb) dX6_steerAll_44 ?_
      refine a_il3 dX6_steerAll_45 ?_
      refine aw_iconst dX6_steerAll_46 (by decide) ?_
      refine aw_callV 1 0 0 dX6_steerAll_47 yw_X3_get ml_X6_65 in_X3_get se_X3_get (ci := 2) rfl (am_sh_at hb) (as := [_, _]) rfl rfl ⟨by decide, by decide, by decide, Nat.le_of_ble_eq_true rfl⟩ ?_
      refine ac_get hB (by omega) (by decide) ?_
      rw [f1 _ _ (by omega), ev 1 (by omega) (by omega)]
      refine am_ci ?_
      refine a_al1 (am_sh_rg hb) dX6_steerAll_50 ?_
      refine a_il3 dX6_steerAll_51 ?_
      refine aw_iconst dX6_steerAll_52 (by decide) ?_
      refine aw_callV 1 0 0 dX6_steerAll_53 yw_X3_get ml_X6_65 in_X3_get se_X3_get (ci := 2) rfl (am_sh_at hb) (as := [_, _]) rfl rfl ⟨by decide, by decide, by decide, Nat.le_of_ble_eq_true rfl⟩ ?_
      refine ac_get hB (by omega) (by decide) ?_
      rw [f1 _ _ (by omega), ev 2 (by omega) (by omega)]
      refine am_ci ?_
      refine aw_callSN 1 0 0 dX6_steerAll_56 yw_X8_cellOf ml_X6_69 sm_X8_cellOf (as := [_, _]) rfl rfl ⟨by decide, by decide, by decide, Nat.le_of_ble_eq_true rfl⟩ ?_
      obtain ⟨s1, s2, s3, s6, s7, s8, s9⟩ := so
      refine ac_cellOf (by omega) (by omega) ?_
      refine am_ci ?_
      refine aw_iast dX6_steerAll_59 ar_27 (by omega) ?_
      obtain ⟨g2, hg2⟩ : ∃ g2, g2 = up g1 27 i (100 * h (b + 2) (i * 11 + 1) + h (b + 2) (i * 11 + 2)) := ⟨_, rfl⟩
      rw [← hg2]
      have f2 : ∀ k x, ¬ ((k = 26 ∨ k = 27 ∨ k = 29) ∧ x = i) → g2 k x = g k x := fun k x a => by rw [hg2, up_ne (by omega), f1 k x a]
      have u26 : g2 26 i = 0 := by rw [hg2, up_ne (by omega), w26]
      have u29 : g2 29 i = 0 := by rw [hg2, up_ne (by omega), w29]
      have u27 : g2 27 i = 100 * h (b + 2) (i * 11 + 1) + h (b + 2) (i * 11 + 2) := by rw [hg2, up_at]
      refine a_al1 (am_sh_rg hb) dX6_steerAll_60 ?_
      refine aw_shR 11 3 hb dX6_steerAll_61 fl_X6_72 (by decide) ?_
      refine a_il3 dX6_steerAll_64 ?_
      refine aw_iald dX6_steerAll_65 (am_sa_3 hb) (by omega) ?_
      refine a_il2 dX6_steerAll_66 ?_
      refine aw_callS 1 0 0 dX6_steerAll_67 yw_X2_letter ml_X6_75 sm_X2_letter (as := [_, _]) rfl rfl ⟨by decide, by decide, by decide, Nat.le_of_ble_eq_true rfl⟩ ?_
      refine ac_letter hp ?_
      rw [f2 _ _ (by omega), eo]
      obtain ⟨l, hl⟩ : ∃ l, l = cLt (h (b + 3) i) p := ⟨_, rfl⟩
      rw [← hl]
      have ew : ∀ w, 0 ≤ w → w ≤ 10 → g2 (b + 2) (i * 11 + w) = h (b + 2) (i * 11 + w) := fun w a c => by rw [f2 _ _ (by omega), ev w a c]
      refine am_ci ?_
      refine a_is4 rfl rfl dX6_steerAll_70 ?_
      refine a_al0 (by decide) dX6_steerAll_72 ?_
      refine a_al1 (am_sh_rg hb) dX6_steerAll_73 ?_
      refine a_il3 dX6_steerAll_74 ?_
      refine a_il4 dX6_steerAll_75 ?_
      refine aw_callV 2 0 0 dX6_steerAll_77 yw_X6_turnShip ml_X6_80 in_X6_turnShip se_X6_turnShip (ci := 5) rfl at_25 (as := [_, _, _]) rfl rfl ⟨by decide, by decide, by decide, Nat.le_of_ble_eq_true rfl⟩ ?_
      refine ac_turnShip hB (by omega) ?_ ?_
      · unfold cSh2
        rw [ew 1 (by decide) (by decide), ew 2 (by decide) (by decide), ew 3 (by decide) (by decide), ew 6 (by decide) (by decide), ew 7 (by decide) (by decide), ew 8 (by decide) (by decide), ew 9 (by decide) (by decide)]
        exact ⟨s1, s2, s3, s6, s7, s8, s9⟩
      obtain ⟨hd, hhd⟩ : ∃ hd, hd = gHd l (h (b + 2) (i * 11 + 9)) (h (b + 2) (i * 11 + 7)) (h (b + 2) (i * 11 + 3)) := ⟨_, rfl⟩
      obtain ⟨si, hsi⟩ : ∃ si, si = gSi l (h (b + 2) (i * 11 + 9)) (h (b + 2) (i * 11 + 7)) := ⟨_, rfl⟩
      obtain ⟨g3, hg3⟩ : ∃ g3, g3 = up (up g2 (b + 2) (i * 11 + 3) hd) (b + 2) (i * 11 + 9) si := ⟨_, rfl⟩
      have eg3 : cGoH g2 b i l = g3 := by
        unfold cGoH
        rw [ew 9 (by decide) (by decide), ew 7 (by decide) (by decide), ew 3 (by decide) (by decide), ← hhd, ← hsi, hg3]
      rw [eg3]
      have f3 : ∀ k x, ¬ (k = b + 2 ∧ (x = i * 11 + 3 ∨ x = i * 11 + 9)) → g3 k x = g2 k x := fun k x a => by rw [hg3, up_ne (by omega), up_ne (by omega)]
      have x3 : g3 (b + 2) (i * 11 + 3) = hd := by rw [hg3, up_ne (by omega), up_at]
      have x9 : g3 (b + 2) (i * 11 + 9) = si := by rw [hg3, up_at]
      have ex : ∀ w, 0 ≤ w → w ≤ 10 → w ≠ 3 → w ≠ 9 → g3 (b + 2) (i * 11 + w) = h (b + 2) (i * 11 + w) := fun w a c d e => by rw [f3 _ _ (by omega), ew w a c]
      have k0 : g3 b 0 = h b 0 := by rw [f3 _ _ (by omega), f2 _ _ (by omega), e0]
      have k1 : g3 b 1 = h b 1 := by rw [f3 _ _ (by omega), f2 _ _ (by omega), e1]
      have k5 : g3 b 5 = h b 5 := by rw [f3 _ _ (by omega), f2 _ _ (by omega), e5]
      have k6 : g3 b 6 = h b 6 := by rw [f3 _ _ (by omega), f2 _ _ (by omega), e6]
      refine am_cv ?_
      refine a_al0 (by decide) dX6_steerAll_80 ?_
      refine a_al1 (am_sh_rg hb) dX6_steerAll_81 ?_
      refine a_il3 dX6_steerAll_82 ?_
      refine a_il4 dX6_steerAll_83 ?_
      refine aw_callV 3 0 0 dX6_steerAll_85 yw_X6_gatherWay ml_X6_84 in_X6_gatherWay se_X6_gatherWay (ci := 5) rfl at_25 (as := [_, _, _]) rfl rfl ⟨by decide, by decide, by decide, Nat.le_of_ble_eq_true rfl⟩ ?_
      refine ac_gatherWay hB (by omega) ?_ ?_ (fun g4 gt => ?_)
      · unfold cSh2
        rw [ex 1 (by decide) (by decide) (by decide) (by decide), ex 2 (by decide) (by decide) (by decide) (by decide), x3, ex 6 (by decide) (by decide) (by decide) (by decide), ex 7 (by decide) (by decide) (by decide) (by decide), ex 8 (by decide) (by decide) (by decide) (by decide), x9, hhd, hsi]
        exact ⟨s1, s2, gHd_rg s3, s6, s7, s8, gSi_rg s9⟩
      · unfold cBd
        rw [k0, k1, k5, k6]
        exact ho
      obtain ⟨q1, q2, q3⟩ := gt
      rw [ex 8 (by decide) (by decide) (by decide) (by decide), ex 6 (by decide) (by decide) (by decide) (by decide), ex 1 (by decide) (by decide) (by decide) (by decide), ex 2 (by decide) (by decide) (by decide) (by decide), x3, k0, k1, k5, k6, f3 26 i (by omega), u26] at q3
      have y3 : g4 (b + 2) (i * 11 + 3) = hd := by rw [q1 _ _ (by omega) (by omega) (by omega), x3]
      have y9 : g4 (b + 2) (i * 11 + 9) = si := by rw [q1 _ _ (by omega) (by omega) (by omega), x9]
      have y27 : g4 27 i = 100 * h (b + 2) (i * 11 + 1) + h (b + 2) (i * 11 + 2) := by rw [q1 _ _ (by omega) (by omega) (by omega), f3 _ _ (by omega), u27]
      have y29 : g4 29 i = 0 := by rw [q1 _ _ (by omega) (by omega) (by omega), f3 _ _ (by omega), u29]
      refine am_cv ?_
      refine nx g4 (0, l) rfl (Or.inr (fun k x a c => ?_)) ⟨fun _ l' hd' w c r el ehd ew' ec er => ?_, fun a => absurd a a1, y29⟩ il
      · rw [q1 _ _ (by omega) (by omega) (by omega), f3 _ _ (by omega), f2 _ _ (by omega)]
      · have el2 : l' = l := by rw [el, hl]
        rw [el2] at ehd
        have eh2 : hd' = hd := by rw [ehd, hhd]
        rw [eh2] at ew' ec er
        rw [el2, eh2, ← hsi]
        refine ⟨y3, y9, y27, fun l4 => ?_, fun l4 hw => (q3 l4 w c r ew' ec er).1 hw, fun l4 hw hin => (q3 l4 w c r ew' ec er).2.1 hw hin, fun l4 hw hin => (q3 l4 w c r ew' ec er).2.2 hw hin⟩
        rw [q2 l4, ex 8 (by decide) (by decide) (by decide) (by decide), f3 _ _ (by omega), u26]
        exact ⟨rfl, rfl⟩
    · rw [f1 _ _ (by omega), ev 1 (by omega) (by omega)] at a1
      refine am_ci ?_
      refine aw_if_eq_y 88 dX6_steerAll_36 (by decide) (by decide) ?_
      refine nx g1 v hv (Or.inr (fun k x a c => f1 k x (by omega))) ⟨fun a => absurd a1 a, fun _ => ?_, w29⟩ il
      rw [f1 _ _ (by omega), f1 _ _ (by omega), f1 _ _ (by omega), ev 3 (by decide) (by decide), ev 8 (by decide) (by decide), ev 9 (by decide) (by decide)]
      exact ⟨rfl, rfl, rfl, w26, w27⟩
