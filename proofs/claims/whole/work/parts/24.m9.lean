/-! the model: all ships steer -/
/-- what a ship is behind its letter in pulse p, of what it was in h -/
def StP (h : AH) (p : Int) (h' : AH) (j : Int) : Prop :=
  (h 141 (46 + 25 * j + 10) = -1 → ∀ l hd w, l = h 141 (46 + 25 * j + (11 + p)) → hd = gHd l (h 141 (46 + 25 * j + 9)) (h 141 (46 + 25 * j + 7)) (h 141 (46 + 25 * j + 3)) → w = gWay (h 141 (46 + 25 * j + 8)) (h 141 (46 + 25 * j + 6)) (h 141 6) hd (h 141 5) →
    h' 141 (46 + 25 * j + 3) = hd ∧ h' 141 (46 + 25 * j + 9) = gSi l (h 141 (46 + 25 * j + 9)) (h 141 (46 + 25 * j + 7)) ∧
    (l = 4 → h' 141 (46 + 25 * j + 8) = h 141 (46 + 25 * j + 8) ∧ h' 149 j = 0) ∧
    (l ≠ 4 → w < 90 → h' 141 (46 + 25 * j + 8) = w ∧ h' 149 j = 0) ∧
    (l ≠ 4 → 90 ≤ w → (0 ≤ h 141 (46 + 25 * j + 1) + tab1 hd ∧ h 141 (46 + 25 * j + 1) + tab1 hd < h 141 0 ∧ 0 ≤ h 141 (46 + 25 * j + 2) + tab2 hd ∧ h 141 (46 + 25 * j + 2) + tab2 hd < h 141 1) →
      h' 141 (46 + 25 * j + 8) = w ∧ h' 149 j = 1 ∧ h' 150 j = h 141 (46 + 25 * j + 1) + tab1 hd ∧ h' 151 j = h 141 (46 + 25 * j + 2) + tab2 hd) ∧
    (l ≠ 4 → 90 ≤ w → ¬ (0 ≤ h 141 (46 + 25 * j + 1) + tab1 hd ∧ h 141 (46 + 25 * j + 1) + tab1 hd < h 141 0 ∧ 0 ≤ h 141 (46 + 25 * j + 2) + tab2 hd ∧ h 141 (46 + 25 * j + 2) + tab2 hd < h 141 1) →
      h' 141 (46 + 25 * j + 8) = 0 ∧ h' 149 j = 0)) ∧
  (¬ h 141 (46 + 25 * j + 10) = -1 → h' 141 (46 + 25 * j + 3) = h 141 (46 + 25 * j + 3) ∧ h' 141 (46 + 25 * j + 8) = h 141 (46 + 25 * j + 8) ∧ h' 141 (46 + 25 * j + 9) = h 141 (46 + 25 * j + 9) ∧ h' 149 j = 0) ∧ h' 152 j = 0
/-- nothing else than the ways of the ships below q has moved -/
def StF (h : AH) (q : Int) (h' : AH) : Prop := ∀ k x, ¬ (k = 141 ∧ 46 ≤ x ∧ x < 46 + 25 * q ∧ ((x - 46) % 25 = 3 ∨ (x - 46) % 25 = 8 ∨ (x - 46) % 25 = 9)) → ¬ ((k = 149 ∨ k = 150 ∨ k = 151 ∨ k = 152) ∧ 0 ≤ x ∧ x < q) → h' k x = h k x
def Steered (h : AH) (p n : Int) (h' : AH) : Prop := StF h n h' ∧ ∀ j, 0 ≤ j → j < n → StP h p h' j
theorem pu_A {p : Int} {v : AV} {h : AH} {K : AO → Nat → AH → Prop} (hp : 0 ≤ p ∧ p ≤ 5) (hn : 0 ≤ h 141 3 ∧ h 141 3 ≤ 12) (hb : bdOk h) (hs : ∀ j, 0 ≤ j → j < h 141 3 → shOk h j ∧ 1 ≤ h 141 (46 + 25 * j + (11 + p)) ∧ h 141 (46 + 25 * j + (11 + p)) ≤ 4) (k : ∀ h' v, Steered h p (h 141 3) h' → AW mX9_pulses 6 0 0 K 159 61 [(2, 140), (0, p), v] [] h') : AW mX9_pulses 6 0 0 K 159 0 [(2, 140), (0, p), v] [] h := by
  refine aw_iconst dX9_pulses_0 (by decide) ?_
  refine a_is2 rfl rfl dX9_pulses_1 ?_
  refine aw_loop (fun q : Int × AH => 0 ≤ q.1 ∧ q.1 ≤ h 141 3 ∧ Steered h p q.1 q.2) (fun q => (h 141 3 - q.1).toNat) (fun q => AW mX9_pulses 6 0 0 K 159 2 [(2, 140), (0, p), (0, q.1)] [] q.2) (fun q hq ih => ?_) (0, h) ⟨by dsimp only; omega, hn.1, fun _ _ _ _ => rfl, fun j h1 h2 => by dsimp only at h2; omega⟩
  obtain ⟨q, h1⟩ := q
  obtain ⟨q0, q1, fr, st⟩ := hq
  dsimp only at q0 q1 fr st ih ⊢
  have e3 : h1 141 3 = h 141 3 := fr _ _ (by omega) (by omega)
  have nx : ∀ h2 : AH, (∀ k x, ¬ (k = 141 ∧ (x = 46 + 25 * q + 3 ∨ x = 46 + 25 * q + 8 ∨ x = 46 + 25 * q + 9)) → ¬ ((k = 149 ∨ k = 150 ∨ k = 151 ∨ k = 152) ∧ x = q) → h2 k x = h1 k x) → StP h p h2 q → q < h 141 3 → AW mX9_pulses 6 0 0 K 159 2 [(2, 140), (0, p), (0, q + 1)] [] h2 := fun h2 f2 s2 hlt => by
    refine ih (q + 1, h2) ⟨by dsimp only; omega, by dsimp only; omega, fun k x a b => ?_, fun j j0 j1 => ?_⟩ (by dsimp only; omega)
    · dsimp only at a b ⊢
      rw [f2 k x (by omega) (by omega)]
      exact fr k x (by omega) (by omega)
    · dsimp only at j1 ⊢
      by_cases e : j = q
      · rw [e]; exact s2
      · have g := st j j0 (by omega)
        unfold StP at g ⊢
        rw [f2 141 (46 + 25 * j + 3) (by omega) (by omega), f2 141 (46 + 25 * j + 9) (by omega) (by omega), f2 141 (46 + 25 * j + 8) (by omega) (by omega), f2 149 j (by omega) (by omega), f2 150 j (by omega) (by omega), f2 151 j (by omega) (by omega), f2 152 j (by omega) (by omega)]
        exact g
  refine a_il2 dX9_pulses_2 ?_
  refine a_al0 (by decide) dX9_pulses_3 ?_
  refine aw_getR (r := 141) 0 rfl dX9_pulses_4 fl_X9_7 at_140 rfl rfl ?_
  refine aw_iconst dX9_pulses_7 (by decide) ?_
  refine aw_iald dX9_pulses_8 ar_141 (by omega) ?_
  refine aw_icmp_ge 61 dX9_pulses_9 (by decide) (fun c9 => ?_) (fun c9 => ?_)
  · skip
    have e : q = h 141 3 := by omega
    rw [e] at fr st
    exact k _ _ ⟨fr, st⟩
  · refine a_al0 (by decide) dX9_pulses_12 ?_
    refine aw_getR (r := 149) 18 rfl dX9_pulses_13 fl_X9_39 at_140 rfl rfl ?_
    refine a_il2 dX9_pulses_16 ?_
    refine a_al0 (by decide) dX9_pulses_17 ?_
    refine a_il2 dX9_pulses_18 ?_
    refine aw_callV 2 0 0 dX9_pulses_19 yw_X9_sails ml_X9_216 in_X9_sails se_X9_sails (ci := 8) rfl at_140 (as := [_]) rfl rfl ⟨by decide, by decide, by decide, Nat.le_of_ble_eq_true rfl⟩ ?_
    have hq : q < h 141 3 := by omega
    have ev : ∀ w, 0 ≤ w → w ≤ 24 → h1 141 (46 + 25 * q + w) = h 141 (46 + 25 * q + w) := fun w a b => fr _ _ (by omega) (by omega)
    have e0 : h1 141 0 = h 141 0 := fr _ _ (by omega) (by omega)
    have e1 : h1 141 1 = h 141 1 := fr _ _ (by omega) (by omega)
    have e5 : h1 141 5 = h 141 5 := fr _ _ (by omega) (by omega)
    have e6 : h1 141 6 = h 141 6 := fr _ _ (by omega) (by omega)
    obtain ⟨so, sl⟩ := hs q q0 hq
    have so1 : shOk h1 q := by
      unfold shOk at so ⊢
      rw [ev 1 (by omega) (by omega), ev 2 (by omega) (by omega), ev 3 (by omega) (by omega), ev 6 (by omega) (by omega), ev 7 (by omega) (by omega), ev 8 (by omega) (by omega), ev 9 (by omega) (by omega)]
      exact so
    have bo1 : bdOk h1 := by
      unfold bdOk at hb ⊢
      rw [e0, e1, e5, e6]
      exact hb
    refine ac_sails (by omega) (fun a1 => ?_) (fun a1 => ?_)
    · rw [ev 10 (by omega) (by omega)] at a1
      refine am_ci ?_
      refine aw_if_eq_n 46 dX9_pulses_22 (by decide) (by decide) ?_
      refine a_al0 (by decide) dX9_pulses_25 ?_
      refine a_il2 dX9_pulses_26 ?_
      refine a_al0 (by decide) dX9_pulses_27 ?_
      refine a_il2 dX9_pulses_28 ?_
      refine aw_bipush dX9_pulses_29 (by decide) ?_
      refine a_il1 dX9_pulses_31 ?_
      refine aw_iaddR (by omega) dX9_pulses_32 ?_
      refine aw_callV 1 0 0 dX9_pulses_33 yw_X9_of ml_X9_213 in_X9_of se_X9_of (ci := 8) rfl at_140 (as := [_, _]) rfl rfl ⟨by decide, by decide, by decide, Nat.le_of_ble_eq_true rfl⟩ ?_
      refine ac_of_ (by omega) (by omega) ?_
      refine am_ci ?_
      refine aw_callV 4 0 0 dX9_pulses_36 yw_X9_goes ml_X9_260 in_X9_goes se_X9_goes (ci := 8) rfl at_140 (as := [_, _]) rfl rfl ⟨by decide, by decide, by decide, Nat.le_of_ble_eq_true rfl⟩ ?_
      rw [ev (11 + p) (by omega) (by omega)]
      refine ac_goes (by omega) sl so1 bo1 (fun h2 x gt => ?_)
      have fin : ∀ b, b = x → (x = 0 ∨ x = 1) → AW mX9_pulses 6 0 0 K 159 47 [(2, 140), (0, p), (0, q)] [(0, b), (0, q), (2, 149)] h2 := fun b eb x01 => by
        subst eb
        obtain ⟨g1, g2, g3⟩ := gt
        unfold goH at g1 g2 g3
        simp (disch := omega) only [up_at, up_ne] at g1 g2 g3
        rw [ev 9 (by omega) (by omega), ev 7 (by omega) (by omega), ev 3 (by omega) (by omega)] at g1 g2 g3
        rw [ev 8 (by omega) (by omega), ev 6 (by omega) (by omega), ev 1 (by omega) (by omega), ev 2 (by omega) (by omega), e0, e1, e5, e6] at g3
        refine aw_zast dX9_pulses_47 ar_149 (by omega) (by omega) ?_
        refine a_al0 (by decide) dX9_pulses_48 ?_
        refine aw_getR (r := 152) 21 rfl dX9_pulses_49 fl_X9_48 at_140 rfl rfl ?_
        try simp (disch := omega) only [up_at, up_ne]
        refine a_il2 dX9_pulses_52 ?_
        refine aw_iconst dX9_pulses_53 (by decide) ?_
        refine aw_iast dX9_pulses_54 ar_152 (by omega) ?_
        refine a_iiR2 (by omega) rfl rfl dX9_pulses_55 ?_
        refine aw_goto 2 dX9_pulses_58 (by decide) ?_
        have g141 : ∀ y, ¬ (y = 46 + 25 * q + 3 ∨ y = 46 + 25 * q + 8 ∨ y = 46 + 25 * q + 9) → h2 141 y = h1 141 y := fun y hy => by
          rw [g1 141 y (by omega) (by omega) (by omega), up_ne (by omega), up_ne (by omega)]
        refine nx _ (fun k x a b => ?_) ⟨fun _ l hd w el ehd ew => ?_, fun a => absurd a1 a, by rw [up_at]⟩ hq
        · rw [up_ne (by omega), up_ne (by omega), g1 k x (by omega) (by omega) (by omega), up_ne (by omega), up_ne (by omega)]
        · simp (disch := omega) only [up_at, up_ne]
          subst el
          rw [← ehd] at g3
          have w3 : h2 141 (46 + 25 * q + 3) = hd := by
            rw [g1 _ _ (by omega) (by omega) (by omega), up_at, ehd]
          have w9 : h2 141 (46 + 25 * q + 9) = gSi (h 141 (46 + 25 * q + (11 + p))) (h 141 (46 + 25 * q + 9)) (h 141 (46 + 25 * q + 7)) := by
            rw [g1 _ _ (by omega) (by omega) (by omega), up_ne (by omega), up_at]
          refine ⟨w3, w9, fun l4 => ?_, fun l4 hw => ?_, fun l4 hw hin => ?_, fun l4 hw hin => ?_⟩
          · obtain ⟨u1, u2⟩ := g2 l4
            rw [u1, up_ne (by omega), up_ne (by omega), ev 8 (by omega) (by omega)]
            exact ⟨rfl, u2⟩
          · obtain ⟨u1, u2⟩ := (g3 l4 w ew).1 hw
            exact ⟨u2, u1⟩
          · obtain ⟨u1, u2, u3, u4⟩ := (g3 l4 w ew).2 hw
            rw [u1, u2] at u3
            obtain ⟨u5, u6⟩ := u3 (by omega)
            exact ⟨u6, u5, u1, u2⟩
          · obtain ⟨u1, u2, u3, u4⟩ := (g3 l4 w ew).2 hw
            rw [u1, u2] at u4
            obtain ⟨u5, u6⟩ := u4 (by omega)
            exact ⟨u6, u5⟩
      have x01 : x = 0 ∨ x = 1 := by
        obtain ⟨-, g2, g3⟩ := gt
        by_cases l4 : h 141 (46 + 25 * q + (11 + p)) = 4
        · exact Or.inl (g2 l4).2
        · have g4 := g3 l4 _ rfl
          by_cases hw : gWay (goH h1 q (h 141 (46 + 25 * q + (11 + p))) 141 (46 + 25 * q + 8)) (goH h1 q (h 141 (46 + 25 * q + (11 + p))) 141 (46 + 25 * q + 6)) (goH h1 q (h 141 (46 + 25 * q + (11 + p))) 141 6) (goH h1 q (h 141 (46 + 25 * q + (11 + p))) 141 (46 + 25 * q + 3)) (goH h1 q (h 141 (46 + 25 * q + (11 + p))) 141 5) < 90
          · exact Or.inl (g4.1 hw).1
          · obtain ⟨-, -, u3, u4⟩ := g4.2 (by omega)
            by_cases hin : (0 ≤ h2 150 q ∧ h2 150 q < goH h1 q (h 141 (46 + 25 * q + (11 + p))) 141 0 ∧ 0 ≤ h2 151 q ∧ h2 151 q < goH h1 q (h 141 (46 + 25 * q + (11 + p))) 141 1)
            · exact Or.inr (u3 hin).1
            · exact Or.inl (u4 hin).1
      refine am_ci ?_
      refine aw_if_eq 46 dX9_pulses_39 (by decide) (fun c39 => ?_) (fun c39 => ?_)
      · skip
        refine aw_iconst dX9_pulses_46 (by decide) ?_
        exact fin 0 (by omega) x01
      · refine aw_iconst dX9_pulses_42 (by decide) ?_
        refine aw_goto 47 dX9_pulses_43 (by decide) ?_
        exact fin 1 (by omega) x01
    · rw [ev 10 (by omega) (by omega)] at a1
      refine am_ci ?_
      refine aw_if_eq_y 46 dX9_pulses_22 (by decide) (by decide) ?_
      refine aw_iconst dX9_pulses_46 (by decide) ?_
      refine aw_zast dX9_pulses_47 ar_149 (by omega) (by omega) ?_
      refine a_al0 (by decide) dX9_pulses_48 ?_
      refine aw_getR (r := 152) 21 rfl dX9_pulses_49 fl_X9_48 at_140 rfl rfl ?_
      try simp (disch := omega) only [up_at, up_ne]
      refine a_il2 dX9_pulses_52 ?_
      refine aw_iconst dX9_pulses_53 (by decide) ?_
      refine aw_iast dX9_pulses_54 ar_152 (by omega) ?_
      refine a_iiR2 (by omega) rfl rfl dX9_pulses_55 ?_
      refine aw_goto 2 dX9_pulses_58 (by decide) ?_
      refine nx _ (fun k x a b => ?_) ⟨fun a => absurd a a1, fun _ => ?_, by rw [up_at]⟩ hq
      · rw [up_ne (by omega), up_ne (by omega)]
      · simp (disch := omega) only [up_at, up_ne]
        exact ⟨ev 3 (by omega) (by omega), ev 8 (by omega) (by omega), ev 9 (by omega) (by omega), trivial⟩
