/-! the class: winds and shifts of its text -/
theorem ac_readWind {S : Int → Int} {L : Int} {q : (Int → Int) × PS} {h : AH} {K : AO → Nat → AH → Prop} (hT : TxS S L) (h0 : q.2.2.1 = 0) (hw : CW S L q.2.1 h) (e5 : h 15 5 = q.1 5 ∧ 0 ≤ h 15 5 ∧ h 15 5 ≤ 7) (e6 : h 15 6 = q.1 6 ∧ 0 ≤ h 15 6 ∧ h 15 6 ≤ 9) (k1 : (ldB S q).2.2.1 = 0 → ∀ h', (∀ k x, ¬ (k = 2 ∧ 4 ≤ x ∧ x ≤ 7) → ¬ (k = 15 ∧ (x = 5 ∨ x = 6)) → h' k x = h k x) → (h' 15 5 = (ldB S q).1 5 ∧ 0 ≤ h' 15 5 ∧ h' 15 5 ≤ 7) → (h' 15 6 = (ldB S q).1 6 ∧ 0 ≤ h' 15 6 ∧ h' 15 6 ≤ 9) → CW S L (ldB S q).2.1 h' → K (.inl (some (0, 1))) 159 h') (k0 : ¬ (ldB S q).2.2.1 = 0 → ∀ h', GF h h' → CFl (ldB S q).2 h' → K (.inl (some (0, 0))) 159 h') : AC mX0_readWind 6 0 0 159 [(2, 1), (2, 15)] h K := by
  have hw2 := hw
  obtain ⟨x, p, e4, e45⟩ := hw2
  obtain ⟨-, w0, -⟩ := wO_s
  refine ac_of (ls := [(2, 1), (2, 15)]) pn_X0 rfl (Nat.le_of_ble_eq_true rfl) rfl ?_
  refine a_al0 (by decide) dX0_readWind_0 ?_
  refine aw_getR (r := 2) 0 rfl dX0_readWind_1 fl_X0_12 at_1 rfl rfl ?_
  refine aw_ldcS (i := 1) dX0_readWind_4 rfl ⟨rfl, rfl⟩ 2001 rfl ?_
  refine aw_callV 5 0 0 dX0_readWind_6 yw_X5_isWord ml_X0_75 in_X5_isWord se_X5_isWord (ci := 4) rfl at_2 (as := [_]) rfl rfl ⟨by decide, by decide, by decide, Nat.le_of_ble_eq_true rfl⟩ ?_
  refine ac_isWordX5 (i := 1) hT x p e4 e45 rfl rfl (by decide) (fun y => ?_) (fun y => ?_)
  · have q' : wdS S q.2 (wO 36) := ⟨h0, by rw [← w0]; exact y⟩
    have eB : ldB S q = (upr (upr q.1 5 (standV S 0 7 (nextS S q.2))) 6 (standV S 0 9 (takeS S 0 7 (nextS S q.2))), endS S (takeS S 0 9 (takeS S 0 7 (nextS S q.2)))) := cif_pos q'
    rw [eB] at k0 k1
    have z1 : (nextS S q.2).2.1 = 0 := by rw [nextS_0 h0]
    have c1 : CE S L (nextS S q.2).1 h := by rw [nextS_0 h0]; exact CW_E hT hw y.1
    refine am_ci ?_
    refine aw_if_ne_y 14 dX0_readWind_9 (by decide) (by decide) ?_
    refine a_al0 (by decide) dX0_readWind_14 ?_
    refine aw_getR (r := 2) 0 rfl dX0_readWind_15 fl_X0_12 at_1 rfl rfl ?_
    refine aw_iconst dX0_readWind_18 (by decide) ?_
    refine aw_bipush dX0_readWind_19 (by decide) ?_
    refine aw_callV 2 0 0 dX0_readWind_21 yw_X5_takeNumber ml_X0_56 in_X5_takeNumber se_X5_takeNumber (ci := 4) rfl at_2 (as := [_, _]) rfl rfl ⟨by decide, by decide, by decide, Nat.le_of_ble_eq_true rfl⟩ ?_
    refine ac_tkN hT z1 c1 (by decide) (fun y1 y2 y3 h2 f2 e4 c2 z2 e6' => ?_) (fun y1 h2 f2 fl => ?_)
    · skip
      refine am_ci ?_
      refine aw_if_ne_y 29 dX0_readWind_24 (by decide) (by decide) ?_
      refine a_al1 (by decide) dX0_readWind_29 ?_
      refine a_al0 (by decide) dX0_readWind_30 ?_
      refine aw_getR (r := 2) 0 rfl dX0_readWind_31 fl_X0_12 at_1 rfl rfl ?_
      refine aw_get 6 dX0_readWind_34 fl_X0_60 at_2 rfl ?_
      refine aw_put 5 dX0_readWind_37 fp_X0_78 at_15 rfl ?_
      refine a_al0 (by decide) dX0_readWind_40 ?_
      refine aw_getR (r := 2) 0 rfl dX0_readWind_41 fl_X0_12 at_1 rfl rfl ?_
      try simp (disch := omega) only [up_at, up_ne]
      refine aw_iconst dX0_readWind_44 (by decide) ?_
      refine aw_bipush dX0_readWind_45 (by decide) ?_
      refine aw_callV 2 0 0 dX0_readWind_47 yw_X5_takeNumber ml_X0_56 in_X5_takeNumber se_X5_takeNumber (ci := 4) rfl at_2 (as := [_, _]) rfl rfl ⟨by decide, by decide, by decide, Nat.le_of_ble_eq_true rfl⟩ ?_
      refine ac_tkN hT z2 (CE_up (by decide) c2) (by decide) (fun y4 y5 y6 h3 f3 e4' c3 z3 e6'' => ?_) (fun y4 h3 f3 fl => ?_)
      · skip
        refine am_ci ?_
        refine aw_if_ne_y 55 dX0_readWind_50 (by decide) (by decide) ?_
        refine a_al1 (by decide) dX0_readWind_55 ?_
        refine a_al0 (by decide) dX0_readWind_56 ?_
        refine aw_getR (r := 2) 0 rfl dX0_readWind_57 fl_X0_12 at_1 rfl rfl ?_
        try simp (disch := omega) only [up_at, up_ne]
        refine aw_get 6 dX0_readWind_60 fl_X0_60 at_2 rfl ?_
        try simp (disch := omega) only [up_at, up_ne]
        refine aw_put 6 dX0_readWind_63 fp_X0_81 at_15 rfl ?_
        refine a_al0 (by decide) dX0_readWind_66 ?_
        refine aw_callV 3 0 0 dX0_readWind_67 yw_X0_endPart ml_X0_70 in_X0_endPart se_X0_endPart (ci := 0) rfl at_1 (as := []) rfl rfl ⟨by decide, by decide, by decide, Nat.le_of_ble_eq_true rfl⟩ ?_
        have fr : ∀ k y, ¬ (k = 2 ∧ 4 ≤ y ∧ y ≤ 7) → ¬ (k = 15 ∧ (y = 5 ∨ y = 6)) → up h3 15 6 (h3 2 6) k y = h k y := fun k y a c => by
          rw [up_ne (by omega), f3 k y (by omega), up_ne (by omega), f2 k y (by omega)]
        have v0 : h3 15 5 = standV S 0 7 (nextS S q.2) := by rw [f3 15 5 (by omega), up_at]; exact e6'
        refine ac_endPart hT z3 (CE_up (by decide) c3) (fun y7 h4 f4 c4 => ?_) (fun y7 h4 f4 fl => ?_)
        · have w15 : h4 15 5 = standV S 0 7 (nextS S q.2) ∧ h4 15 6 = standV S 0 9 (takeS S 0 7 (nextS S q.2)) := ⟨by rw [f4 15 5 (by omega), up_ne (by omega)]; exact v0, by rw [f4 15 6 (by omega), up_at]; exact e6''⟩
          refine am_ci ?_
          try simp (disch := omega) only [up_at, up_ne]
          refine aw_zret dX0_readWind_70 rfl (by omega) ?_
          refine k1 y7 h4 (fun k y a c => by rw [f4 k y (by omega), fr k y a c]) ⟨?_, by rw [w15.1]; exact y3⟩ ⟨?_, by rw [w15.2]; exact y6⟩ c4
          · rw [w15.1]
            dsimp only
            rw [upr_ne (by decide), upr_at]
          · rw [w15.2]
            dsimp only
            rw [upr_at]
        · skip
          refine am_ci ?_
          try simp (disch := omega) only [up_at, up_ne]
          refine aw_zret dX0_readWind_70 rfl (by omega) ?_
          exact k0 y7 h4 (GF_trans (GF_up (by decide) (GF_trans (GF_up (by decide) (GF_T f2)) (GF_T f3))) (GF_E f4)) fl
      · have ee : endS S (takeS S 0 9 (takeS S 0 7 (nextS S q.2))) = standS S 0 9 (takeS S 0 7 (nextS S q.2)) := by
          rw [show takeS S 0 9 (takeS S 0 7 (nextS S q.2)) = standS S 0 9 (takeS S 0 7 (nextS S q.2)) from nextS_e y4]
          exact endS_e y4
        dsimp only at k0
        rw [ee] at k0
        refine am_ci ?_
        refine aw_if_ne_n 55 dX0_readWind_50 (by decide) (by decide) ?_
        refine aw_iconst dX0_readWind_53 (by decide) ?_
        refine aw_zret dX0_readWind_54 rfl (by omega) ?_
        exact k0 y4 h3 (GF_trans (GF_up (by decide) (GF_T f2)) (GF_E f3)) fl
    · have ee : endS S (takeS S 0 9 (takeS S 0 7 (nextS S q.2))) = standS S 0 7 (nextS S q.2) := by
        rw [show takeS S 0 7 (nextS S q.2) = standS S 0 7 (nextS S q.2) from nextS_e y1, takeS_e y1]
        exact endS_e y1
      dsimp only at k0
      rw [ee] at k0
      refine am_ci ?_
      refine aw_if_ne_n 29 dX0_readWind_24 (by decide) (by decide) ?_
      refine aw_iconst dX0_readWind_27 (by decide) ?_
      refine aw_zret dX0_readWind_28 rfl (by omega) ?_
      exact k0 y1 h2 (GF_E f2) fl
  · have q' : ¬ wdS S q.2 (wO 36) := fun z => y (by rw [w0]; exact z.2)
    have eB : ldB S q = q := cif_neg q'
    rw [eB] at k1
    refine am_ci ?_
    refine aw_if_ne_n 14 dX0_readWind_9 (by decide) (by decide) ?_
    refine aw_iconst dX0_readWind_12 (by decide) ?_
    refine aw_zret dX0_readWind_13 rfl (by omega) ?_
    exact k1 h0 h (fun _ _ _ _ => rfl) e5 e6 hw
/-- shifts as they are read -/
def ShS (h : AH) (r : Int → Int) : Prop := (h 15 7 = r 9 ∧ 0 ≤ r 9 ∧ r 9 ≤ 8) ∧ ∀ s, 0 ≤ s → s < r 9 → (∀ w, 0 ≤ w → w ≤ 2 → h 19 (s * 3 + w) = r (10 + 3 * s + w)) ∧ (0 ≤ r (10 + 3 * s + 1) ∧ r (10 + 3 * s + 1) ≤ 7) ∧ (0 ≤ r (10 + 3 * s + 2) ∧ r (10 + 3 * s + 2) ≤ 9)
theorem ShS_shf {h h' : AH} {r : Int → Int} {t d f : Int} (hS : ShS h r) (h9 : r 9 ≤ 7) (hd : 0 ≤ d ∧ d ≤ 7) (hf : 0 ≤ f ∧ f ≤ 9) (e7 : h' 15 7 = r 9 + 1) (e19 : ∀ x, x < r 9 * 3 → h' 19 x = h 19 x) (et : h' 19 (r 9 * 3) = t) (ed : h' 19 (r 9 * 3 + 1) = d) (ef : h' 19 (r 9 * 3 + 2) = f) : ShS h' (shfR r t d f) := by
  obtain ⟨⟨a, b⟩, c⟩ := hS
  have n9 : shfR r t d f 9 = r 9 + 1 := upr_at _ _ _
  have M : ∀ y, y ≠ 9 → y < 10 + 3 * r 9 → shfR r t d f y = r y := fun y a c => by
    unfold shfR
    rw [upr_ne (by omega), upr_ne (by omega), upr_ne (by omega), upr_ne (by omega)]
  have v0 : shfR r t d f (10 + 3 * r 9) = t := by
    unfold shfR
    rw [upr_ne (by omega), upr_ne (by omega), upr_ne (by omega), upr_at]
  have v1 : shfR r t d f (10 + 3 * r 9 + 1) = d := by
    unfold shfR
    rw [upr_ne (by omega), upr_ne (by omega), upr_at]
  have v2 : shfR r t d f (10 + 3 * r 9 + 2) = f := by
    unfold shfR
    rw [upr_ne (by omega), upr_at]
  unfold ShS
  rw [n9]
  refine ⟨⟨e7, by omega, by omega⟩, fun s s0 s1 => ?_⟩
  by_cases z : s = r 9
  · rw [z, v1, v2]
    refine ⟨fun w w0 w1 => ?_, hd, hf⟩
    rcases (show w = 0 ∨ w = 1 ∨ w = 2 by omega) with y | y | y
    · rw [y, Int.add_zero, Int.add_zero, v0, et]
    · rw [y, v1, ed]
    · rw [y, v2, ef]
  · obtain ⟨c1, c2, c3⟩ := c s s0 (by omega)
    rw [M _ (by omega) (by omega), M _ (by omega) (by omega)]
    refine ⟨fun w w0 w1 => ?_, c2, c3⟩
    rw [M _ (by omega) (by omega), e19 _ (by omega)]
    exact c1 w w0 w1
