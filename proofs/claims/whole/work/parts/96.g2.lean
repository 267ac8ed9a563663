/-! the class: sizes and winds of its text -/
theorem wO_s : wO 0 = wO 35 ∧ wO 1 = wO 36 ∧ wO 2 = wO 37 ∧ wO 3 = wO 38 ∧ wO 4 = wO 39 ∧ wO 5 = wO 40 ∧ wO 6 = wO 41 ∧ wO 7 = wO 42 ∧ wO 8 = wO 43 := ⟨rfl, rfl, rfl, rfl, rfl, rfl, rfl, rfl, rfl⟩
theorem ac_takeWordX5 {S : Int → Int} {L p x : Int} {i : Nat} {q : String × Nat × String} {h : AH} {K : AO → Nat → AH → Prop} (hT : TxS S L) (hx : cTx S L h) (hp : 0 ≤ p ∧ p ≤ L) (h5 : h 2 5 = p) (hq : am_st[i]? = some q) (hi : x = 2000 + (i : Int)) (hn : 1 ≤ (wO i).length) (k1 : wdQ S p (wO i) → ∀ h', cTF h h' → h' 2 5 = wE S p → K (.inl (some (0, 1))) 159 h') (k0 : ¬ wdQ S p (wO i) → ∀ h', cEF h h' → h' 2 2 = -2 → h' 2 3 = aP S p → K (.inl (some (0, 0))) 159 h') : AC mX5_takeWord 6 0 0 159 [(2, 2), (2, x)] h K := by
  rw [hi]
  exact ac_takeWordC hT hx hp h5 hq hn k1 k0
/-- the text's own and the sheet that is read may be others -/
def GF (h g : AH) : Prop := ∀ k x, ¬ (k = 2 ∧ 2 ≤ x ∧ x ≤ 7) → k ≠ 4 → ¬ (15 ≤ k ∧ k ≤ 24) → g k x = h k x
theorem GF_E {h g : AH} (p : cEF h g) : GF h g := fun k x a _ _ => p k x a
theorem GF_T {h g : AH} (p : cTF h g) : GF h g := GF_E (cTF_E p)
theorem GF_trans {h g f : AH} (a : GF h g) (b : GF g f) : GF h f := fun k x p q r => by rw [b k x p q r, a k x p q r]
theorem GF_up {h g : AH} {k x v : Int} (hk : 15 ≤ k ∧ k ≤ 24) (p : GF h g) : GF h (up g k x v) := fun k' x' a b c => by rw [up_ne (by omega), p k' x' a b c]
theorem cTx_G {S : Int → Int} {L : Int} {h g : AH} (p : GF h g) (hx : cTx S L h) : cTx S L g := ⟨by rw [p _ _ (by omega) (by decide) (by omega)]; exact hx.1, fun k a b => by rw [p _ _ (by omega) (by decide) (by omega)]; exact hx.2 k a b⟩
theorem CE_up {S : Int → Int} {L p : Int} {g : AH} {k x v : Int} (hk : 15 ≤ k ∧ k ≤ 24) (c : CE S L p g) : CE S L p (up g k x v) := by
  obtain ⟨⟨a, a2⟩, b, c⟩ := c
  exact ⟨⟨by rw [up_ne (by omega)]; exact a, fun j j0 j1 => by rw [up_ne (by omega)]; exact a2 j j0 j1⟩, b, by rw [up_ne (by omega)]; exact c⟩
theorem ac_readSize {S : Int → Int} {L : Int} {r : Int → Int} {h : AH} {K : AO → Nat → AH → Prop} (hT : TxS S L) (hw : CE S L 0 h) (k1 : (ldA S r).2.2.1 = 0 → ∀ h', (∀ k x, ¬ (k = 2 ∧ 4 ≤ x ∧ x ≤ 7) → ¬ (k = 15 ∧ (x = 0 ∨ x = 1)) → h' k x = h k x) → h' 15 0 = (ldA S r).1 0 → h' 15 1 = (ldA S r).1 1 → (4 ≤ h' 15 0 ∧ h' 15 0 ≤ 30) → (4 ≤ h' 15 1 ∧ h' 15 1 ≤ 30) → CW S L (ldA S r).2.1 h' → K (.inl (some (0, 1))) 159 h') (k0 : ¬ (ldA S r).2.2.1 = 0 → ∀ h', GF h h' → CFl (ldA S r).2 h' → K (.inl (some (0, 0))) 159 h') : AC mX0_readSize 7 0 0 159 [(2, 1), (2, 15)] h K := by
  obtain ⟨x, p, e⟩ := hw
  obtain ⟨w0, -⟩ := wO_s
  refine ac_of (ls := [(2, 1), (2, 15)]) pn_X0 rfl (Nat.le_of_ble_eq_true rfl) rfl ?_
  refine a_al0 (by decide) dX0_readSize_0 ?_
  refine aw_getR (r := 2) 0 rfl dX0_readSize_1 fl_X0_12 at_1 rfl rfl ?_
  refine aw_ldcS (i := 0) dX0_readSize_4 rfl ⟨rfl, rfl⟩ 2000 rfl ?_
  refine aw_callV 6 0 0 dX0_readSize_6 yw_X5_takeWord ml_X0_52 in_X5_takeWord se_X5_takeWord (ci := 4) rfl at_2 (as := [_]) rfl rfl ⟨by decide, by decide, by decide, Nat.le_of_ble_eq_true rfl⟩ ?_
  refine ac_takeWordX5 (i := 0) (p := 0) hT x p e rfl rfl (by decide) (fun q h1 f1 e5 => ?_) (fun q h1 f1 e2 e3 => ?_)
  · have q' : wdS S (0, 0, 0) (wO 35) := ⟨rfl, by rw [← w0]; exact q⟩
    have kz : kP S 0 = 0 := q.1
    have eb := (wE_0 hT p).1 kz
    have rb := bP_rg hT p
    have ra := aP_rg hT p
    have s1 : ld1 S = (bP S 0, 0, 0) := by
      unfold ld1
      exact mustS_1 rfl (cif_pos q')
    have c1 : CE S L (ld1 S).1 h1 := by
      rw [s1]
      exact ⟨cTx_T f1 x, by dsimp only; omega, by rw [e5, eb.1]⟩
    have z1 : (ld1 S).2.1 = 0 := by rw [s1]
    refine am_ci ?_
    refine aw_if_eq_n 25 dX0_readSize_9 (by decide) (by decide) ?_
    refine a_al0 (by decide) dX0_readSize_12 ?_
    refine aw_getR (r := 2) 0 rfl dX0_readSize_13 fl_X0_12 at_1 rfl rfl ?_
    refine aw_iconst dX0_readSize_16 (by decide) ?_
    refine aw_bipush dX0_readSize_17 (by decide) ?_
    refine aw_callV 2 0 0 dX0_readSize_19 yw_X5_takeNumber ml_X0_56 in_X5_takeNumber se_X5_takeNumber (ci := 4) rfl at_2 (as := [_, _]) rfl rfl ⟨by decide, by decide, by decide, Nat.le_of_ble_eq_true rfl⟩ ?_
    refine ac_tkN hT z1 c1 (by decide) (fun y1 y2 y3 h2 f2 e4 c2 z2 e6 => ?_) (fun y1 h2 f2 fl => ?_)
    · skip
      refine am_ci ?_
      refine aw_if_ne_y 27 dX0_readSize_22 (by decide) (by decide) ?_
      refine a_al1 (by decide) dX0_readSize_27 ?_
      refine a_al0 (by decide) dX0_readSize_28 ?_
      refine aw_getR (r := 2) 0 rfl dX0_readSize_29 fl_X0_12 at_1 rfl rfl ?_
      refine aw_get 6 dX0_readSize_32 fl_X0_60 at_2 rfl ?_
      refine aw_put 0 dX0_readSize_35 fp_X0_64 at_15 rfl ?_
      refine a_al0 (by decide) dX0_readSize_38 ?_
      refine aw_getR (r := 2) 0 rfl dX0_readSize_39 fl_X0_12 at_1 rfl rfl ?_
      try simp (disch := omega) only [up_at, up_ne]
      refine aw_iconst dX0_readSize_42 (by decide) ?_
      refine aw_bipush dX0_readSize_43 (by decide) ?_
      refine aw_callV 2 0 0 dX0_readSize_45 yw_X5_takeNumber ml_X0_56 in_X5_takeNumber se_X5_takeNumber (ci := 4) rfl at_2 (as := [_, _]) rfl rfl ⟨by decide, by decide, by decide, Nat.le_of_ble_eq_true rfl⟩ ?_
      refine ac_tkN hT z2 (CE_up (by decide) c2) (by decide) (fun y4 y5 y6 h3 f3 e4' c3 z3 e6' => ?_) (fun y4 h3 f3 fl => ?_)
      · skip
        refine am_ci ?_
        refine aw_if_ne_y 53 dX0_readSize_48 (by decide) (by decide) ?_
        refine a_al1 (by decide) dX0_readSize_53 ?_
        refine a_al0 (by decide) dX0_readSize_54 ?_
        refine aw_getR (r := 2) 0 rfl dX0_readSize_55 fl_X0_12 at_1 rfl rfl ?_
        try simp (disch := omega) only [up_at, up_ne]
        refine aw_get 6 dX0_readSize_58 fl_X0_60 at_2 rfl ?_
        try simp (disch := omega) only [up_at, up_ne]
        refine aw_put 1 dX0_readSize_61 fp_X0_67 at_15 rfl ?_
        refine a_al0 (by decide) dX0_readSize_64 ?_
        refine aw_callV 3 0 0 dX0_readSize_65 yw_X0_endPart ml_X0_70 in_X0_endPart se_X0_endPart (ci := 0) rfl at_1 (as := []) rfl rfl ⟨by decide, by decide, by decide, Nat.le_of_ble_eq_true rfl⟩ ?_
        have fr : ∀ k y, ¬ (k = 2 ∧ 4 ≤ y ∧ y ≤ 7) → ¬ (k = 15 ∧ (y = 0 ∨ y = 1)) → up h3 15 1 (h3 2 6) k y = h k y := fun k y a c => by
          rw [up_ne (by omega), f3 k y (by omega), up_ne (by omega), f2 k y (by omega), f1 k y (by omega)]
        have v0 : h3 15 0 = standV S 4 30 (ld1 S) := by rw [f3 15 0 (by omega), up_at]; exact e6
        refine ac_endPart hT z3 (CE_up (by decide) c3) (fun y7 h4 f4 c4 => ?_) (fun y7 h4 f4 fl => ?_)
        · have w15 : h4 15 0 = standV S 4 30 (ld1 S) ∧ h4 15 1 = standV S 4 30 (takeS S 4 30 (ld1 S)) := ⟨by rw [f4 15 0 (by omega), up_ne (by omega)]; exact v0, by rw [f4 15 1 (by omega), up_at]; exact e6'⟩
          refine am_ci ?_
          try simp (disch := omega) only [up_at, up_ne]
          refine aw_zret dX0_readSize_68 rfl (by omega) ?_
          refine k1 y7 h4 (fun k y a c => by rw [f4 k y (by omega), fr k y a c]) ?_ ?_ (by rw [w15.1]; exact y3) (by rw [w15.2]; exact y6) c4
          · rw [w15.1]
            unfold ldA
            dsimp only
            rw [upr_ne (by decide), upr_at]
          · rw [w15.2]
            unfold ldA
            dsimp only
            rw [upr_at]
        · skip
          refine am_ci ?_
          try simp (disch := omega) only [up_at, up_ne]
          refine aw_zret dX0_readSize_68 rfl (by omega) ?_
          exact k0 y7 h4 (GF_trans (GF_up (by decide) (GF_trans (GF_up (by decide) (GF_trans (GF_T f1) (GF_T f2))) (GF_T f3))) (GF_E f4)) fl
      · have en : takeS S 4 30 (takeS S 4 30 (ld1 S)) = standS S 4 30 (takeS S 4 30 (ld1 S)) := nextS_e y4
        have ee : (ldA S r).2 = standS S 4 30 (takeS S 4 30 (ld1 S)) := by
          unfold ldA
          dsimp only
          rw [en]
          exact endS_e y4
        rw [← ee] at fl y4
        refine am_ci ?_
        refine aw_if_ne_n 53 dX0_readSize_48 (by decide) (by decide) ?_
        refine aw_iconst dX0_readSize_51 (by decide) ?_
        refine aw_zret dX0_readSize_52 rfl (by omega) ?_
        exact k0 y4 h3 (GF_trans (GF_up (by decide) (GF_trans (GF_T f1) (GF_T f2))) (GF_E f3)) fl
    · have en : takeS S 4 30 (ld1 S) = standS S 4 30 (ld1 S) := nextS_e y1
      have ee : (ldA S r).2 = standS S 4 30 (ld1 S) := by
        unfold ldA
        dsimp only
        rw [en, takeS_e y1]
        exact endS_e y1
      rw [← ee] at fl y1
      refine am_ci ?_
      refine aw_if_ne_n 27 dX0_readSize_22 (by decide) (by decide) ?_
      refine aw_iconst dX0_readSize_25 (by decide) ?_
      refine aw_zret dX0_readSize_26 rfl (by omega) ?_
      exact k0 y1 h2 (GF_trans (GF_T f1) (GF_E f2)) fl
  · have q' : ¬ wdS S (0, 0, 0) (wO 35) := fun z => q (by rw [w0]; exact z.2)
    have s1 : ld1 S = (0, -2, aP S 0) := by
      unfold ld1
      exact mustS_0 rfl (cif_neg q')
    have ns : ¬ (ld1 S).2.1 = 0 := by rw [s1]; dsimp only; decide
    have ee : (ldA S r).2 = (0, -2, aP S 0) := by
      unfold ldA
      dsimp only
      rw [takeS_e ns, takeS_e ns, endS_e ns, s1]
    rw [ee] at k0
    refine am_ci ?_
    refine aw_if_eq_y 25 dX0_readSize_9 (by decide) (by decide) ?_
    refine aw_iconst dX0_readSize_25 (by decide) ?_
    refine aw_zret dX0_readSize_26 rfl (by omega) ?_
    exact k0 (by dsimp only; decide) h1 (GF_E f1) ⟨e2, e3⟩
