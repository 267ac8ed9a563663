/-! the class: shifts of its text -/
theorem ac_readShift {S : Int → Int} {L : Int} {r : Int → Int} {st : PS} {h : AH} {K : AO → Nat → AH → Prop} (hT : TxS S L) (h0 : st.2.1 = 0) (hk : kP S st.1 = 0) (hw : CW S L st.1 h) (hS : ShS h r) (h9 : r 9 ≤ 7) (k1 : (shft8 S r st).2.1 = 0 → ∀ h', (∀ k x, ¬ (k = 2 ∧ 4 ≤ x ∧ x ≤ 7) → ¬ (k = 15 ∧ x = 7) → k ≠ 19 → h' k x = h k x) → ShS h' (shftR S r st) → CW S L (shft8 S r st).1 h' → K (.inl (some (0, 1))) 159 h') (k0 : ¬ (shft8 S r st).2.1 = 0 → ∀ h', GF h h' → CFl (shft8 S r st) h' → K (.inl (some (0, 0))) 159 h') : AC mX0_readShift 4 0 0 159 [(2, 1), (2, 15)] h K := by
  have hS2 := hS
  obtain ⟨⟨e7, r0, r8⟩, es⟩ := hS2
  have s3 : shft3 S r st = (bP S st.1, 0, st.2.2) := by
    unfold shft3
    rw [if_neg (by omega)]
    exact mustS_1 h0 rfl
  obtain ⟨u, hu⟩ : ∃ u, u = shft3 S r st := ⟨_, rfl⟩
  have z1 : u.2.1 = 0 := by rw [hu, s3]
  have c1 : CE S L u.1 h := by rw [hu, s3]; exact CW_E hT hw hk
  have d5 : shft5 S r st = mustS S 1 (cif (∃ k, 0 ≤ k ∧ k < r 9 ∧ r (10 + 3 * k) = standV S 0 999 u) (failS S (-4) (standS S 0 999 u)) (standS S 0 999 u)) := by rw [hu]; rfl
  have dR : shftR S r st = shfR r (standV S 0 999 u) (standV S 0 7 (shft5 S r st)) (standV S 0 9 (takeS S 0 7 (shft5 S r st))) := by rw [hu]; rfl
  have d8 : shft8 S r st = endS S (takeS S 0 9 (takeS S 0 7 (shft5 S r st))) := rfl
  obtain ⟨v, hv⟩ : ∃ v, v = shft5 S r st := ⟨_, rfl⟩
  rw [← hv] at d5 dR d8
  rw [d8] at k0 k1
  rw [dR] at k1
  have eE : ∀ s : PS, ¬ s.2.1 = 0 → v = s → endS S (takeS S 0 9 (takeS S 0 7 v)) = s := fun s a b => by
    rw [b, takeS_e a, takeS_e a, endS_e a]
  refine ac_of (ls := [(2, 1), (2, 15), (9, 0), (9, 0), (9, 0)]) pn_X0 rfl (Nat.le_of_ble_eq_true rfl) rfl ?_
  refine a_al0 (by decide) dX0_readShift_0 ?_
  refine aw_getR (r := 2) 0 rfl dX0_readShift_1 fl_X0_12 at_1 rfl rfl ?_
  refine aw_iconst dX0_readShift_4 (by decide) ?_
  refine aw_sipush dX0_readShift_5 (by decide) ?_
  refine aw_callV 2 0 0 dX0_readShift_8 yw_X5_takeNumber ml_X0_56 in_X5_takeNumber se_X5_takeNumber (ci := 4) rfl at_2 (as := [_, _]) rfl rfl ⟨by decide, by decide, by decide, Nat.le_of_ble_eq_true rfl⟩ ?_
  refine ac_tkN hT z1 c1 (by decide) (fun y1 y2 y3 h2 f2 e4 c2 z2 e6 => ?_) (fun y1 h2 f2 fl => ?_)
  · have g7 : h2 15 7 = r 9 := by rw [f2 15 7 (by omega)]; exact e7
    have tk1 : takeS S 0 999 u = nextS S u := by
      unfold takeS
      rw [y2]
    refine am_ci ?_
    refine aw_if_ne_y 16 dX0_readShift_11 (by decide) (by decide) ?_
    refine a_al0 (by decide) dX0_readShift_16 ?_
    refine aw_getR (r := 2) 0 rfl dX0_readShift_17 fl_X0_12 at_1 rfl rfl ?_
    refine aw_get 6 dX0_readShift_20 fl_X0_60 at_2 rfl ?_
    refine a_is2 rfl rfl dX0_readShift_23 ?_
    refine a_al1 (by decide) dX0_readShift_24 ?_
    refine a_il2 dX0_readShift_25 ?_
    refine aw_callV 2 0 0 dX0_readShift_26 yw_X3_shiftOf ml_X0_96 in_X3_shiftOf se_X3_shiftOf (ci := 2) rfl at_15 (as := [_]) rfl rfl ⟨by decide, by decide, by decide, Nat.le_of_ble_eq_true rfl⟩ ?_
    rw [e6]
    refine ac_shiftOfC (Or.inr rfl) (by omega) (fun x hx => ?_)
    have hd : (∃ k, 0 ≤ k ∧ k < r 9 ∧ r (10 + 3 * k) = standV S 0 999 u) ↔ ¬ x = -1 := by
      have ec : ∀ k, 0 ≤ k → k < r 9 → (cSh h2 15 (standV S 0 999 u) k ↔ r (10 + 3 * k) = standV S 0 999 u) := fun k a c => by
        have q := (es k a c).1 0 (by decide) (by decide)
        rw [Int.add_zero, Int.add_zero] at q
        unfold cSh
        rw [f2 (15 + 4) _ (by omega), Int.add_zero]
        rw [show h (15 + 4) (k * 3) = r (10 + 3 * k) from q]
      rw [g7] at hx
      unfold isFst at hx
      rcases hx with ⟨a, c, d, -⟩ | ⟨a, c⟩
      · exact ⟨fun _ => by omega, fun _ => ⟨x, a, c, (ec x a c).mp d⟩⟩
      · exact ⟨fun ⟨k, p, q, s⟩ => absurd ((ec k p q).mpr s) (c k p q), fun q => absurd a q⟩
    refine am_ci ?_
    refine aw_iconst dX0_readShift_29 (by decide) ?_
    refine aw_icmp_eq 43 dX0_readShift_30 (by decide) (fun c30 => ?_) (fun c30 => ?_)
    · have x1 : x = -1 := by omega
      have nd := fun q => (hd.mp q) x1
      have v5 : v = (bP S u.1, 0, u.2.2) := by
        rw [d5, cif_neg nd, y2]
        exact mustS_1 z1 rfl
      have zv : v.2.1 = 0 := by rw [v5]
      have cv : CE S L v.1 h2 := by
        have ev : v.1 = (takeS S 0 999 u).1 := by rw [v5, tk1, nextS_0 z1]
        rw [ev]
        exact c2
      refine a_al0 (by decide) dX0_readShift_43 ?_
      refine aw_getR (r := 2) 0 rfl dX0_readShift_44 fl_X0_12 at_1 rfl rfl ?_
      refine aw_iconst dX0_readShift_47 (by decide) ?_
      refine aw_bipush dX0_readShift_48 (by decide) ?_
      refine aw_callV 2 0 0 dX0_readShift_50 yw_X5_takeNumber ml_X0_56 in_X5_takeNumber se_X5_takeNumber (ci := 4) rfl at_2 (as := [_, _]) rfl rfl ⟨by decide, by decide, by decide, Nat.le_of_ble_eq_true rfl⟩ ?_
      refine ac_tkN hT zv cv (by decide) (fun y4 y5 y6 h3 f3 e4' c3 z3 e6' => ?_) (fun y4 h3 f3 fl => ?_)
      · skip
        refine am_ci ?_
        refine aw_if_ne_y 58 dX0_readShift_53 (by decide) (by decide) ?_
        refine a_al0 (by decide) dX0_readShift_58 ?_
        refine aw_getR (r := 2) 0 rfl dX0_readShift_59 fl_X0_12 at_1 rfl rfl ?_
        refine aw_get 6 dX0_readShift_62 fl_X0_60 at_2 rfl ?_
        refine a_is3 rfl rfl dX0_readShift_65 ?_
        refine a_al0 (by decide) dX0_readShift_66 ?_
        refine aw_getR (r := 2) 0 rfl dX0_readShift_67 fl_X0_12 at_1 rfl rfl ?_
        refine aw_iconst dX0_readShift_70 (by decide) ?_
        refine aw_bipush dX0_readShift_71 (by decide) ?_
        refine aw_callV 2 0 0 dX0_readShift_73 yw_X5_takeNumber ml_X0_56 in_X5_takeNumber se_X5_takeNumber (ci := 4) rfl at_2 (as := [_, _]) rfl rfl ⟨by decide, by decide, by decide, Nat.le_of_ble_eq_true rfl⟩ ?_
        refine ac_tkN hT z3 c3 (by decide) (fun y7 y8 y9 h4 f4 e4'' c4 z4 e6'' => ?_) (fun y7 h4 f4 fl => ?_)
        · have g47 : h4 15 7 = r 9 := by rw [f4 15 7 (by omega), f3 15 7 (by omega)]; exact g7
          refine am_ci ?_
          refine aw_if_ne_y 81 dX0_readShift_76 (by decide) (by decide) ?_
          refine a_al1 (by decide) dX0_readShift_81 ?_
          refine aw_get 7 dX0_readShift_82 fl_X0_86 at_15 rfl ?_
          refine aw_iconst dX0_readShift_85 (by decide) ?_
          refine aw_imulR (by omega) dX0_readShift_86 ?_
          refine a_is4 rfl rfl dX0_readShift_87 ?_
          refine a_al1 (by decide) dX0_readShift_89 ?_
          refine aw_getR (r := 19) 12 rfl dX0_readShift_90 fl_X0_100 at_15 rfl rfl ?_
          refine a_il4 dX0_readShift_93 ?_
          refine a_il2 dX0_readShift_95 ?_
          refine aw_iast dX0_readShift_96 ar_19 (by omega) ?_
          refine a_al1 (by decide) dX0_readShift_97 ?_
          refine aw_getR (r := 19) 12 rfl dX0_readShift_98 fl_X0_100 at_15 rfl rfl ?_
          try simp (disch := omega) only [up_at, up_ne]
          refine a_il4 dX0_readShift_101 ?_
          refine aw_iconst dX0_readShift_103 (by decide) ?_
          refine aw_iaddR (by omega) dX0_readShift_104 ?_
          refine a_il3 dX0_readShift_105 ?_
          refine aw_iast dX0_readShift_106 ar_19 (by omega) ?_
          refine a_al1 (by decide) dX0_readShift_107 ?_
          refine aw_getR (r := 19) 12 rfl dX0_readShift_108 fl_X0_100 at_15 rfl rfl ?_
          try simp (disch := omega) only [up_at, up_ne]
          refine a_il4 dX0_readShift_111 ?_
          refine aw_iconst dX0_readShift_113 (by decide) ?_
          refine aw_iaddR (by omega) dX0_readShift_114 ?_
          refine a_al0 (by decide) dX0_readShift_115 ?_
          refine aw_getR (r := 2) 0 rfl dX0_readShift_116 fl_X0_12 at_1 rfl rfl ?_
          try simp (disch := omega) only [up_at, up_ne]
          refine aw_get 6 dX0_readShift_119 fl_X0_60 at_2 rfl ?_
          try simp (disch := omega) only [up_at, up_ne]
          refine aw_iast dX0_readShift_122 ar_19 (by omega) ?_
          refine a_al1 (by decide) dX0_readShift_123 ?_
          refine aw_dup dX0_readShift_124 rfl ?_
          refine aw_get 7 dX0_readShift_125 fl_X0_86 at_15 rfl ?_
          try simp (disch := omega) only [up_at, up_ne]
          refine aw_iconst dX0_readShift_128 (by decide) ?_
          refine aw_iaddR (by omega) dX0_readShift_129 ?_
          refine aw_put 7 dX0_readShift_130 fp_X0_86 at_15 rfl ?_
          refine a_al0 (by decide) dX0_readShift_133 ?_
          refine aw_callV 3 0 0 dX0_readShift_134 yw_X0_endPart ml_X0_70 in_X0_endPart se_X0_endPart (ci := 0) rfl at_1 (as := []) rfl rfl ⟨by decide, by decide, by decide, Nat.le_of_ble_eq_true rfl⟩ ?_
          rw [e6', g47, e6'']
          refine ac_endPart hT z4 (CE_up (by decide) (CE_up (by decide) (CE_up (by decide) (CE_up (by decide) c4)))) (fun ya h5 f5 c5 => ?_) (fun ya h5 f5 fl => ?_)
          · skip
            refine am_ci ?_
            try simp (disch := omega) only [up_at, up_ne]
            refine aw_zret dX0_readShift_137 rfl (by omega) ?_
            refine k1 ya h5 (fun k y a c d => ?_) ?_ c5
            · rw [f5 k y (by omega), up_ne (by omega), up_ne (by omega), up_ne (by omega), up_ne (by omega), f4 k y (by omega), f3 k y (by omega), f2 k y (by omega)]
            · refine ShS_shf hS h9 y6 y9 ?_ (fun y hy => ?_) ?_ ?_ ?_
              · rw [f5 15 7 (by omega), up_at]
              · rw [f5 19 y (by omega), up_ne (by omega), up_ne (by omega), up_ne (by omega), up_ne (by omega), f4 19 y (by omega), f3 19 y (by omega), f2 19 y (by omega)]
              · rw [f5 19 _ (by omega), up_ne (by omega), up_ne (by omega), up_ne (by omega), up_at]
              · rw [f5 19 _ (by omega), up_ne (by omega), up_ne (by omega), up_at]
              · rw [f5 19 _ (by omega), up_ne (by omega), up_at]
          · skip
            refine am_ci ?_
            try simp (disch := omega) only [up_at, up_ne]
            refine aw_zret dX0_readShift_137 rfl (by omega) ?_
            exact k0 ya h5 (GF_trans (GF_up (by decide) (GF_up (by decide) (GF_up (by decide) (GF_up (by decide) (GF_trans (GF_T f2) (GF_trans (GF_T f3) (GF_T f4))))))) (GF_E f5)) fl
        · have ee : endS S (takeS S 0 9 (takeS S 0 7 v)) = standS S 0 9 (takeS S 0 7 v) := by
            rw [show takeS S 0 9 (takeS S 0 7 v) = standS S 0 9 (takeS S 0 7 v) from nextS_e y7]
            exact endS_e y7
          rw [ee] at k0
          refine am_ci ?_
          refine aw_if_ne_n 81 dX0_readShift_76 (by decide) (by decide) ?_
          refine aw_iconst dX0_readShift_79 (by decide) ?_
          refine aw_zret dX0_readShift_80 rfl (by omega) ?_
          exact k0 y7 h4 (GF_trans (GF_T f2) (GF_trans (GF_T f3) (GF_E f4))) fl
      · have ee : endS S (takeS S 0 9 (takeS S 0 7 v)) = standS S 0 7 v := by
          rw [show takeS S 0 7 v = standS S 0 7 v from nextS_e y4, takeS_e y4]
          exact endS_e y4
        rw [ee] at k0
        refine am_ci ?_
        refine aw_if_ne_n 58 dX0_readShift_53 (by decide) (by decide) ?_
        refine aw_iconst dX0_readShift_56 (by decide) ?_
        refine aw_zret dX0_readShift_57 rfl (by omega) ?_
        exact k0 y4 h3 (GF_trans (GF_T f2) (GF_E f3)) fl
    · have x1 : ¬ x = -1 := by omega
      have yd := hd.mpr x1
      have v5 : v = (u.1, -4, aP S u.1) := by
        rw [d5, cif_pos yd, y2, failS_0 z1]
        exact mustS_e (by show ¬ (-4 : Int) = 0; decide)
      have ee := eE _ (by show ¬ (-4 : Int) = 0; decide) v5
      rw [ee] at k0
      refine a_al0 (by decide) dX0_readShift_33 ?_
      refine aw_getR (r := 2) 0 rfl dX0_readShift_34 fl_X0_12 at_1 rfl rfl ?_
      refine aw_bipush dX0_readShift_37 (by decide) ?_
      refine aw_callV 1 0 0 dX0_readShift_39 yw_X5_failHere ml_X0_89 in_X5_failHere se_X5_failHere (ci := 4) rfl at_2 (as := [_]) rfl rfl ⟨by decide, by decide, by decide, Nat.le_of_ble_eq_true rfl⟩ ?_
      refine ac_failHere ?_
      refine am_ci ?_
      refine aw_zret dX0_readShift_42 rfl (by omega) ?_
      refine k0 (by dsimp only; decide) _ (GF_trans (GF_T f2) (GF_E (cEF_up (by decide) (cEF_up (by decide) (cTF_E (cTF_refl h2)))))) ⟨by rw [up_ne (by omega), up_at], by rw [up_at, e4]⟩
  · have v5 : v = standS S 0 999 u := by
      rw [d5, failS_e y1]
      have : cif (∃ k, 0 ≤ k ∧ k < r 9 ∧ r (10 + 3 * k) = standV S 0 999 u) (standS S 0 999 u) (standS S 0 999 u) = standS S 0 999 u := by
        unfold cif
        split <;> rfl
      rw [this]
      exact mustS_e y1
    have ee := eE _ y1 v5
    rw [ee] at k0
    refine am_ci ?_
    refine aw_if_ne_n 16 dX0_readShift_11 (by decide) (by decide) ?_
    refine aw_iconst dX0_readShift_14 (by decide) ?_
    refine aw_zret dX0_readShift_15 rfl (by omega) ?_
    exact k0 y1 h2 (GF_E f2) fl
