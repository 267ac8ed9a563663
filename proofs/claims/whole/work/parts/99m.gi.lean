/-! the class: letters of its text -/
theorem ac_readLetters {S : Int → Int} {L j : Int} {T : Int → Int} {st : PS} {h : AH} {K : AO → Nat → AH → Prop} (hT : TxS S L) (hj : 0 ≤ j ∧ j ≤ 11) (h0 : st.2.1 = 0) (hw : CE S L st.1 h) (hO : ∀ p, 0 ≤ p → p ≤ 5 → cLt (h 18 j) p = T (6 * j + p)) (k1 : (ltS S st).2.1 = 0 → ∀ h', (∀ k x, ¬ (k = 2 ∧ 4 ≤ x ∧ x ≤ 7) → ¬ (k = 18 ∧ x = j) → h' k x = h k x) → (∀ p, 0 ≤ p → p ≤ 5 → cLt (h' 18 j) p = ltR S st.1 j T (6 * j + p)) → CE S L (ltS S st).1 h' → K (.inl (some (0, 1))) 159 h') (k0 : ¬ (ltS S st).2.1 = 0 → ∀ h', GF h h' → CFl (ltS S st) h' → K (.inl (some (0, 0))) 159 h') : AC mX0_readLetters 4 0 0 159 [(2, 1), (2, 15), (0, j)] h K := by
  obtain ⟨x, p, e5⟩ := hw
  have hLL := hT.1
  have hb := bP_rg hT p
  have ha := aP_rg hT p
  obtain ⟨w1, w2⟩ := wE_0 hT p
  obtain ⟨m1, m2, m3, m4⟩ := wE_rg hT p
  refine ac_of (ls := [(2, 1), (2, 15), (0, j), (9, 0), (9, 0), (9, 0)]) pn_X0 rfl (Nat.le_of_ble_eq_true rfl) rfl ?_
  refine a_al0 (by decide) dX0_readLetters_0 ?_
  refine aw_getR (r := 2) 0 rfl dX0_readLetters_1 fl_X0_12 at_1 rfl rfl ?_
  refine aw_callV 2 0 0 dX0_readLetters_4 yw_X5_nextWord ml_X0_47 in_X5_nextWord se_X5_nextWord (ci := 4) rfl at_2 (as := []) rfl rfl ⟨by decide, by decide, by decide, Nat.le_of_ble_eq_true rfl⟩ ?_
  refine ac_nextWord hT x p e5 (fun h1 f1 g4 g5 => ?_)
  refine am_cv ?_
  refine a_al0 (by decide) dX0_readLetters_7 ?_
  refine aw_getR (r := 2) 0 rfl dX0_readLetters_8 fl_X0_12 at_1 rfl rfl ?_
  try simp (disch := omega) only [up_at, up_ne]
  refine aw_callV 1 0 0 dX0_readLetters_11 yw_X5_isEmpty ml_X0_153 in_X5_isEmpty se_X5_isEmpty (ci := 4) rfl at_2 (as := []) rfl rfl ⟨by decide, by decide, by decide, Nat.le_of_ble_eq_true rfl⟩ ?_
  refine ac_isEmpty (fun y => ?_) (fun y => ?_)
  · have kz : ¬ kP S st.1 = 0 := fun z => by have := w1 z; omega
    have e : ltS S st = (st.1, -2, aP S st.1) := by
      unfold ltS
      rw [if_neg kz, failS_0 h0]
      exact mustS_e (by show ¬ (-2 : Int) = 0; decide)
    rw [e] at k0
    refine am_ci ?_
    refine aw_if_eq_n 27 dX0_readLetters_14 (by decide) (by decide) ?_
    refine a_al0 (by decide) dX0_readLetters_17 ?_
    refine aw_getR (r := 2) 0 rfl dX0_readLetters_18 fl_X0_12 at_1 rfl rfl ?_
    try simp (disch := omega) only [up_at, up_ne]
    refine aw_bipush dX0_readLetters_21 (by decide) ?_
    refine aw_callV 1 0 0 dX0_readLetters_23 yw_X5_failHere ml_X0_89 in_X5_failHere se_X5_failHere (ci := 4) rfl at_2 (as := [_]) rfl rfl ⟨by decide, by decide, by decide, Nat.le_of_ble_eq_true rfl⟩ ?_
    refine ac_failHere ?_
    refine am_ci ?_
    try simp (disch := omega) only [up_at, up_ne]
    refine aw_zret dX0_readLetters_26 rfl (by omega) ?_
    exact k0 (by show ¬ (-2 : Int) = 0; decide) _ (GF_trans (GF_T f1) (GF_E (cEF_up (by decide) (cEF_up (by decide) (cTF_E (cTF_refl h1)))))) ⟨by rw [up_ne (by omega), up_at], by rw [up_at, g4]⟩
  · have kz : kP S st.1 = 0 := Classical.byContradiction (fun z => by have := w2 z; omega)
    obtain ⟨b0, b1⟩ := w1 kz
    refine am_ci ?_
    refine aw_if_eq_y 27 dX0_readLetters_14 (by decide) (by decide) ?_
    refine a_al0 (by decide) dX0_readLetters_27 ?_
    refine aw_getR (r := 2) 0 rfl dX0_readLetters_28 fl_X0_12 at_1 rfl rfl ?_
    try simp (disch := omega) only [up_at, up_ne]
    refine aw_get 4 dX0_readLetters_31 fl_X0_200 at_2 rfl ?_
    try simp (disch := omega) only [up_at, up_ne]
    refine a_is3 rfl rfl dX0_readLetters_34 ?_
    rw [g4]
    refine aw_loop (fun q : Int × AV × AV × AH => aP S st.1 ≤ q.1 ∧ q.1 ≤ wE S st.1 ∧ am_n2 q.2.1 = true ∧ am_n2 q.2.2.1 = true ∧ (∀ k x, ¬ (k = 2 ∧ 4 ≤ x ∧ x ≤ 7) → ¬ (k = 18 ∧ x = j) → q.2.2.2 k x = h k x) ∧ (q.2.2.2 2 4 = aP S st.1 ∧ q.2.2.2 2 5 = wE S st.1) ∧ (∀ k, 0 ≤ k → k < q.1 - aP S st.1 → ¬ badL S st.1 k) ∧ ∀ y, 0 ≤ y → y ≤ 5 → cLt (q.2.2.2 18 j) y = if y < q.1 - aP S st.1 then lt (S (aP S st.1 + y)) else T (6 * j + y)) (fun q => (wE S st.1 - q.1).toNat) (fun q => AW mX0_readLetters 4 0 0 K 159 35 [(2, 1), (2, 15), (0, j), (0, q.1), q.2.1, q.2.2.1] [] q.2.2.2) (fun q hq ih => ?_) (aP S st.1, (9, 0), (9, 0), h1) ⟨by dsimp only; omega, m1, rfl, rfl, fun k y a b => f1 k y a, ⟨g4, g5⟩, fun k a b => by dsimp only at b; omega, fun y a b => by dsimp only; rw [if_neg (by omega), f1 18 j (by omega)]; exact hO y a b⟩
    obtain ⟨i, v4, v5, h2⟩ := q
    obtain ⟨i0, i1, n4, n5, fr, ⟨t4, t5⟩, nb, ol⟩ := hq
    dsimp only at i0 i1 n4 n5 fr t4 t5 nb ol ih ⊢
    have G2 : GF h h2 := fun k y a b c => fr k y (by omega) (by omega)
    have B : badL S st.1 (i - aP S st.1) → i < wE S st.1 → ltS S st = (st.1, -3, i) := fun z w => by
      have eX : ltX S st.1 = i - aP S st.1 := fstX_eq (Or.inl ⟨by omega, by omega, z, fun k a b => nb k a b⟩)
      unfold ltS
      rw [if_pos kz, eX, if_neg (by omega), if_pos h0, show aP S st.1 + (i - aP S st.1) = i by omega]
      exact mustS_e (by show ¬ (-3 : Int) = 0; decide)
    refine a_il3 dX0_readLetters_35 ?_
    refine a_al0 (by decide) dX0_readLetters_36 ?_
    refine aw_getR (r := 2) 0 rfl dX0_readLetters_37 fl_X0_12 at_1 rfl rfl ?_
    try simp (disch := omega) only [up_at, up_ne]
    refine aw_get 5 dX0_readLetters_40 fl_X0_203 at_2 rfl ?_
    try simp (disch := omega) only [up_at, up_ne]
    refine aw_icmp_ge 119 dX0_readLetters_43 (by decide) (fun c43 => ?_) (fun c43 => ?_)
    · have eX : ltX S st.1 = -1 := fstX_eq (Or.inr ⟨rfl, fun k a b => nb k a (by omega)⟩)
      have e : ltS S st = (bP S st.1, 0, st.2.2) := by
        unfold ltS
        rw [if_pos kz, eX, if_pos rfl]
        exact mustS_1 h0 rfl
      rw [e] at k1
      refine aw_iconst dX0_readLetters_119 (by decide) ?_
      refine aw_zret dX0_readLetters_120 rfl (by omega) ?_
      refine k1 rfl h2 fr (fun y a b => ?_) ⟨cTx_G G2 x, by dsimp only; omega, by dsimp only; rw [t5, b0]⟩
      rw [ol y a b]
      unfold ltR
      by_cases z : y < i - aP S st.1
      · rw [if_pos z, if_pos (by omega), show 6 * j + y - 6 * j = y by omega]
      · rw [if_neg z, if_neg (by omega)]
    · have iw : i < wE S st.1 := by omega
      have F : badL S st.1 (i - aP S st.1) → ∀ (a b : AV), am_n2 a = true → am_n2 b = true → AW mX0_readLetters 4 0 0 K 159 83 [(2, 1), (2, 15), (0, j), (0, i), a, b] [] h2 := fun z a b na nb2 => by
        have e := B z iw
        rw [e] at k0
        refine a_al0 (by decide) dX0_readLetters_83 ?_
        refine aw_getR (r := 2) 0 rfl dX0_readLetters_84 fl_X0_12 at_1 rfl rfl ?_
        refine aw_bipush dX0_readLetters_87 (by decide) ?_
        refine a_il3 dX0_readLetters_89 ?_
        refine aw_callV 1 0 0 dX0_readLetters_90 yw_X5_fail ml_X0_212 in_X5_fail se_X5_fail (ci := 4) rfl at_2 (as := [_, _]) rfl rfl ⟨by decide, by decide, by decide, Nat.le_of_ble_eq_true rfl⟩ ?_
        refine ac_failT ?_
        refine am_ci ?_
        refine aw_zret dX0_readLetters_93 rfl (by omega) ?_
        exact k0 (by show ¬ (-3 : Int) = 0; decide) _ (GF_trans G2 (GF_E (cEF_up (by decide) (cEF_up (by decide) (cTF_E (cTF_refl h2)))))) ⟨by rw [up_ne (by omega), up_at], up_at _ _ _ _⟩
      have lr := lt_rg (S i)
      refine a_al0 (by decide) dX0_readLetters_46 ?_
      refine aw_getR (r := 2) 0 rfl dX0_readLetters_47 fl_X0_12 at_1 rfl rfl ?_
      try simp (disch := omega) only [up_at, up_ne]
      refine a_il3 dX0_readLetters_50 ?_
      refine aw_callV 1 0 0 dX0_readLetters_51 yw_X5_byteAt ml_X0_206 in_X5_byteAt se_X5_byteAt (ci := 4) rfl at_2 (as := [_]) rfl rfl ⟨by decide, by decide, by decide, Nat.le_of_ble_eq_true rfl⟩ ?_
      refine ac_byteAt hT (cTx_G G2 x) (by omega) ?_
      rw [if_pos (by omega)]
      refine am_ci ?_
      try simp (disch := omega) only [up_at, up_ne]
      refine aw_callS 1 0 0 dX0_readLetters_54 yw_X0_letterOf ml_X0_209 sm_X0_letterOf (as := [_]) rfl rfl ⟨by decide, by decide, by decide, Nat.le_of_ble_eq_true rfl⟩ ?_
      refine ac_letterOfC ?_
      obtain ⟨l, hl⟩ : ∃ l, l = if lt (S i) = 0 then -1 else lt (S i) := ⟨_, rfl⟩
      rw [← hl]
      have lrg : -1 ≤ l ∧ l ≤ 4 := by
        rw [hl]
        split <;> omega
      have es : S (aP S st.1 + (i - aP S st.1)) = S i := by
        congr 1
        omega
      refine am_ci ?_
      try simp (disch := omega) only [up_at, up_ne]
      refine a_is4 rfl rfl dX0_readLetters_57 ?_
      refine a_il3 dX0_readLetters_59 ?_
      refine a_al0 (by decide) dX0_readLetters_60 ?_
      refine aw_getR (r := 2) 0 rfl dX0_readLetters_61 fl_X0_12 at_1 rfl rfl ?_
      try simp (disch := omega) only [up_at, up_ne]
      refine aw_get 4 dX0_readLetters_64 fl_X0_200 at_2 rfl ?_
      try simp (disch := omega) only [up_at, up_ne]
      refine aw_isubR (by omega) dX0_readLetters_67 ?_
      refine a_is5 rfl rfl dX0_readLetters_68 ?_
      refine a_il4 dX0_readLetters_70 ?_
      refine aw_iconst dX0_readLetters_72 (by decide) ?_
      refine aw_icmp_eq 83 dX0_readLetters_73 (by decide) (fun c73 => ?_) (fun c73 => ?_)
      · have z : lt (S i) = 0 := by
          by_cases z : lt (S i) = 0
          · exact z
          · rw [if_neg z] at hl
            omega
        exact F (Or.inr (by rw [es]; exact z)) _ _ rfl rfl
      · have z : ¬ lt (S i) = 0 := fun z => by
          rw [if_pos z] at hl
          omega
        have el : l = lt (S i) := by rw [hl, if_neg z]
        refine a_il5 dX0_readLetters_76 ?_
        refine aw_bipush dX0_readLetters_78 (by decide) ?_
        refine aw_icmp_lt 94 dX0_readLetters_80 (by decide) (fun c80 => ?_) (fun c80 => ?_)
        · have lt6 : i - aP S st.1 < 6 := by omega
          have e6 : i - h2 2 4 = i - aP S st.1 := by omega
          refine a_al1 (by decide) dX0_readLetters_94 ?_
          refine aw_getR (r := 18) 11 rfl dX0_readLetters_95 fl_X0_188 at_15 rfl rfl ?_
          try simp (disch := omega) only [up_at, up_ne]
          refine a_il2 dX0_readLetters_98 ?_
          refine a_al1 (by decide) dX0_readLetters_99 ?_
          refine aw_getR (r := 18) 11 rfl dX0_readLetters_100 fl_X0_188 at_15 rfl rfl ?_
          try simp (disch := omega) only [up_at, up_ne]
          refine a_il2 dX0_readLetters_103 ?_
          refine aw_iald dX0_readLetters_104 ar_18 (by omega) ?_
          try simp (disch := omega) only [up_at, up_ne]
          refine a_il5 dX0_readLetters_105 ?_
          refine a_il4 dX0_readLetters_107 ?_
          refine aw_callS 1 0 0 dX0_readLetters_109 yw_X2_with ml_X0_215 sm_X2_with (as := [_, _, _]) rfl rfl ⟨by decide, by decide, by decide, Nat.le_of_ble_eq_true rfl⟩ ?_
          rw [e6]
          refine ac_with ⟨by omega, by omega⟩ ?_
          refine am_ci ?_
          try simp (disch := omega) only [up_at, up_ne]
          refine aw_iast dX0_readLetters_112 ar_18 (by omega) ?_
          refine a_iiR3 (by omega) rfl rfl dX0_readLetters_113 ?_
          refine aw_goto 35 dX0_readLetters_116 (by decide) ?_
          refine ih (i + 1, (0, l), (0, i - aP S st.1), up h2 18 j (cWi (h2 18 j) (i - aP S st.1) l)) ⟨by dsimp only; omega, by dsimp only; omega, rfl, rfl, fun k y a b => ?_, ⟨?_, ?_⟩, fun k a b q => ?_, fun y a b => ?_⟩ (by dsimp only; omega)
          · dsimp only
            rw [up_ne b, fr k y a b]
          · dsimp only
            rw [up_ne (by omega)]
            exact t4
          · dsimp only
            rw [up_ne (by omega)]
            exact t5
          · dsimp only at b
            by_cases w : k = i - aP S st.1
            · rcases q with q | q
              · omega
              · rw [w, es] at q
                exact z q
            · exact nb k a (by omega) q
          · dsimp only
            rw [up_at, cLt_with ⟨by omega, by omega⟩ ⟨by omega, by omega⟩ ⟨a, b⟩]
            by_cases w : y = i - aP S st.1
            · rw [if_pos w, if_pos (by omega), w, es, el]
            · rw [if_neg w, ol y a b]
              by_cases v : y < i - aP S st.1
              · rw [if_pos v, if_pos (by omega)]
              · rw [if_neg v, if_neg (by omega)]
        · exact F (Or.inl (by omega)) _ _ rfl rfl
