/-! the class: options of a ship's text, all of them -/
theorem optN_f {S : Int → Int} {s x : Int} (hx : x < s + 4 ∨ s + 7 < x) : ∀ (m : Nat) (r : Int → Int) (told : Int) (st : PS), (optN S s m r told st).1 x = r x
  | 0, _, _, _ => rfl
  | m + 1, r, told, st => by
    have e : optN S s (m + 1) r told st = cif (optW S st = -1) (r, st) (optN S s m (upr r (s + optW S st) (standV S (opLo (optW S st)) (opHi (optW S st)) (opT S told (optW S st) st))) (i_or told (i_shl 1 (optW S st))) (takeS S (opLo (optW S st)) (opHi (optW S st)) (opT S told (optW S st) st))) := rfl
    by_cases z : optW S st = -1
    · rw [e, cif_pos z]
    · have w := (optW_c (S := S) (st := st)).resolve_left z
      rw [e, cif_neg z, optN_f hx m, upr_ne (by omega)]
theorem op93 {S : Int → Int} {L j n t w : Int} {u : PS} {h : AH} {K : AO → Nat → AH → Prop} (hT : TxS S L) (hj : 0 ≤ j ∧ j ≤ 11) (hn : 0 ≤ n ∧ n ≤ 100) (zu : u.2.1 = 0) (cu : CE S L u.1 h) (w1 : 4 ≤ w ∧ w ≤ 7) (k1 : (standS S (opLo w) (opHi w) u).2.1 = 0 → (opLo w ≤ standV S (opLo w) (opHi w) u ∧ standV S (opLo w) (opHi w) u ≤ opHi w) → ∀ h2, (∀ k x, ¬ (k = 2 ∧ 4 ≤ x ∧ x ≤ 7) → ¬ (k = 17 ∧ x = j * 11 + w) → h2 k x = h k x) → h2 17 (j * 11 + w) = standV S (opLo w) (opHi w) u → CW S L (takeS S (opLo w) (opHi w) u).1 h2 → (takeS S (opLo w) (opHi w) u).2.1 = 0 → AW mX0_readOptions 7 0 0 K 159 12 [(2, 1), (2, 15), (0, j), (0, t), (0, n + 1), (0, w)] [] h2) (k0 : ¬ (standS S (opLo w) (opHi w) u).2.1 = 0 → ∀ h2, cEF h h2 → CFl (standS S (opLo w) (opHi w) u) h2 → K (.inl (some (0, 0))) 159 h2) : AW mX0_readOptions 7 0 0 K 159 93 [(2, 1), (2, 15), (0, j), (0, t), (0, n), (0, w)] [(0, opLo w), (2, 2)] h := by
  have hh : 0 ≤ opLo w ∧ opHi w ≤ 999 := by
    unfold opLo opHi
    constructor
    · split <;> decide
    · split
      · decide
      · split <;> decide
  refine a_il5 dX0_readOptions_93 ?_
  refine aw_callS 1 0 0 dX0_readOptions_95 yw_X0_mostOf ml_X0_160 sm_X0_mostOf (as := [_]) rfl rfl ⟨by decide, by decide, by decide, Nat.le_of_ble_eq_true rfl⟩ ?_
  refine ac_mostOf ?_
  refine am_ci ?_
  refine aw_callV 2 0 0 dX0_readOptions_98 yw_X5_takeNumber ml_X0_56 in_X5_takeNumber se_X5_takeNumber (ci := 4) rfl at_2 (as := [_, _]) rfl rfl ⟨by decide, by decide, by decide, Nat.le_of_ble_eq_true rfl⟩ ?_
  refine ac_tkN hT zu cu hh (fun y1 y2 y3 h2 f2 e4 c2 z2 e6 => ?_) (fun y1 h2 f2 fl => ?_)
  · skip
    refine am_ci ?_
    refine aw_if_ne_y 106 dX0_readOptions_101 (by decide) (by decide) ?_
    refine a_al1 (by decide) dX0_readOptions_106 ?_
    refine a_il2 dX0_readOptions_107 ?_
    refine a_il5 dX0_readOptions_108 ?_
    refine a_al0 (by decide) dX0_readOptions_110 ?_
    refine aw_getR (r := 2) 0 rfl dX0_readOptions_111 fl_X0_12 at_1 rfl rfl ?_
    refine aw_get 6 dX0_readOptions_114 fl_X0_60 at_2 rfl ?_
    refine aw_callV 1 0 0 dX0_readOptions_117 yw_X3_set ml_X0_149 in_X3_set se_X3_set (ci := 2) rfl at_15 (as := [_, _, _]) rfl rfl ⟨by decide, by decide, by decide, Nat.le_of_ble_eq_true rfl⟩ ?_
    rw [e6]
    refine ac_set (Or.inr rfl) hj (by omega) ?_
    have cc := CE_up (k := 17) (x := j * 11 + w) (v := standV S (opLo w) (opHi w) u) (by decide) c2
    obtain ⟨q1, q2, q3⟩ := cc
    refine am_cv ?_
    refine a_al0 (by decide) dX0_readOptions_120 ?_
    refine aw_getR (r := 2) 0 rfl dX0_readOptions_121 fl_X0_12 at_1 rfl rfl ?_
    try simp (disch := omega) only [up_at, up_ne]
    refine aw_callV 2 0 0 dX0_readOptions_124 yw_X5_nextWord ml_X0_47 in_X5_nextWord se_X5_nextWord (ci := 4) rfl at_2 (as := []) rfl rfl ⟨by decide, by decide, by decide, Nat.le_of_ble_eq_true rfl⟩ ?_
    refine ac_nextWord hT q1 q2 q3 (fun h3 f3 g4 g5 => ?_)
    refine am_cv ?_
    refine a_iiR4 (by omega) rfl rfl dX0_readOptions_127 ?_
    refine aw_goto 12 dX0_readOptions_130 (by decide) ?_
    refine k1 y1 y3 h3 (fun k y a b => ?_) ?_ ⟨cTx_T f3 q1, q2, g4, g5⟩ z2
    · rw [f3 k y a, up_ne (by omega), f2 k y a]
    · rw [f3 17 _ (by omega)]
      exact up_at _ _ _ _
  · refine am_ci ?_
    refine aw_if_ne_n 106 dX0_readOptions_101 (by decide) (by decide) ?_
    refine aw_iconst dX0_readOptions_104 (by decide) ?_
    refine aw_zret dX0_readOptions_105 rfl (by omega) ?_
    exact k0 y1 h2 f2 fl
theorem op12 {S : Int → Int} {L j : Int} {K : AO → Nat → AH → Prop} (hT : TxS S L) (hj : 0 ≤ j ∧ j ≤ 11) : ∀ (m : Nat) (r : Int → Int) (i : Nat) (st : PS) (n t : Int) (v5 : AV) (h : AH), i < 16 → st.2.1 = 0 → CW S L st.1 h → OS h r j → n = (pc4 i : Int) → t = 16 * (i : Int) → 6 ≤ m + pc4 i → am_n2 v5 = true →
    ((optN S (46 + 25 * j) m r t st).2.2.1 = 0 → ¬ kP S (optN S (46 + 25 * j) m r t st).2.1 = 0 → ∀ h', (∀ k x, ¬ (k = 2 ∧ 4 ≤ x ∧ x ≤ 7) → ¬ (k = 17 ∧ j * 11 + 4 ≤ x ∧ x ≤ j * 11 + 7) → h' k x = h k x) → OS h' (optN S (46 + 25 * j) m r t st).1 j → CW S L (optN S (46 + 25 * j) m r t st).2.1 h' → K (.inl (some (0, 1))) 159 h') →
    (¬ (endS S (optN S (46 + 25 * j) m r t st).2).2.1 = 0 → ∀ h', GF h h' → CFl (endS S (optN S (46 + 25 * j) m r t st).2) h' → K (.inl (some (0, 0))) 159 h') →
    AW mX0_readOptions 7 0 0 K 159 12 [(2, 1), (2, 15), (0, j), (0, t), (0, n), v5] [] h
  | 0, r, i, st, n, t, v5, h, hi, h0, hw, hS, hn, ht, hm, h5, k1, k0 => by
    have := pc_F ⟨i, hi⟩
    dsimp only at this
    exfalso
    omega
  | m + 1, r, i, st, n, t, v5, h, hi, h0, hw, hS, hn, ht, hm, h5, k1, k0 => by
    have hpc := pc_F ⟨i, hi⟩
    dsimp only at hpc
    have hw2 := hw
    obtain ⟨x, p, e4, e5⟩ := hw2
    obtain ⟨e1, e2⟩ := wE_0 hT p
    have e : optN S (46 + 25 * j) (m + 1) r t st = cif (optW S st = -1) (r, st) (optN S (46 + 25 * j) m (upr r (46 + 25 * j + optW S st) (standV S (opLo (optW S st)) (opHi (optW S st)) (opT S t (optW S st) st))) (i_or t (i_shl 1 (optW S st))) (takeS S (opLo (optW S st)) (opHi (optW S st)) (opT S t (optW S st) st))) := rfl
    have oc := optW_c (S := S) (st := st)
    refine a_il4 dX0_readOptions_12 ?_
    refine aw_bipush dX0_readOptions_14 (by decide) ?_
    refine aw_icmp_gt 133 dX0_readOptions_16 (by decide) (fun c16 => ?_) (fun c16 => ?_)
    · exfalso
      omega
    · refine a_al0 (by decide) dX0_readOptions_19 ?_
      refine aw_getR (r := 2) 0 rfl dX0_readOptions_20 fl_X0_12 at_1 rfl rfl ?_
      refine aw_callV 1 0 0 dX0_readOptions_23 yw_X5_isEmpty ml_X0_153 in_X5_isEmpty se_X5_isEmpty (ci := 4) rfl at_2 (as := []) rfl rfl ⟨by decide, by decide, by decide, Nat.le_of_ble_eq_true rfl⟩ ?_
      refine ac_isEmpty (fun y => ?_) (fun y => ?_)
      · have kz : ¬ kP S st.1 = 0 := fun z => by have := e1 z; omega
        have ow : optW S st = -1 := by
          rcases oc with q | ⟨-, w, -, q⟩
          · exact q
          · exact absurd q.2.1 kz
        rw [e, cif_pos ow] at k1
        refine am_ci ?_
        refine aw_if_ne_y 133 dX0_readOptions_26 (by decide) (by decide) ?_
        refine aw_iconst dX0_readOptions_133 (by decide) ?_
        refine aw_zret dX0_readOptions_134 rfl (by omega) ?_
        exact k1 h0 kz h (fun _ _ _ _ => rfl) hS hw
      · have kz : kP S st.1 = 0 := Classical.byContradiction (fun z => by have := e2 z; omega)
        refine am_ci ?_
        refine aw_if_ne_n 133 dX0_readOptions_26 (by decide) (by decide) ?_
        refine a_al0 (by decide) dX0_readOptions_29 ?_
        refine aw_callV 6 0 0 dX0_readOptions_30 yw_X0_optionHere ml_X0_156 in_X0_optionHere se_X0_optionHere (ci := 0) rfl at_1 (as := []) rfl rfl ⟨by decide, by decide, by decide, Nat.le_of_ble_eq_true rfl⟩ ?_
        refine ac_optionHere hT h0 hw ?_
        obtain ⟨w, hw9⟩ : ∃ w, w = optW S st := ⟨_, rfl⟩
        rw [← hw9] at e oc ⊢
        have wr : -1 ≤ w ∧ w ≤ 7 := by omega
        refine am_ci ?_
        refine a_is5 rfl rfl dX0_readOptions_33 ?_
        refine a_il5 dX0_readOptions_35 ?_
        refine aw_iconst dX0_readOptions_37 (by decide) ?_
        refine aw_icmp_ne 51 dX0_readOptions_38 (by decide) (fun c38 => ?_) (fun c38 => ?_)
        · have w1 : 4 ≤ w ∧ w ≤ 7 := by
            rcases oc with q | ⟨q, -⟩
            · exfalso; omega
            · exact q
          have wn : ¬ w = -1 := by omega
          rw [e, cif_neg wn] at k0 k1
          have ob := ob_w hi w1
          rw [← ht] at ob
          refine a_il3 dX0_readOptions_51 ?_
          refine a_il5 dX0_readOptions_52 ?_
          refine aw_ishr dX0_readOptions_54 ?_
          refine aw_iconst dX0_readOptions_55 (by decide) ?_
          refine aw_iand dX0_readOptions_56 ?_
          refine aw_if_eq 70 dX0_readOptions_57 (by decide) (fun c57 => ?_) (fun c57 => ?_)
          · rcases ob with ob | ⟨ob, i2, hi2, hor, hpc2⟩
            · exfalso; omega
            · rw [hor] at k0 k1
              obtain ⟨u, hu⟩ : ∃ u, u = opT S t w st := ⟨_, rfl⟩
              have u1 : u = (bP S st.1, 0, st.2.2) := by
                rw [hu]
                unfold opT
                rw [if_neg (by omega)]
                exact mustS_1 h0 rfl
              rw [← hu] at k0 k1
              have zu : u.2.1 = 0 := by rw [u1]
              have cu : CE S L u.1 h := by rw [u1]; exact CW_E hT hw kz
              have O : AW mX0_readOptions 7 0 0 K 159 93 [(2, 1), (2, 15), (0, j), (0, 16 * (i2 : Int)), (0, n), (0, w)] [(0, opLo w), (2, 2)] h := by
                refine op93 hT hj (by omega) zu cu w1 (fun y1 y2 h2 f2 eV c2 z2 => ?_) (fun y1 h2 f2 fl => ?_)
                · refine op12 hT hj m _ i2 _ (n + 1) (16 * (i2 : Int)) (0, w) h2 hi2 z2 c2 (OS_up hS w1 y2 eV (fun y hy => f2 17 y (by omega) (by omega))) (by omega) rfl (by omega) rfl (fun q1 q2 h3 f3 o3 c3 => ?_) (fun q1 h3 f3 fl => ?_)
                  · exact k1 q1 q2 h3 (fun k y a b => by rw [f3 k y a b, f2 k y a (by omega)]) o3 c3
                  · exact k0 q1 h3 (GF_trans (fun k y a b c => f2 k y (by omega) (by omega)) f3) fl
                · have tk : takeS S (opLo w) (opHi w) u = standS S (opLo w) (opHi w) u := nextS_e y1
                  rw [tk, optN_W y1, endS_e y1] at k0
                  exact k0 y1 h2 (GF_E f2) fl
              refine a_il3 dX0_readOptions_70 ?_
              refine aw_iconst dX0_readOptions_71 (by decide) ?_
              refine a_il5 dX0_readOptions_72 ?_
              refine aw_ishl dX0_readOptions_74 ?_
              refine aw_ior dX0_readOptions_75 ?_
              refine a_is3 rfl rfl dX0_readOptions_76 ?_
              refine a_al0 (by decide) dX0_readOptions_77 ?_
              refine aw_getR (r := 2) 0 rfl dX0_readOptions_78 fl_X0_12 at_1 rfl rfl ?_
              refine a_il5 dX0_readOptions_81 ?_
              refine aw_bipush dX0_readOptions_83 (by decide) ?_
              refine aw_icmp_ne 92 dX0_readOptions_85 (by decide) (fun c85 => ?_) (fun c85 => ?_)
              · have el : opLo w = 1 := if_neg (by assumption)
                rw [el] at O
                refine aw_iconst dX0_readOptions_92 (by decide) ?_
                rw [hor]
                exact O
              · have el : opLo w = 0 := if_pos (by omega)
                rw [el] at O
                refine aw_iconst dX0_readOptions_88 (by decide) ?_
                refine aw_goto 93 dX0_readOptions_89 (by decide) ?_
                rw [hor]
                exact O
          · rcases ob with ob | ⟨ob, -⟩
            · have u1 : opT S t w st = (st.1, -4, aP S st.1) := by
                unfold opT
                rw [if_pos ob, failS_0 h0]
                exact mustS_e (by show ¬ (-4 : Int) = 0; decide)
              have nz : ¬ ((st.1, -4, aP S st.1) : PS).2.1 = 0 := by show ¬ (-4 : Int) = 0; decide
              rw [u1, takeS_e nz, optN_W nz, endS_e nz] at k0
              refine a_al0 (by decide) dX0_readOptions_60 ?_
              refine aw_getR (r := 2) 0 rfl dX0_readOptions_61 fl_X0_12 at_1 rfl rfl ?_
              refine aw_bipush dX0_readOptions_64 (by decide) ?_
              refine aw_callV 1 0 0 dX0_readOptions_66 yw_X5_failHere ml_X0_89 in_X5_failHere se_X5_failHere (ci := 4) rfl at_2 (as := [_]) rfl rfl ⟨by decide, by decide, by decide, Nat.le_of_ble_eq_true rfl⟩ ?_
              refine ac_failHere ?_
              refine am_ci ?_
              refine aw_zret dX0_readOptions_69 rfl (by omega) ?_
              exact k0 nz _ (GF_E (cEF_up (by decide) (cEF_up (by decide) (cTF_E (cTF_refl h))))) ⟨by rw [up_ne (by omega), up_at], by rw [up_at, e4]⟩
            · exfalso; omega
        · have ow : w = -1 := by omega
          have es : endS S st = (st.1, -2, aP S st.1) := mustS_0 h0 (if_neg (fun z => by have := z.1; omega))
          rw [e, cif_pos ow] at k0
          dsimp only at k0
          rw [es] at k0
          refine a_al0 (by decide) dX0_readOptions_41 ?_
          refine aw_getR (r := 2) 0 rfl dX0_readOptions_42 fl_X0_12 at_1 rfl rfl ?_
          refine aw_bipush dX0_readOptions_45 (by decide) ?_
          refine aw_callV 1 0 0 dX0_readOptions_47 yw_X5_failHere ml_X0_89 in_X5_failHere se_X5_failHere (ci := 4) rfl at_2 (as := [_]) rfl rfl ⟨by decide, by decide, by decide, Nat.le_of_ble_eq_true rfl⟩ ?_
          refine ac_failHere ?_
          refine am_ci ?_
          refine aw_zret dX0_readOptions_50 rfl (by omega) ?_
          exact k0 (by show ¬ (-2 : Int) = 0; decide) _ (GF_E (cEF_up (by decide) (cEF_up (by decide) (cTF_E (cTF_refl h))))) ⟨by rw [up_ne (by omega), up_at], by rw [up_at, e4]⟩
