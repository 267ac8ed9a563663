/-! the class: a ship's place, and its options from their begin -/
theorem ac_readOptions {S : Int → Int} {L j : Int} {r : Int → Int} {st : PS} {h : AH} {K : AO → Nat → AH → Prop} (hT : TxS S L) (hj : 0 ≤ j ∧ j ≤ 11) (h0 : st.2.1 = 0) (hw : CE S L st.1 h) (hS : OS h r j) (k1 : (optN S (46 + 25 * j) 700 r 0 st).2.2.1 = 0 → ¬ kP S (optN S (46 + 25 * j) 700 r 0 st).2.1 = 0 → ∀ h', (∀ k x, ¬ (k = 2 ∧ 4 ≤ x ∧ x ≤ 7) → ¬ (k = 17 ∧ j * 11 + 4 ≤ x ∧ x ≤ j * 11 + 7) → h' k x = h k x) → OS h' (optN S (46 + 25 * j) 700 r 0 st).1 j → CW S L (optN S (46 + 25 * j) 700 r 0 st).2.1 h' → K (.inl (some (0, 1))) 159 h') (k0 : ¬ (endS S (optN S (46 + 25 * j) 700 r 0 st).2).2.1 = 0 → ∀ h', GF h h' → CFl (endS S (optN S (46 + 25 * j) 700 r 0 st).2) h' → K (.inl (some (0, 0))) 159 h') : AC mX0_readOptions 7 0 0 159 [(2, 1), (2, 15), (0, j)] h K := by
  obtain ⟨x, p, e5⟩ := hw
  refine ac_of (ls := [(2, 1), (2, 15), (0, j), (9, 0), (9, 0), (9, 0)]) pn_X0 rfl (Nat.le_of_ble_eq_true rfl) rfl ?_
  refine aw_iconst dX0_readOptions_0 (by decide) ?_
  refine a_is3 rfl rfl dX0_readOptions_1 ?_
  refine a_al0 (by decide) dX0_readOptions_2 ?_
  refine aw_getR (r := 2) 0 rfl dX0_readOptions_3 fl_X0_12 at_1 rfl rfl ?_
  refine aw_callV 2 0 0 dX0_readOptions_6 yw_X5_nextWord ml_X0_47 in_X5_nextWord se_X5_nextWord (ci := 4) rfl at_2 (as := []) rfl rfl ⟨by decide, by decide, by decide, Nat.le_of_ble_eq_true rfl⟩ ?_
  refine ac_nextWord hT x p e5 (fun h1 f1 g4 g5 => ?_)
  refine am_cv ?_
  refine aw_iconst dX0_readOptions_9 (by decide) ?_
  refine a_is4 rfl rfl dX0_readOptions_10 ?_
  have S1 : OS h1 r j := by
    obtain ⟨a, b⟩ := hS
    exact ⟨fun w w0 w1 => by rw [f1 17 _ (by omega)]; exact a w w0 w1, b⟩
  refine op12 hT hj 700 r 0 st 0 0 _ h1 (by decide) h0 ⟨cTx_T f1 x, p, g4, g5⟩ S1 rfl rfl (by decide) rfl (fun q1 q2 h2 f2 o2 c2 => ?_) (fun q1 h2 f2 fl => ?_)
  · exact k1 q1 q2 h2 (fun k y a b => by rw [f2 k y a b, f1 k y a]) o2 c2
  · exact k0 q1 h2 (GF_trans (GF_T f1) f2) fl
theorem ac_readPlace {S : Int → Int} {L j : Int} {r : Int → Int} {u : PS} {h : AH} {K : AO → Nat → AH → Prop} (hT : TxS S L) (hj : 0 ≤ j ∧ j ≤ 11) (zu : u.2.1 = 0) (cu : CE S L u.1 h) (e0 : h 15 0 = r 0 ∧ 4 ≤ r 0 ∧ r 0 ≤ 30) (e1 : h 15 1 = r 1 ∧ 4 ≤ r 1 ∧ r 1 ≤ 30) (e3 : h 15 3 = r 3 ∧ 0 ≤ r 3 ∧ r 3 ≤ 12) (hA : ∀ k, 0 ≤ k → k < r 3 → h 17 (k * 11 + 1) = r (46 + 25 * k + 1) ∧ h 17 (k * 11 + 2) = r (46 + 25 * k + 2) ∧ r (46 + 25 * k + 10) = -1) {v8 : PS} {c w d : Int} (hc : c = standV S 0 (r 0 - 1) u) (hw : w = standV S 0 (r 1 - 1) (takeS S 0 (r 0 - 1) u)) (hd : d = standV S 0 7 (takeS S 0 (r 1 - 1) (takeS S 0 (r 0 - 1) u))) (h8 : v8 = mustS S 1 (cif (∃ k, 0 ≤ k ∧ k < r 3 ∧ rAt r c w k) (failS S (-5) (standS S 0 7 (takeS S 0 (r 1 - 1) (takeS S 0 (r 0 - 1) u)))) (standS S 0 7 (takeS S 0 (r 1 - 1) (takeS S 0 (r 0 - 1) u)))))
  (k1 : v8.2.1 = 0 → (0 ≤ c ∧ c ≤ r 0 - 1) → (0 ≤ w ∧ w ≤ r 1 - 1) → (0 ≤ d ∧ d ≤ 7) → ∀ h', (∀ k x, ¬ (k = 2 ∧ 4 ≤ x ∧ x ≤ 7) → ¬ (k = 17 ∧ j * 11 + 1 ≤ x ∧ x ≤ j * 11 + 3) → h' k x = h k x) → h' 17 (j * 11 + 1) = c → h' 17 (j * 11 + 2) = w → h' 17 (j * 11 + 3) = d → CE S L v8.1 h' → K (.inl (some (0, 1))) 159 h') (k0 : ¬ v8.2.1 = 0 → ∀ h', GF h h' → CFl v8 h' → K (.inl (some (0, 0))) 159 h') : AC mX0_readPlace 3 0 0 159 [(2, 1), (2, 15), (0, j)] h K := by
  have e15 : h 15 0 - 1 = r 0 - 1 := by omega
  have e16 : h 15 1 - 1 = r 1 - 1 := by omega
  obtain ⟨u5, hu5⟩ : ∃ u5, u5 = takeS S 0 (r 0 - 1) u := ⟨_, rfl⟩
  rw [← hu5] at hw hd h8
  obtain ⟨u6, hu6⟩ : ∃ u6, u6 = takeS S 0 (r 1 - 1) u5 := ⟨_, rfl⟩
  rw [← hu6] at hd h8
  have er8 : ∀ s : PS, ¬ s.2.1 = 0 → standS S 0 7 u6 = s → v8 = s := fun s a b => by
    rw [h8, b, failS_e a, cif_sm]
    exact mustS_e a
  refine ac_of (ls := [(2, 1), (2, 15), (0, j), (9, 0), (9, 0)]) pn_X0 rfl (Nat.le_of_ble_eq_true rfl) rfl ?_
  refine a_al0 (by decide) dX0_readPlace_0 ?_
  refine aw_getR (r := 2) 0 rfl dX0_readPlace_1 fl_X0_12 at_1 rfl rfl ?_
  refine aw_iconst dX0_readPlace_4 (by decide) ?_
  refine a_al1 (by decide) dX0_readPlace_5 ?_
  refine aw_get 0 dX0_readPlace_6 fl_X0_64 at_15 rfl ?_
  refine aw_iconst dX0_readPlace_9 (by decide) ?_
  refine aw_isubR (by omega) dX0_readPlace_10 ?_
  refine aw_callV 2 0 0 dX0_readPlace_11 yw_X5_takeNumber ml_X0_56 in_X5_takeNumber se_X5_takeNumber (ci := 4) rfl at_2 (as := [_, _]) rfl rfl ⟨by decide, by decide, by decide, Nat.le_of_ble_eq_true rfl⟩ ?_
  rw [e15]
  refine ac_tkN hT zu cu (by omega) (fun y1 y2 y3 h2 f2 g4 c2 z2 g6 => ?_) (fun y1 h2 f2 fl => ?_)
  · rw [← hc] at y3 g6
    rw [← hu5] at c2 z2
    have e16' : h2 15 1 - 1 = r 1 - 1 := by rw [f2 15 1 (by omega)]; exact e16
    refine am_ci ?_
    refine aw_if_ne_y 19 dX0_readPlace_14 (by decide) (by decide) ?_
    refine a_al0 (by decide) dX0_readPlace_19 ?_
    refine aw_getR (r := 2) 0 rfl dX0_readPlace_20 fl_X0_12 at_1 rfl rfl ?_
    refine aw_get 6 dX0_readPlace_23 fl_X0_60 at_2 rfl ?_
    refine a_is3 rfl rfl dX0_readPlace_26 ?_
    refine a_al0 (by decide) dX0_readPlace_27 ?_
    refine aw_getR (r := 2) 0 rfl dX0_readPlace_28 fl_X0_12 at_1 rfl rfl ?_
    refine aw_iconst dX0_readPlace_31 (by decide) ?_
    refine a_al1 (by decide) dX0_readPlace_32 ?_
    refine aw_get 1 dX0_readPlace_33 fl_X0_67 at_15 rfl ?_
    refine aw_iconst dX0_readPlace_36 (by decide) ?_
    refine aw_isubR (by omega) dX0_readPlace_37 ?_
    refine aw_callV 2 0 0 dX0_readPlace_38 yw_X5_takeNumber ml_X0_56 in_X5_takeNumber se_X5_takeNumber (ci := 4) rfl at_2 (as := [_, _]) rfl rfl ⟨by decide, by decide, by decide, Nat.le_of_ble_eq_true rfl⟩ ?_
    rw [g6, e16']
    refine ac_tkN hT z2 c2 (by omega) (fun y4 y5 y6 h3 f3 g4' c3 z3 g6' => ?_) (fun y4 h3 f3 fl => ?_)
    · rw [← hw] at y6 g6'
      rw [← hu6] at c3 z3
      refine am_ci ?_
      refine aw_if_ne_y 46 dX0_readPlace_41 (by decide) (by decide) ?_
      refine a_al0 (by decide) dX0_readPlace_46 ?_
      refine aw_getR (r := 2) 0 rfl dX0_readPlace_47 fl_X0_12 at_1 rfl rfl ?_
      refine aw_get 6 dX0_readPlace_50 fl_X0_60 at_2 rfl ?_
      refine a_is4 rfl rfl dX0_readPlace_53 ?_
      refine a_al0 (by decide) dX0_readPlace_55 ?_
      refine aw_getR (r := 2) 0 rfl dX0_readPlace_56 fl_X0_12 at_1 rfl rfl ?_
      refine aw_iconst dX0_readPlace_59 (by decide) ?_
      refine aw_bipush dX0_readPlace_60 (by decide) ?_
      refine aw_callV 2 0 0 dX0_readPlace_62 yw_X5_takeNumber ml_X0_56 in_X5_takeNumber se_X5_takeNumber (ci := 4) rfl at_2 (as := [_, _]) rfl rfl ⟨by decide, by decide, by decide, Nat.le_of_ble_eq_true rfl⟩ ?_
      rw [g6']
      refine ac_tkN hT z3 c3 (by decide) (fun y7 y8 y9 h4 f4 g4'' c4 z4 g6'' => ?_) (fun y7 h4 f4 fl => ?_)
      · rw [← hd] at y9 g6''
        have g3 : h4 15 3 = r 3 := by rw [f4 15 3 (by omega), f3 15 3 (by omega), f2 15 3 (by omega)]; exact e3.1
        have at7 : ∀ k, 0 ≤ k → k < r 3 → (cAt h4 15 c w k ↔ rAt r c w k) := fun k a b => by
          obtain ⟨q1, q2, q3⟩ := hA k a b
          have m : ∀ y, h4 (15 + 2) y = h 17 y := fun y => by rw [f4 (15 + 2) y (by omega), f3 (15 + 2) y (by omega), f2 (15 + 2) y (by omega)]; rfl
          unfold cAt rAt
          rw [m, m, q1, q2, q3]
          exact ⟨fun z => ⟨rfl, z.1, z.2⟩, fun z => ⟨z.2.1, z.2.2⟩⟩
        refine am_ci ?_
        refine aw_if_ne_y 70 dX0_readPlace_65 (by decide) (by decide) ?_
        refine a_al1 (by decide) dX0_readPlace_70 ?_
        refine a_il3 dX0_readPlace_71 ?_
        refine a_il4 dX0_readPlace_72 ?_
        refine aw_callV 2 0 0 dX0_readPlace_74 yw_X3_shipIn ml_X0_145 in_X3_shipIn se_X3_shipIn (ci := 2) rfl at_15 (as := [_, _]) rfl rfl ⟨by decide, by decide, by decide, Nat.le_of_ble_eq_true rfl⟩ ?_
        refine ac_shipIn (Or.inr rfl) (by omega) (fun x hx => ?_)
        have hxx : (∃ k, 0 ≤ k ∧ k < r 3 ∧ rAt r c w k) ↔ ¬ x = -1 := by
          rw [g3] at hx
          unfold isFst at hx
          rcases hx with ⟨a, b, q, -⟩ | ⟨a, b⟩
          · exact ⟨fun _ => by omega, fun _ => ⟨x, a, b, (at7 x a b).mp q⟩⟩
          · exact ⟨fun ⟨k, p, q, s⟩ => absurd ((at7 k p q).mpr s) (b k p q), fun q => absurd a q⟩
        refine am_ci ?_
        refine aw_iconst dX0_readPlace_77 (by decide) ?_
        refine aw_icmp_eq 91 dX0_readPlace_78 (by decide) (fun c78 => ?_) (fun c78 => ?_)
        · have x1 : x = -1 := by omega
          have v1 : v8 = takeS S 0 7 u6 := by
            rw [h8, cif_neg (fun q => hxx.mp q x1), y8, mustS_1 z3 rfl]
            unfold takeS
            rw [y8, nextS_0 z3]
          rw [v1] at k1
          refine a_al1 (by decide) dX0_readPlace_91 ?_
          refine a_il2 dX0_readPlace_92 ?_
          refine aw_iconst dX0_readPlace_93 (by decide) ?_
          refine a_il3 dX0_readPlace_94 ?_
          refine aw_callV 1 0 0 dX0_readPlace_95 yw_X3_set ml_X0_149 in_X3_set se_X3_set (ci := 2) rfl at_15 (as := [_, _, _]) rfl rfl ⟨by decide, by decide, by decide, Nat.le_of_ble_eq_true rfl⟩ ?_
          refine ac_set (Or.inr rfl) hj (by decide) ?_
          refine am_cv ?_
          refine a_al1 (by decide) dX0_readPlace_98 ?_
          refine a_il2 dX0_readPlace_99 ?_
          refine aw_iconst dX0_readPlace_100 (by decide) ?_
          refine a_il4 dX0_readPlace_101 ?_
          refine aw_callV 1 0 0 dX0_readPlace_103 yw_X3_set ml_X0_149 in_X3_set se_X3_set (ci := 2) rfl at_15 (as := [_, _, _]) rfl rfl ⟨by decide, by decide, by decide, Nat.le_of_ble_eq_true rfl⟩ ?_
          refine ac_set (Or.inr rfl) hj (by decide) ?_
          refine am_cv ?_
          refine a_al1 (by decide) dX0_readPlace_106 ?_
          refine a_il2 dX0_readPlace_107 ?_
          refine aw_iconst dX0_readPlace_108 (by decide) ?_
          refine a_al0 (by decide) dX0_readPlace_109 ?_
          refine aw_getR (r := 2) 0 rfl dX0_readPlace_110 fl_X0_12 at_1 rfl rfl ?_
          try simp (disch := omega) only [up_at, up_ne]
          refine aw_get 6 dX0_readPlace_113 fl_X0_60 at_2 rfl ?_
          try simp (disch := omega) only [up_at, up_ne]
          refine aw_callV 1 0 0 dX0_readPlace_116 yw_X3_set ml_X0_149 in_X3_set se_X3_set (ci := 2) rfl at_15 (as := [_, _, _]) rfl rfl ⟨by decide, by decide, by decide, Nat.le_of_ble_eq_true rfl⟩ ?_
          rw [g6'']
          refine ac_set (Or.inr rfl) hj (by decide) ?_
          refine am_cv ?_
          refine aw_iconst dX0_readPlace_119 (by decide) ?_
          refine aw_zret dX0_readPlace_120 rfl (by omega) ?_
          refine k1 z4 y3 y6 y9 _ (fun k y a b => ?_) ?_ ?_ ?_ (CE_up (by decide) (CE_up (by decide) (CE_up (by decide) c4)))
          · rw [up_ne (by omega), up_ne (by omega), up_ne (by omega), f4 k y a, f3 k y a, f2 k y a]
          · rw [up_ne (by omega), up_ne (by omega)]
            exact up_at _ _ _ _
          · rw [up_ne (by omega)]
            exact up_at _ _ _ _
          · exact up_at _ _ _ _
        · have yd := hxx.mpr (show ¬ x = -1 by omega)
          have v1 : v8 = (u6.1, -5, aP S u6.1) := by
            rw [h8, cif_pos yd, y8, failS_0 z3]
            exact mustS_e (by show ¬ (-5 : Int) = 0; decide)
          rw [v1] at k0
          refine a_al0 (by decide) dX0_readPlace_81 ?_
          refine aw_getR (r := 2) 0 rfl dX0_readPlace_82 fl_X0_12 at_1 rfl rfl ?_
          refine aw_bipush dX0_readPlace_85 (by decide) ?_
          refine aw_callV 1 0 0 dX0_readPlace_87 yw_X5_failHere ml_X0_89 in_X5_failHere se_X5_failHere (ci := 4) rfl at_2 (as := [_]) rfl rfl ⟨by decide, by decide, by decide, Nat.le_of_ble_eq_true rfl⟩ ?_
          refine ac_failHere ?_
          refine am_ci ?_
          refine aw_zret dX0_readPlace_90 rfl (by omega) ?_
          exact k0 (by show ¬ (-5 : Int) = 0; decide) _ (GF_trans (GF_T f2) (GF_trans (GF_T f3) (GF_trans (GF_T f4) (GF_E (cEF_up (by decide) (cEF_up (by decide) (cTF_E (cTF_refl h4)))))))) ⟨by rw [up_ne (by omega), up_at], by rw [up_at, g4'']⟩
      · have v1 := er8 _ y7 rfl
        rw [v1] at k0
        refine am_ci ?_
        refine aw_if_ne_n 70 dX0_readPlace_65 (by decide) (by decide) ?_
        refine aw_iconst dX0_readPlace_68 (by decide) ?_
        refine aw_zret dX0_readPlace_69 rfl (by omega) ?_
        exact k0 y7 h4 (GF_trans (GF_T f2) (GF_trans (GF_T f3) (GF_E f4))) fl
    · have s6 : u6 = standS S 0 (r 1 - 1) u5 := by rw [hu6]; exact nextS_e y4
      have v1 := er8 _ y4 (by rw [s6]; exact standS_e y4)
      rw [v1] at k0
      refine am_ci ?_
      refine aw_if_ne_n 46 dX0_readPlace_41 (by decide) (by decide) ?_
      refine aw_iconst dX0_readPlace_44 (by decide) ?_
      refine aw_zret dX0_readPlace_45 rfl (by omega) ?_
      exact k0 y4 h3 (GF_trans (GF_T f2) (GF_E f3)) fl
  · have s5 : u5 = standS S 0 (r 0 - 1) u := by rw [hu5]; exact nextS_e y1
    have s6 : u6 = standS S 0 (r 0 - 1) u := by rw [hu6, s5]; exact takeS_e y1
    have v1 := er8 _ y1 (by rw [s6]; exact standS_e y1)
    rw [v1] at k0
    refine am_ci ?_
    refine aw_if_ne_n 19 dX0_readPlace_14 (by decide) (by decide) ?_
    refine aw_iconst dX0_readPlace_17 (by decide) ?_
    refine aw_zret dX0_readPlace_18 rfl (by omega) ?_
    exact k0 y1 h2 (GF_E f2) fl
