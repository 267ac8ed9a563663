/-! the class: a ship of its text -/
theorem setSh_f {h : AH} {b i f nm k x : Int} (h1 : ¬ (k = b + 1 ∧ x = i)) (h2 : ¬ (k = b + 2 ∧ i * 11 ≤ x ∧ x ≤ i * 11 + 10)) : setSh h b i f nm k x = h k x := by
  unfold setSh
  rw [up_ne (by omega), up_ne (by omega), up_ne (by omega), up_ne (by omega), up_ne (by omega), up_ne (by omega), up_ne (by omega), up_ne (by omega), up_ne (by omega)]
theorem setSh_v {h : AH} {b i f nm : Int} : setSh h b i f nm (b + 1) i = nm ∧ setSh h b i f nm (b + 2) (i * 11 + 0) = f ∧ setSh h b i f nm (b + 2) (i * 11 + 4) = 20 ∧ setSh h b i f nm (b + 2) (i * 11 + 5) = 3 ∧ setSh h b i f nm (b + 2) (i * 11 + 6) = 5 ∧ setSh h b i f nm (b + 2) (i * 11 + 7) = 1 ∧ setSh h b i f nm (b + 2) (i * 11 + 8) = 0 ∧ setSh h b i f nm (b + 2) (i * 11 + 9) = 4 ∧ setSh h b i f nm (b + 2) (i * 11 + 10) = -1 := by
  unfold setSh
  refine ⟨?_, ?_, ?_, ?_, ?_, ?_, ?_, ?_, ?_⟩ <;> simp (disch := omega) only [up_ne, up_at]
theorem ac_readShip {S : Int → Int} {L f : Int} {r : Int → Int} {st : PS} {h : AH} {K : AO → Nat → AH → Prop} (hT : TxS S L) (h0 : st.2.1 = 0) (hk : kP S st.1 = 0) (hw : CW S L st.1 h) (e0 : h 15 0 = r 0 ∧ 4 ≤ r 0 ∧ r 0 ≤ 30) (e1 : h 15 1 = r 1 ∧ 4 ≤ r 1 ∧ r 1 ≤ 30) (e2 : h 15 2 = r 2 ∧ 1 ≤ r 2 ∧ r 2 ≤ 4) (ef : f = r 2 - 1) (e3 : h 15 3 = r 3 ∧ 0 ≤ r 3 ∧ r 3 ≤ 12) (hS : SP h r) (hu : SPu h (r 3)) (hz : ∀ x, 46 + 25 * r 3 ≤ x → x < 346 → r x = 0)
  (k1 : (shpE S r f st).2.1 = 0 → r 3 ≤ 11 → ∀ h', (∀ k x, ¬ (k = 2 ∧ 4 ≤ x ∧ x ≤ 7) → ¬ (k = 15 ∧ x = 3) → k ≠ 16 → k ≠ 17 → h' k x = h k x) → h' 15 3 = r 3 + 1 → SPu h' (r 3 + 1) → SP h' (shpR S r f st) → (∀ x, 46 + 25 * (r 3 + 1) ≤ x → shpR S r f st x = r x) → (∀ x, x < 46 → x ≠ 3 → shpR S r f st x = r x) → CW S L (shpE S r f st).1 h' → K (.inl (some (0, 1))) 159 h') (k0 : ¬ (shpE S r f st).2.1 = 0 → ∀ h', GF h h' → CFl (shpE S r f st) h' → K (.inl (some (0, 0))) 159 h') : AC mX0_readShip 8 0 0 159 [(2, 1), (2, 15), (0, r 3)] h K := by
  obtain ⟨x, p, e4, e5⟩ := hw
  obtain ⟨v, hv⟩ : ∃ v, v = shp3 S r st := ⟨_, rfl⟩
  obtain ⟨m, hm⟩ : ∃ m, m = shpM S r st := ⟨_, rfl⟩
  obtain ⟨v8, hv8⟩ : ∃ v8, v8 = shp8 S r st := ⟨_, rfl⟩
  obtain ⟨c, hc⟩ : ∃ c, c = shpc S r st := ⟨_, rfl⟩
  obtain ⟨w, hww⟩ : ∃ w, w = shpw S r st := ⟨_, rfl⟩
  obtain ⟨d, hd⟩ : ∃ d, d = shpd S r st := ⟨_, rfl⟩
  have d3 : v = mustS S 1 (if r 3 = 12 then failS S (-6) st else st) := hv
  have dM : m = cif (∃ k, 0 ≤ k ∧ k < r 3 ∧ nmQ S (nameS S v).1 r (46 + 25 * k + 17)) (failS S (-4) (nameS S v)) (nameS S v) := by rw [hm, hv]; rfl
  have dc : c = standV S 0 (r 0 - 1) (nextS S m) := by rw [hc, hm]; rfl
  have dw : w = standV S 0 (r 1 - 1) (takeS S 0 (r 0 - 1) (nextS S m)) := by rw [hww, hm]; rfl
  have dd : d = standV S 0 7 (takeS S 0 (r 1 - 1) (takeS S 0 (r 0 - 1) (nextS S m))) := by rw [hd, hm]; rfl
  have d8 : v8 = mustS S 1 (cif (∃ k, 0 ≤ k ∧ k < r 3 ∧ rAt r c w k) (failS S (-5) (standS S 0 7 (takeS S 0 (r 1 - 1) (takeS S 0 (r 0 - 1) (nextS S m))))) (standS S 0 7 (takeS S 0 (r 1 - 1) (takeS S 0 (r 0 - 1) (nextS S m))))) := by rw [hv8, hm, hc, hww]; rfl
  obtain ⟨R, hR⟩ : ∃ R, R = shpD r (46 + 25 * r 3) f (nmv S m.1) c w d := ⟨_, rfl⟩
  have dO : shpO S r f st = optN S (46 + 25 * r 3) 700 R 0 v8 := by rw [hR, hm, hc, hww, hd, hv8]; rfl
  have dE : shpE S r f st = endS S (optN S (46 + 25 * r 3) 700 R 0 v8).2 := by rw [← dO]; rfl
  have dR : shpR S r f st = upr (optN S (46 + 25 * r 3) 700 R 0 v8).1 3 (r 3 + 1) := by rw [← dO]; rfl
  rw [dE] at k0 k1
  rw [dR] at k1
  have e8 : ∀ s : PS, ¬ s.2.1 = 0 → v8 = s → endS S (optN S (46 + 25 * r 3) 700 R 0 v8).2 = s := fun s a b => by
    rw [b, optN_W a, endS_e a]
  have eM : ∀ s : PS, ¬ s.2.1 = 0 → m = s → v8 = s := fun s a b => by
    rw [d8, b, nextS_e a, takeS_e a, takeS_e a, standS_e a, failS_e a, cif_sm]
    exact mustS_e a
  clear hv hm hv8 hc hww hd dO dE dR
  refine ac_of (ls := [(2, 1), (2, 15), (0, r 3)]) pn_X0 rfl (Nat.le_of_ble_eq_true rfl) rfl ?_
  refine a_il2 dX0_readShip_0 ?_
  refine aw_bipush dX0_readShip_1 (by decide) ?_
  refine aw_icmp_lt 16 dX0_readShip_3 (by decide) (fun c3 => ?_) (fun c3 => ?_)
  · have r11 : r 3 ≤ 11 := by omega
    have v1 : v = (bP S st.1, 0, st.2.2) := by
      rw [d3, if_neg (by omega)]
      exact mustS_1 h0 rfl
    have zv : v.2.1 = 0 := by rw [v1]
    obtain ⟨cx, cp, c5⟩ : CE S L v.1 h := by rw [v1]; exact CW_E hT ⟨x, p, e4, e5⟩ hk
    obtain ⟨n1, n2⟩ := name_cs (S := S) zv
    refine a_al0 (by decide) dX0_readShip_16 ?_
    refine aw_getR (r := 2) 0 rfl dX0_readShip_17 fl_X0_12 at_1 rfl rfl ?_
    refine aw_callV 3 0 0 dX0_readShip_20 yw_X5_takeName ml_X0_124 in_X5_takeName se_X5_takeName (ci := 4) rfl at_2 (as := []) rfl rfl ⟨by decide, by decide, by decide, Nat.le_of_ble_eq_true rfl⟩ ?_
    refine ac_takeName hT cx cp c5 (fun q h1 f1 g4 g5 g7 => ?_) (fun q h1 f1 g2 g3 => ?_)
    · have nv := n1 q
      rw [nv] at dM
      have ni : ∀ k, 0 ≤ k → k < r 3 → (h1 16 k = encN (nmv S v.1) 8 ↔ nmQ S v.1 r (46 + 25 * k + 17)) := fun k a b => by
        obtain ⟨-, -, -, -, -, -, -, s8, s9⟩ := hS k a b
        have ee : (fun y => r (46 + 25 * k + (17 + y))) = fun y => r (46 + 25 * k + 17 + y) := funext (fun y => by congr 1; omega)
        rw [ee] at s8 s9
        rw [f1 16 k (by omega), s8]
        exact nm_iff hT cp q.1 q.2 s9
      have hb := bP_rg hT cp
      have ha := aP_rg hT cp
      have hbe := (wE_0 hT cp).1 q.1
      refine am_ci ?_
      refine aw_if_ne_y 28 dX0_readShip_23 (by decide) (by decide) ?_
      refine a_al1 (by decide) dX0_readShip_28 ?_
      refine a_al0 (by decide) dX0_readShip_29 ?_
      refine aw_getR (r := 2) 0 rfl dX0_readShip_30 fl_X0_12 at_1 rfl rfl ?_
      refine aw_get 7 dX0_readShip_33 fl_X0_127 at_2 rfl ?_
      refine aw_callV 1 0 0 dX0_readShip_36 yw_X3_shipNamed ml_X0_131 in_X3_shipNamed se_X3_shipNamed (ci := 2) rfl at_15 (as := [_]) rfl rfl ⟨by decide, by decide, by decide, Nat.le_of_ble_eq_true rfl⟩ ?_
      rw [g7]
      refine ac_shipNamed (Or.inr rfl) (by rw [f1 15 3 (by omega)]; omega) (fun y hy => ?_)
      have hyy : (∃ k, 0 ≤ k ∧ k < r 3 ∧ nmQ S v.1 r (46 + 25 * k + 17)) ↔ ¬ y = -1 := by
        rw [f1 15 3 (by omega), e3.1] at hy
        unfold isFst at hy
        rcases hy with ⟨a, b, z, -⟩ | ⟨a, b⟩
        · exact ⟨fun _ => by omega, fun _ => ⟨y, a, b, (ni y a b).mp z⟩⟩
        · exact ⟨fun ⟨k, p, q, s⟩ => absurd ((ni k p q).mpr s) (b k p q), fun q => absurd a q⟩
      refine am_ci ?_
      refine aw_iconst dX0_readShip_39 (by decide) ?_
      refine aw_icmp_eq 53 dX0_readShip_40 (by decide) (fun c40 => ?_) (fun c40 => ?_)
      · have y1 : y = -1 := by omega
        rw [cif_neg (fun z => hyy.mp z y1)] at dM
        have nx : nextS S m = (bP S v.1, 0, v.2.2) := by rw [dM]; exact nextS_0 zv
        have zu : (nextS S m).2.1 = 0 := by rw [nx]
        have g152 : h1 15 2 - 1 = f := by rw [f1 15 2 (by omega), e2.1, ef]
        refine a_al1 (by decide) dX0_readShip_53 ?_
        refine a_il2 dX0_readShip_54 ?_
        refine a_al1 (by decide) dX0_readShip_55 ?_
        refine aw_get 2 dX0_readShip_56 fl_X0_109 at_15 rfl ?_
        refine aw_iconst dX0_readShip_59 (by decide) ?_
        refine aw_isubR (by omega) dX0_readShip_60 ?_
        refine a_al0 (by decide) dX0_readShip_61 ?_
        refine aw_getR (r := 2) 0 rfl dX0_readShip_62 fl_X0_12 at_1 rfl rfl ?_
        refine aw_get 7 dX0_readShip_65 fl_X0_127 at_2 rfl ?_
        refine aw_callV 2 0 0 dX0_readShip_68 yw_X3_setShip ml_X0_135 in_X3_setShip se_X3_setShip (ci := 2) rfl at_15 (as := [_, _, _]) rfl rfl ⟨by decide, by decide, by decide, Nat.le_of_ble_eq_true rfl⟩ ?_
        rw [g152, g7]
        refine ac_setShip (Or.inr rfl) (by omega) ?_
        obtain ⟨h2, hh2⟩ : ∃ h2, h2 = setSh h1 15 (r 3) f (encN (nmv S v.1) 8) := ⟨_, rfl⟩
        have sf : ∀ k y, ¬ (k = 16 ∧ y = r 3) → ¬ (k = 17 ∧ r 3 * 11 ≤ y ∧ y ≤ r 3 * 11 + 10) → h2 k y = h1 k y := fun k y a b => by
          rw [hh2]
          exact setSh_f (by omega) (by omega)
        obtain ⟨t16, t0, t4, t5, t6, t7, t8, t9, t10⟩ := setSh_v (h := h1) (b := 15) (i := r 3) (f := f) (nm := encN (nmv S v.1) 8)
        rw [← hh2] at t16 t0 t4 t5 t6 t7 t8 t9 t10 ⊢
        clear hh2
        have cu : CE S L (nextS S m).1 h2 := by
          rw [nx]
          refine ⟨⟨by rw [sf 2 1 (by omega) (by omega), f1 2 1 (by omega)]; exact cx.1, fun j j0 j1 => by rw [sf 3 j (by omega) (by omega), f1 3 j (by omega)]; exact cx.2 j j0 j1⟩, by dsimp only; omega, ?_⟩
          rw [sf 2 5 (by omega) (by omega), g5, hbe.1]
        have gf2 : GF h h2 := fun k y a b c => by rw [sf k y (by omega) (by omega), f1 k y (by omega)]
        refine am_cv ?_
        refine a_al0 (by decide) dX0_readShip_71 ?_
        refine a_al1 (by decide) dX0_readShip_72 ?_
        refine a_il2 dX0_readShip_73 ?_
        refine aw_callV 3 0 0 dX0_readShip_74 yw_X0_readPlace ml_X0_139 in_X0_readPlace se_X0_readPlace (ci := 0) rfl at_1 (as := [_, _]) rfl rfl ⟨by decide, by decide, by decide, Nat.le_of_ble_eq_true rfl⟩ ?_
        refine ac_readPlace hT ⟨e3.2.1, r11⟩ zu cu ⟨by rw [sf 15 0 (by omega) (by omega), f1 15 0 (by omega)]; exact e0.1, e0.2⟩ ⟨by rw [sf 15 1 (by omega) (by omega), f1 15 1 (by omega)]; exact e1.1, e1.2⟩ ⟨by rw [sf 15 3 (by omega) (by omega), f1 15 3 (by omega)]; exact e3.1, e3.2⟩ (fun k a b => ?_) dc dw dd d8 (fun z3 rc rw' rd h3 f3 u1 u2 u3 c3 => ?_) (fun z3 h3 f3 fl => ?_)
        · obtain ⟨⟨s1, -⟩, -, -, -, -, ⟨-, -, s10⟩, -⟩ := hS k a b
          rw [sf 17 (k * 11 + 1) (by omega) (by omega), sf 17 (k * 11 + 2) (by omega) (by omega), f1 17 (k * 11 + 1) (by omega), f1 17 (k * 11 + 2) (by omega)]
          exact ⟨s1 1 (by decide) (by decide), s1 2 (by decide) (by decide), s10⟩
        · obtain ⟨⟨v0, v1', v2, v3⟩, ⟨v4, v5, v6, v7⟩, ⟨v8', v9, v10⟩, vp, vn, vo⟩ := shpD_v (r := r) (nm := nmv S m.1) (s := 46 + 25 * r 3) (f := f) (c := c) (w := w) (d := d)
          rw [← hR] at v0 v1' v2 v3 v4 v5 v6 v7 v8' v9 v10 vp vn vo
          have G3 : GF h2 h3 := fun k y a b c => f3 k y (by omega) (by omega)
          have o3 : OS h3 R (r 3) := by
            have T : ∀ y, ¬ (1 ≤ y ∧ y ≤ 3) → h3 17 (r 3 * 11 + y) = h2 17 (r 3 * 11 + y) := fun y a => f3 17 _ (by omega) (by omega)
            unfold OS
            rw [v4, v5, v6, v7]
            refine ⟨fun y y0 y1 => ?_, by decide, by decide, by decide, by decide⟩
            rcases (show y = 0 ∨ y = 1 ∨ y = 2 ∨ y = 3 ∨ y = 4 ∨ y = 5 ∨ y = 6 ∨ y = 7 ∨ y = 8 ∨ y = 9 ∨ y = 10 by omega) with z | z | z | z | z | z | z | z | z | z | z
            · subst z; rw [T _ (by omega), v0]; exact t0
            · subst z; rw [v1']; exact u1
            · subst z; rw [v2]; exact u2
            · subst z; rw [v3]; exact u3
            · subst z; rw [T _ (by omega), v4]; exact t4
            · subst z; rw [T _ (by omega), v5]; exact t5
            · subst z; rw [T _ (by omega), v6]; exact t6
            · subst z; rw [T _ (by omega), v7]; exact t7
            · subst z; rw [T _ (by omega), v8', hz (46 + 25 * r 3 + 8) (by omega) (by omega)]; exact t8
            · subst z; rw [T _ (by omega), v9]; exact t9
            · subst z; rw [T _ (by omega), v10]; exact t10
          have QF : ∀ x, x < 46 + 25 * r 3 + 4 ∨ 46 + 25 * r 3 + 7 < x → (optN S (46 + 25 * r 3) 700 R 0 v8).1 x = R x := fun x a => optN_f a 700 R 0 v8
          clear hR
          refine am_ci ?_
          refine aw_if_eq_n 96 dX0_readShip_77 (by decide) (by decide) ?_
          refine a_al0 (by decide) dX0_readShip_80 ?_
          refine a_al1 (by decide) dX0_readShip_81 ?_
          refine a_il2 dX0_readShip_82 ?_
          refine aw_callV 7 0 0 dX0_readShip_83 yw_X0_readOptions ml_X0_142 in_X0_readOptions se_X0_readOptions (ci := 0) rfl at_1 (as := [_, _]) rfl rfl ⟨by decide, by decide, by decide, Nat.le_of_ble_eq_true rfl⟩ ?_
          refine ac_readOptions hT ⟨e3.2.1, r11⟩ z3 c3 o3 (fun q1 q2 h4 f4 o4 c4 => ?_) (fun q1 h4 f4 fl => ?_)
          · obtain ⟨Q, hQ⟩ : ∃ Q, Q = optN S (46 + 25 * r 3) 700 R 0 v8 := ⟨_, rfl⟩
            rw [← hQ] at q1 q2 o4 c4 QF k0 k1
            obtain ⟨eq1, eq2, eq3⟩ := endS_q hT c4.2.1 q1
            have cq := c4.2.1
            have aq := aP_rg hT c4.2.1
            have wq := (wE_0 hT c4.2.1).2 q2
            refine am_ci ?_
            refine aw_if_eq_n 96 dX0_readShip_86 (by decide) (by decide) ?_
            refine a_al0 (by decide) dX0_readShip_89 ?_
            refine aw_callV 3 0 0 dX0_readShip_90 yw_X0_endPart ml_X0_70 in_X0_endPart se_X0_endPart (ci := 0) rfl at_1 (as := []) rfl rfl ⟨by decide, by decide, by decide, Nat.le_of_ble_eq_true rfl⟩ ?_
            refine ac_endPart (st := (aP S Q.2.1, 0, Q.2.2.2)) hT rfl ⟨c4.1, by dsimp only; omega, by dsimp only; rw [c4.2.2.2, wq]⟩ (fun z5 h5 f5 c5 => ?_) (fun z5 h5 f5 fl => ?_)
            · rw [eq2] at z5
              rw [eq3 z5] at c5
              have F : ∀ k y, ¬ (k = 2 ∧ 4 ≤ y ∧ y ≤ 7) → ¬ (k = 16 ∧ y = r 3) → ¬ (k = 17 ∧ r 3 * 11 ≤ y ∧ y ≤ r 3 * 11 + 10) → h5 k y = h k y := fun k y a b c => by
                rw [f5 k y (by omega), f4 k y (by omega) (by omega), f3 k y (by omega) (by omega), sf k y (by omega) (by omega), f1 k y (by omega)]
              have e53 : h5 15 3 = r 3 := by rw [F 15 3 (by omega) (by omega) (by omega)]; exact e3.1
              have RQ : ∀ x, x ≠ 3 → upr Q.1 3 (r 3 + 1) x = Q.1 x := fun x a => upr_ne a
              have Ro : ∀ x, x < 46 + 25 * r 3 ∨ 46 + 25 * r 3 + 25 ≤ x → x ≠ 3 → upr Q.1 3 (r 3 + 1) x = r x := fun x a b => by
                rw [RQ x b, QF x (by omega), vo x a]
              have U : ∀ k y, ¬ (k = 15 ∧ y = 3) → up h5 15 3 (r 3 + 1) k y = h5 k y := fun k y a => up_ne a
              refine am_ci ?_
              refine aw_if_ne_y 98 dX0_readShip_93 (by decide) (by decide) ?_
              refine a_al1 (by decide) dX0_readShip_98 ?_
              refine aw_dup dX0_readShip_99 rfl ?_
              refine aw_get 3 dX0_readShip_100 fl_X0_114 at_15 rfl ?_
              try simp (disch := omega) only [up_at, up_ne]
              refine aw_iconst dX0_readShip_103 (by decide) ?_
              refine aw_iaddR (by omega) dX0_readShip_104 ?_
              refine aw_put 3 dX0_readShip_105 fp_X0_114 at_15 rfl ?_
              rw [e53]
              refine aw_iconst dX0_readShip_108 (by decide) ?_
              refine aw_zret dX0_readShip_109 rfl (by omega) ?_
              refine k1 z5 r11 (up h5 15 3 (r 3 + 1)) (fun k y a b c d => ?_) (up_at _ _ _ _) (fun i j i0 ij jn => ?_) (fun i i0 i1 => ?_) (fun x hx => ?_) (fun x hx hx3 => ?_) ?_
              · rw [U k y b, F k y (by omega) (by omega) (by omega)]
              · rw [U 16 i (by omega), U 16 j (by omega), F 16 i (by omega) (by omega) (by omega)]
                by_cases z : j = r 3
                · subst z
                  rw [f5 16 _ (by omega), f4 16 _ (by omega) (by omega), f3 16 _ (by omega) (by omega), show h2 16 (r 3) = encN (nmv S v.1) 8 from t16]
                  intro w
                  refine hyy.mp ⟨i, i0, ij, (ni i i0 ij).mp ?_⟩ y1
                  rw [f1 16 i (by omega)]
                  exact w
                · rw [F 16 j (by omega) (by omega) (by omega)]
                  exact hu i j i0 ij (by omega)
              · rw [upr_at] at i1
                rw [Ro 2 (by omega) (by decide), Ro 0 (by omega) (by decide), Ro 1 (by omega) (by decide)]
                by_cases z : i = r 3
                · subst z
                  have W : ∀ y, 0 ≤ y → y ≤ 24 → upr Q.1 3 (r 3 + 1) (46 + 25 * r 3 + y) = Q.1 (46 + 25 * r 3 + y) := fun y a b => RQ _ (by omega)
                  have W2 : ∀ y, 0 ≤ y → y ≤ 24 → (y < 4 ∨ 7 < y) → upr Q.1 3 (r 3 + 1) (46 + 25 * r 3 + y) = R (46 + 25 * r 3 + y) := fun y a b c => by rw [W y a b, QF _ (by omega)]
                  refine ⟨OS_eq (fun y a b => ?_) W o4, ?_⟩
                  · rw [U _ _ (by omega), f5 17 _ (by omega)]
                  · rw [W2 0 (by decide) (by decide) (by decide), W2 1 (by decide) (by decide) (by decide), W2 2 (by decide) (by decide) (by decide), W2 3 (by decide) (by decide) (by decide), W2 8 (by decide) (by decide) (by decide), W2 9 (by decide) (by decide) (by decide), W2 10 (by decide) (by decide) (by decide), v0, v1', v2, v3, v8', v9, v10, hz (46 + 25 * r 3 + 8) (by omega) (by omega)]
                    refine ⟨by omega, by omega, by omega, rd, ⟨rfl, rfl, rfl⟩, fun p p0 p1 => ?_, ?_, ?_⟩
                    · rw [W2 (11 + p) (by omega) (by omega) (by omega)]
                      exact vp p p0 p1
                    · rw [U 16 _ (by omega), f5 16 _ (by omega), f4 16 _ (by omega) (by omega), f3 16 _ (by omega) (by omega), show h2 16 (r 3) = encN (nmv S v.1) 8 from t16]
                      refine encN_eq 8 (fun k a b => ?_)
                      rw [W2 (17 + k) (by omega) (by omega) (by omega), vn k a (by omega), dM]
                    · refine nmOk_eq (fun k a b => ?_) (nmv_ok hT cp q.1 q.2)
                      rw [W2 (17 + k) (by omega) (by omega) (by omega), vn k a b, dM]
                · refine SPi_eq (fun y a b => ?_) ?_ (fun y a b => Ro _ (by omega) (by omega)) (Int.le_refl _) (hS i i0 (by omega))
                  · rw [U 17 _ (by omega), F 17 _ (by omega) (by omega) (by omega)]
                  · rw [U 16 _ (by omega), F 16 _ (by omega) (by omega) (by omega)]
              · exact Ro x (by omega) (by omega)
              · exact Ro x (by omega) hx3
              · obtain ⟨⟨b1, b2⟩, b3, b4, b5⟩ := c5
                exact ⟨⟨by rw [U _ _ (by omega)]; exact b1, fun j j0 j1 => by rw [U _ _ (by omega)]; exact b2 j j0 j1⟩, b3, by rw [U _ _ (by omega)]; exact b4, by rw [U _ _ (by omega)]; exact b5⟩
            · rw [eq2] at z5
              unfold CFl at fl
              rw [eq2] at fl
              refine am_ci ?_
              refine aw_if_ne_n 98 dX0_readShip_93 (by decide) (by decide) ?_
              refine aw_iconst dX0_readShip_96 (by decide) ?_
              refine aw_zret dX0_readShip_97 rfl (by omega) ?_
              exact k0 z5 h5 (GF_trans gf2 (GF_trans G3 (GF_trans (fun k y a b c => f4 k y (by omega) (by omega)) (GF_E f5)))) fl
          · refine am_ci ?_
            refine aw_if_eq_y 96 dX0_readShip_86 (by decide) (by decide) ?_
            refine aw_iconst dX0_readShip_96 (by decide) ?_
            refine aw_zret dX0_readShip_97 rfl (by omega) ?_
            exact k0 q1 h4 (GF_trans gf2 (GF_trans G3 f4)) fl
        · refine am_ci ?_
          refine aw_if_eq_y 96 dX0_readShip_77 (by decide) (by decide) ?_
          refine aw_iconst dX0_readShip_96 (by decide) ?_
          refine aw_zret dX0_readShip_97 rfl (by omega) ?_
          rw [e8 _ z3 rfl] at k0
          exact k0 z3 h3 (GF_trans gf2 f3) fl
      · have yd := hyy.mpr (show ¬ y = -1 by omega)
        have nz : ¬ ((v.1, -4, aP S v.1) : PS).2.1 = 0 := by show ¬ (-4 : Int) = 0; decide
        rw [cif_pos yd, failS_0 zv] at dM
        rw [e8 _ nz (eM _ nz dM)] at k0
        refine a_al0 (by decide) dX0_readShip_43 ?_
        refine aw_getR (r := 2) 0 rfl dX0_readShip_44 fl_X0_12 at_1 rfl rfl ?_
        refine aw_bipush dX0_readShip_47 (by decide) ?_
        refine aw_callV 1 0 0 dX0_readShip_49 yw_X5_failHere ml_X0_89 in_X5_failHere se_X5_failHere (ci := 4) rfl at_2 (as := [_]) rfl rfl ⟨by decide, by decide, by decide, Nat.le_of_ble_eq_true rfl⟩ ?_
        refine ac_failHere ?_
        refine am_ci ?_
        refine aw_zret dX0_readShip_52 rfl (by omega) ?_
        exact k0 nz _ (GF_trans (GF_T f1) (GF_E (cEF_up (by decide) (cEF_up (by decide) (cTF_E (cTF_refl h1)))))) ⟨by rw [up_ne (by omega), up_at], by rw [up_at, g4]⟩
    · have nv := n2 q
      have nz : ¬ ((v.1, -2, aP S v.1) : PS).2.1 = 0 := by show ¬ (-2 : Int) = 0; decide
      have nz2 : ¬ (nameS S v).2.1 = 0 := by rw [nv]; exact nz
      rw [failS_e nz2, cif_sm, nv] at dM
      rw [e8 _ nz (eM _ nz dM)] at k0
      refine am_ci ?_
      refine aw_if_ne_n 28 dX0_readShip_23 (by decide) (by decide) ?_
      refine aw_iconst dX0_readShip_26 (by decide) ?_
      refine aw_zret dX0_readShip_27 rfl (by omega) ?_
      exact k0 nz h1 (GF_E f1) ⟨g2, g3⟩
  · have r4 : r 3 = 12 := by omega
    have nz : ¬ ((st.1, -6, aP S st.1) : PS).2.1 = 0 := by show ¬ (-6 : Int) = 0; decide
    have v1 : v = (st.1, -6, aP S st.1) := by
      rw [d3, if_pos r4, failS_0 h0]
      exact mustS_e nz
    have nz2 : ¬ v.2.1 = 0 := by rw [v1]; exact nz
    rw [nameS_e nz2, failS_e nz2, cif_sm, v1] at dM
    rw [e8 _ nz (eM _ nz dM)] at k0
    refine a_al0 (by decide) dX0_readShip_6 ?_
    refine aw_getR (r := 2) 0 rfl dX0_readShip_7 fl_X0_12 at_1 rfl rfl ?_
    refine aw_bipush dX0_readShip_10 (by decide) ?_
    refine aw_callV 1 0 0 dX0_readShip_12 yw_X5_failHere ml_X0_89 in_X5_failHere se_X5_failHere (ci := 4) rfl at_2 (as := [_]) rfl rfl ⟨by decide, by decide, by decide, Nat.le_of_ble_eq_true rfl⟩ ?_
    refine ac_failHere ?_
    refine am_ci ?_
    refine aw_zret dX0_readShip_15 rfl (by omega) ?_
    exact k0 nz _ (GF_E (cEF_up (by decide) (cEF_up (by decide) (cTF_E (cTF_refl h))))) ⟨by rw [up_ne (by omega), up_at], by rw [up_at, e4]⟩
