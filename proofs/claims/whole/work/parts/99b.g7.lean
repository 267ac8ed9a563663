/-! the class: fleets of its text -/
/-- names of fleets as they are read -/
def FN (h : AH) (n : Int) (N : Int → Int) : Prop := ∀ f, 0 ≤ f → f < n → h 4 f = encN (fun k => N (8 * f + k)) 8 ∧ nmOk (fun k => N (8 * f + k))
theorem FN_eq {h h' : AH} {n : Int} {N : Int → Int} (e : ∀ f, 0 ≤ f → f < n → h' 4 f = h 4 f) (hF : FN h n N) : FN h' n N := fun f a b => by
  rw [e f a b]
  exact hF f a b
theorem name_cs {S : Int → Int} {st : PS} (h0 : st.2.1 = 0) : ((kP S st.1 = 0 ∧ bP S st.1 - aP S st.1 ≤ 8) → nameS S st = st) ∧ (¬ (kP S st.1 = 0 ∧ bP S st.1 - aP S st.1 ≤ 8) → nameS S st = (st.1, -2, aP S st.1)) := by
  refine ⟨fun q => ?_, fun q => ?_⟩
  · unfold nameS
    rw [if_pos q]
  · unfold nameS
    rw [if_neg q, failS_0 h0]
theorem nameS_e {S : Int → Int} {st : PS} (h : ¬ st.2.1 = 0) : nameS S st = st := by
  unfold nameS
  rw [failS_e h]
  split <;> rfl
theorem cif_sm {α : Type} (P : Prop) (a : α) : cif P a a = a := by
  unfold cif
  split <;> rfl
theorem ac_readFleet {S : Int → Int} {L : Int} {r N : Int → Int} {st : PS} {h : AH} {K : AO → Nat → AH → Prop} (hT : TxS S L) (h0 : st.2.1 = 0) (hk : kP S st.1 = 0) (hw : CW S L st.1 h) (e2 : h 15 2 = r 2) (r2 : 0 ≤ r 2 ∧ r 2 ≤ 4) (hF : FN h (r 2) N) (k1 : (flt8 S r N st).2.1 = 0 → r 2 ≤ 3 → ∀ h', (∀ k x, ¬ (k = 2 ∧ 4 ≤ x ∧ x ≤ 7) → ¬ (k = 15 ∧ x = 2) → k ≠ 4 → h' k x = h k x) → h' 15 2 = r 2 + 1 → FN h' (r 2 + 1) (fltN S r N st) → CW S L (flt8 S r N st).1 h' → K (.inl (some (0, 1))) 159 h') (k0 : ¬ (flt8 S r N st).2.1 = 0 → ∀ h', GF h h' → CFl (flt8 S r N st) h' → K (.inl (some (0, 0))) 159 h') : AC mX0_readFleet 4 0 0 159 [(2, 1), (2, 15)] h K := by
  obtain ⟨x, p, e4, e5⟩ := hw
  obtain ⟨v, hv⟩ : ∃ v, v = flt3 S r st := ⟨_, rfl⟩
  obtain ⟨m, hm⟩ : ∃ m, m = fltM S r N st := ⟨_, rfl⟩
  have d3 : v = mustS S 1 (if r 2 = 4 then failS S (-6) st else st) := hv
  have dM : m = cif (∃ k, 0 ≤ k ∧ k < r 2 ∧ nmQ S (nameS S v).1 N (8 * k)) (failS S (-4) (nameS S v)) (nameS S v) := by rw [hm, hv]; rfl
  have d8 : flt8 S r N st = endS S (nextS S m) := by rw [hm]; rfl
  have dN : fltN S r N st = nmRow N (8 * r 2 - 17) (nmv S m.1) := by rw [hm]; rfl
  rw [d8] at k0 k1
  rw [dN] at k1
  have eE : ∀ s : PS, ¬ s.2.1 = 0 → m = s → endS S (nextS S m) = s := fun s a b => by
    rw [b, nextS_e a, endS_e a]
  clear hv hm
  refine ac_of (ls := [(2, 1), (2, 15), (9, 0)]) pn_X0 rfl (Nat.le_of_ble_eq_true rfl) rfl ?_
  refine a_al1 (by decide) dX0_readFleet_0 ?_
  refine aw_get 2 dX0_readFleet_1 fl_X0_109 at_15 rfl ?_
  refine aw_iconst dX0_readFleet_4 (by decide) ?_
  refine aw_icmp_lt 18 dX0_readFleet_5 (by decide) (fun c5 => ?_) (fun c5 => ?_)
  · have v1 : v = (bP S st.1, 0, st.2.2) := by
      rw [d3, if_neg (by omega)]
      exact mustS_1 h0 rfl
    have zv : v.2.1 = 0 := by rw [v1]
    obtain ⟨cx, cp, c5⟩ : CE S L v.1 h := by rw [v1]; exact CW_E hT ⟨x, p, e4, e5⟩ hk
    obtain ⟨n1, n2⟩ := name_cs (S := S) zv
    refine a_al0 (by decide) dX0_readFleet_18 ?_
    refine aw_getR (r := 2) 0 rfl dX0_readFleet_19 fl_X0_12 at_1 rfl rfl ?_
    refine aw_callV 3 0 0 dX0_readFleet_22 yw_X5_takeName ml_X0_124 in_X5_takeName se_X5_takeName (ci := 4) rfl at_2 (as := []) rfl rfl ⟨by decide, by decide, by decide, Nat.le_of_ble_eq_true rfl⟩ ?_
    refine ac_takeName hT cx cp c5 (fun q h1 f1 g4 g5 g7 => ?_) (fun q h1 f1 g2 g3 => ?_)
    · have nv := n1 q
      rw [nv] at dM
      have h12 : h1 15 2 = r 2 := by rw [f1 15 2 (by omega)]; exact e2
      have F1 : FN h1 (r 2) N := FN_eq (fun f a b => f1 4 f (by omega)) hF
      have ni : ∀ f, 0 ≤ f → f < r 2 → (h1 4 f = encN (nmv S v.1) 8 ↔ nmQ S v.1 N (8 * f)) := fun f a b => by
        rw [(F1 f a b).1]
        exact nm_iff hT cp q.1 q.2 (F1 f a b).2
      have hb := bP_rg hT cp
      have hbe := (wE_0 hT cp).1 q.1
      refine am_ci ?_
      refine aw_if_ne_y 30 dX0_readFleet_25 (by decide) (by decide) ?_
      refine aw_iconst dX0_readFleet_30 (by decide) ?_
      refine a_is2 rfl rfl dX0_readFleet_31 ?_
      refine aw_loop (fun f : Int => 0 ≤ f ∧ f ≤ r 2 ∧ ∀ j, 0 ≤ j → j < f → ¬ nmQ S v.1 N (8 * j)) (fun f => (r 2 - f).toNat) (fun f => AW mX0_readFleet 4 0 0 K 159 32 [(2, 1), (2, 15), (0, f)] [] h1) (fun f hf ih => ?_) 0 ⟨by omega, r2.1, fun j a b => by omega⟩
      obtain ⟨f0, f2, fj⟩ := hf
      refine a_il2 dX0_readFleet_32 ?_
      refine a_al1 (by decide) dX0_readFleet_33 ?_
      refine aw_get 2 dX0_readFleet_34 fl_X0_109 at_15 rfl ?_
      refine aw_icmp_ge 73 dX0_readFleet_37 (by decide) (fun c37 => ?_) (fun c37 => ?_)
      · have fe : f = r 2 := by omega
        have nd : ¬ ∃ k, 0 ≤ k ∧ k < r 2 ∧ nmQ S v.1 N (8 * k) := fun ⟨k, a, b, c⟩ => fj k a (by omega) c
        rw [cif_neg nd] at dM
        have r3 : r 2 ≤ 3 := by omega
        have nx : nextS S m = (bP S v.1, 0, v.2.2) := by rw [dM]; exact nextS_0 zv
        rw [nx] at k0 k1
        rw [dM] at k1
        refine a_al0 (by decide) dX0_readFleet_73 ?_
        refine aw_getR (r := 4) 1 rfl dX0_readFleet_74 fl_X0_18 at_1 rfl rfl ?_
        refine a_al1 (by decide) dX0_readFleet_77 ?_
        refine aw_get 2 dX0_readFleet_78 fl_X0_109 at_15 rfl ?_
        refine a_al0 (by decide) dX0_readFleet_81 ?_
        refine aw_getR (r := 2) 0 rfl dX0_readFleet_82 fl_X0_12 at_1 rfl rfl ?_
        refine aw_get 7 dX0_readFleet_85 fl_X0_127 at_2 rfl ?_
        refine aw_last dX0_readFleet_88 ar_4 (by omega) ?_
        refine a_al1 (by decide) dX0_readFleet_89 ?_
        refine aw_dup dX0_readFleet_90 rfl ?_
        refine aw_get 2 dX0_readFleet_91 fl_X0_109 at_15 rfl ?_
        try simp (disch := omega) only [up_at, up_ne]
        refine aw_iconst dX0_readFleet_94 (by decide) ?_
        refine aw_iaddR (by omega) dX0_readFleet_95 ?_
        refine aw_put 2 dX0_readFleet_96 fp_X0_109 at_15 rfl ?_
        refine a_al0 (by decide) dX0_readFleet_99 ?_
        refine aw_callV 3 0 0 dX0_readFleet_100 yw_X0_endPart ml_X0_70 in_X0_endPart se_X0_endPart (ci := 0) rfl at_1 (as := []) rfl rfl ⟨by decide, by decide, by decide, Nat.le_of_ble_eq_true rfl⟩ ?_
        rw [h12, g7]
        refine ac_endPart (st := (bP S v.1, 0, v.2.2)) hT rfl (CE_up (by decide) ⟨⟨?_, fun j j0 j1 => ?_⟩, ?_, ?_⟩) (fun ya h5 f5 c5 => ?_) (fun ya h5 f5 fl => ?_)
        · rw [up_ne (by omega), f1 2 1 (by omega)]; exact cx.1
        · rw [up_ne (by omega), f1 3 j (by omega)]; exact cx.2 j j0 j1
        · dsimp only
          have := (aP_rg hT cp).1
          omega
        · dsimp only
          rw [up_ne (by omega), g5, hbe.1]
        · skip
          refine am_ci ?_
          try simp (disch := omega) only [up_at, up_ne]
          refine aw_zret dX0_readFleet_103 rfl (by omega) ?_
          refine k1 ya r3 h5 (fun k y a b c => ?_) ?_ (fun j j0 j1 => ?_) c5
          · rw [f5 k y (by omega), up_ne (by omega), up_ne (by omega), f1 k y (by omega)]
          · rw [f5 15 2 (by omega), up_at]
          · by_cases z : j = r 2
            · have ee : (fun k => nmRow N (8 * r 2 - 17) (nmv S v.1) (8 * j + k)) = fun k => if 0 ≤ k ∧ k < 8 then nmv S v.1 k else N (8 * j + k) := by
                funext k
                unfold nmRow
                by_cases w : 0 ≤ k ∧ k < 8
                · rw [if_pos (by omega), if_pos w]
                  congr 1
                  omega
                · rw [if_neg (by omega), if_neg w]
              have nk := nmv_ok hT cp q.1 q.2
              rw [ee]
              refine ⟨?_, nmOk_eq (fun k a b => ?_) nk⟩
              · rw [f5 4 j (by omega), up_ne (by omega), z, up_at]
                exact encN_eq 8 (fun k a b => by rw [if_pos (by omega)])
              · rw [if_pos (by omega)]
            · obtain ⟨a, b⟩ := F1 j j0 (by omega)
              have ee : ∀ k, 0 ≤ k → k < 8 → N (8 * j + k) = nmRow N (8 * r 2 - 17) (nmv S v.1) (8 * j + k) := fun k a b => by
                unfold nmRow
                rw [if_neg (by omega)]
              refine ⟨?_, nmOk_eq ee b⟩
              rw [f5 4 j (by omega), up_ne (by omega), up_ne (by omega), a]
              exact encN_eq 8 (fun k p q => ee k p (by omega))
        · skip
          refine am_ci ?_
          try simp (disch := omega) only [up_at, up_ne]
          refine aw_zret dX0_readFleet_103 rfl (by omega) ?_
          refine k0 ya h5 (fun k y a b c => ?_) fl
          rw [f5 k y (by omega), up_ne (by omega), up_ne (by omega), f1 k y (by omega)]
      · have fl := ni f f0 (by omega)
        refine a_al0 (by decide) dX0_readFleet_40 ?_
        refine aw_getR (r := 4) 1 rfl dX0_readFleet_41 fl_X0_18 at_1 rfl rfl ?_
        refine a_il2 dX0_readFleet_44 ?_
        refine aw_lald dX0_readFleet_45 ar_4 (by omega) ?_
        refine a_al0 (by decide) dX0_readFleet_46 ?_
        refine aw_getR (r := 2) 0 rfl dX0_readFleet_47 fl_X0_12 at_1 rfl rfl ?_
        refine aw_get 7 dX0_readFleet_50 fl_X0_127 at_2 rfl ?_
        refine aw_lcmp dX0_readFleet_53 ?_
        refine aw_if_ne 67 dX0_readFleet_54 (by decide) (fun c54 => ?_) (fun c54 => ?_)
        · have ne : ¬ nmQ S v.1 N (8 * f) := fun z => by
            have := fl.mpr z
            omega
          refine a_iiR2 (by omega) rfl rfl dX0_readFleet_67 ?_
          refine aw_goto 32 dX0_readFleet_70 (by decide) ?_
          refine ih (f + 1) ⟨by omega, by omega, fun j a b => ?_⟩ (by omega)
          by_cases z : j = f
          · rw [z]; exact ne
          · exact fj j a (by omega)
        · have ye : nmQ S v.1 N (8 * f) := fl.mp (by omega)
          rw [cif_pos ⟨f, f0, by omega, ye⟩, failS_0 zv] at dM
          rw [eE _ (by show ¬ (-4 : Int) = 0; decide) dM] at k0
          refine a_al0 (by decide) dX0_readFleet_57 ?_
          refine aw_getR (r := 2) 0 rfl dX0_readFleet_58 fl_X0_12 at_1 rfl rfl ?_
          refine aw_bipush dX0_readFleet_61 (by decide) ?_
          refine aw_callV 1 0 0 dX0_readFleet_63 yw_X5_failHere ml_X0_89 in_X5_failHere se_X5_failHere (ci := 4) rfl at_2 (as := [_]) rfl rfl ⟨by decide, by decide, by decide, Nat.le_of_ble_eq_true rfl⟩ ?_
          refine ac_failHere ?_
          refine am_ci ?_
          refine aw_zret dX0_readFleet_66 rfl (by omega) ?_
          exact k0 (by show ¬ (-4 : Int) = 0; decide) _ (GF_trans (GF_T f1) (GF_E (cEF_up (by decide) (cEF_up (by decide) (cTF_E (cTF_refl h1)))))) ⟨by rw [up_ne (by omega), up_at], by rw [up_at, g4]⟩
    · have nv := n2 q
      have nz : ¬ (nameS S v).2.1 = 0 := by rw [nv]; show ¬ (-2 : Int) = 0; decide
      rw [failS_e nz, cif_sm, nv] at dM
      rw [eE _ (by show ¬ (-2 : Int) = 0; decide) dM] at k0
      refine am_ci ?_
      refine aw_if_ne_n 30 dX0_readFleet_25 (by decide) (by decide) ?_
      refine aw_iconst dX0_readFleet_28 (by decide) ?_
      refine aw_zret dX0_readFleet_29 rfl (by omega) ?_
      exact k0 (by show ¬ (-2 : Int) = 0; decide) h1 (GF_E f1) ⟨g2, g3⟩
  · have r4 : r 2 = 4 := by omega
    have v1 : v = (st.1, -6, aP S st.1) := by
      rw [d3, if_pos r4, failS_0 h0]
      exact mustS_e (by show ¬ (-6 : Int) = 0; decide)
    have nz : ¬ v.2.1 = 0 := by rw [v1]; show ¬ (-6 : Int) = 0; decide
    rw [nameS_e nz, failS_e nz, cif_sm, v1] at dM
    rw [eE _ (by show ¬ (-6 : Int) = 0; decide) dM] at k0
    refine a_al0 (by decide) dX0_readFleet_8 ?_
    refine aw_getR (r := 2) 0 rfl dX0_readFleet_9 fl_X0_12 at_1 rfl rfl ?_
    refine aw_bipush dX0_readFleet_12 (by decide) ?_
    refine aw_callV 1 0 0 dX0_readFleet_14 yw_X5_failHere ml_X0_89 in_X5_failHere se_X5_failHere (ci := 4) rfl at_2 (as := [_]) rfl rfl ⟨by decide, by decide, by decide, Nat.le_of_ble_eq_true rfl⟩ ?_
    refine ac_failHere ?_
    refine am_ci ?_
    refine aw_zret dX0_readFleet_17 rfl (by omega) ?_
    exact k0 (by show ¬ (-6 : Int) = 0; decide) _ (GF_E (cEF_up (by decide) (cEF_up (by decide) (cTF_E (cTF_refl h))))) ⟨by rw [up_ne (by omega), up_at], by rw [up_at, e4]⟩
