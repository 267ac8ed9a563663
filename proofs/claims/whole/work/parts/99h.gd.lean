/-! the class: fleets and ships of its text -/
theorem shpN_e {S : Int → Int} {f : Int} {r : Int → Int} {st : PS} (h : ¬ st.2.1 = 0) : ∀ k : Nat, shpN S f k r st = (r, st)
  | 0 => rfl
  | k + 1 => cif_neg (fun q => h q.1)
theorem fltL_e {S : Int → Int} {r N : Int → Int} {st : PS} (h : ¬ st.2.1 = 0) : ∀ k : Nat, fltL S k r N st = (r, st)
  | 0 => rfl
  | k + 1 => cif_neg (fun q => h q.1)
theorem endAll_e {S : Int → Int} {st : PS} (h : ¬ st.2.1 = 0) : endAll S st = st := by
  unfold endAll
  rw [failS_e h]
  split <;> rfl
noncomputable def finL (S : Int → Int) (k kf : Nat) (r N : Int → Int) (st : PS) : (Int → Int) × PS := fltL S kf (shpN S (r 2 - 1) k r st).1 N (shpN S (r 2 - 1) k r st).2
theorem finL_e {S : Int → Int} {k kf : Nat} {r N : Int → Int} {st : PS} (h : ¬ st.2.1 = 0) : finL S k kf r N st = (r, st) := by
  unfold finL
  rw [shpN_e h]
  exact fltL_e h kf
/-- what the rows that were read have, and what the sheet has of them -/
def RdS (h : AH) (r : Int → Int) : Prop := (h 15 0 = r 0 ∧ 4 ≤ r 0 ∧ r 0 ≤ 30) ∧ (h 15 1 = r 1 ∧ 4 ≤ r 1 ∧ r 1 ≤ 30) ∧ (h 15 2 = r 2 ∧ 0 ≤ r 2 ∧ r 2 ≤ 4) ∧ (h 15 3 = r 3 ∧ 0 ≤ r 3 ∧ r 3 ≤ 12) ∧ SP h r ∧ (∀ x, 46 + 25 * r 3 ≤ x → x < 346 → r x = 0) ∧ SPu h (r 3)
theorem noBoth {S : Int → Int} {p : Int} (a : wdQ S p (wO 38)) : ¬ wdQ S p (wO 39) := fun b => by
  have q1 := a.2.1
  have q2 := b.2.1
  have e1 : (wO 38).length = 5 := by decide
  have e2 : (wO 39).length = 4 := by decide
  omega
theorem fend {S : Int → Int} {L n : Int} {st : PS} {h : AH} {K : AO → Nat → AH → Prop} (hT : TxS S L) (h0 : st.2.1 = 0) (hw : CW S L st.1 h) (h2 : 1 ≤ h 15 2) (k1 : (endAll S st).2.1 = 0 → K (.inl (some (0, 1))) 159 h) (k0 : ¬ (endAll S st).2.1 = 0 → ∀ h', GF h h' → CFl (endAll S st) h' → K (.inl (some (0, 0))) 159 h') : AW mX0_readFleets 9 0 0 K 159 69 [(2, 1), (2, 15), (0, n)] [] h := by
  obtain ⟨x, p, e4, e5⟩ := hw
  have ra := aP_rg hT p
  have hE := end_iff hT (k := aP S st.1) (by omega)
  have k3 : kP S st.1 = 3 ↔ S (aP S st.1) = -1 := by
    unfold kP
    by_cases z : S (aP S st.1) = -1
    · rw [if_pos z]
      exact ⟨fun _ => z, fun _ => rfl⟩
    · rw [if_neg z]
      refine ⟨fun q => ?_, fun q => absurd q z⟩
      split at q
      · omega
      · split at q <;> omega
  refine a_al1 (by decide) dX0_readFleets_69 ?_
  refine aw_get 2 dX0_readFleets_70 fl_X0_109 at_15 rfl ?_
  refine aw_if_le 86 dX0_readFleets_73 (by decide) (fun c73 => ?_) (fun c73 => ?_)
  · exfalso
    omega
  · refine a_al0 (by decide) dX0_readFleets_76 ?_
    refine aw_getR (r := 2) 0 rfl dX0_readFleets_77 fl_X0_12 at_1 rfl rfl ?_
    refine aw_callV 1 0 0 dX0_readFleets_80 yw_X5_isAtEnd ml_X0_121 in_X5_isAtEnd se_X5_isAtEnd (ci := 4) rfl at_2 (as := []) rfl rfl ⟨by decide, by decide, by decide, Nat.le_of_ble_eq_true rfl⟩ ?_
    have x1 := x.1
    refine ac_isAtEnd (fun y => ?_) (fun y => ?_)
    · have e : endAll S st = st := if_pos (k3.mpr (hE.mpr (by omega)))
      refine am_ci ?_
      refine aw_if_ne_y 98 dX0_readFleets_83 (by decide) (by decide) ?_
      refine aw_iconst dX0_readFleets_98 (by decide) ?_
      refine aw_goto 103 dX0_readFleets_99 (by decide) ?_
      refine aw_zret dX0_readFleets_103 rfl (by omega) ?_
      exact k1 (by rw [e]; exact h0)
    · have e : endAll S st = (st.1, -2, aP S st.1) := by
        unfold endAll
        rw [if_neg (fun q => by have := hE.mp (k3.mp q); omega)]
        exact failS_0 h0
      rw [e] at k0
      refine am_ci ?_
      refine aw_if_ne_n 98 dX0_readFleets_83 (by decide) (by decide) ?_
      refine a_al0 (by decide) dX0_readFleets_86 ?_
      refine aw_getR (r := 2) 0 rfl dX0_readFleets_87 fl_X0_12 at_1 rfl rfl ?_
      refine aw_bipush dX0_readFleets_90 (by decide) ?_
      refine aw_callV 1 0 0 dX0_readFleets_92 yw_X5_failHere ml_X0_89 in_X5_failHere se_X5_failHere (ci := 4) rfl at_2 (as := [_]) rfl rfl ⟨by decide, by decide, by decide, Nat.le_of_ble_eq_true rfl⟩ ?_
      refine ac_failHere ?_
      refine am_ci ?_
      refine aw_if_eq_y 102 dX0_readFleets_95 (by decide) (by decide) ?_
      refine aw_iconst dX0_readFleets_102 (by decide) ?_
      refine aw_zret dX0_readFleets_103 rfl (by omega) ?_
      exact k0 (by show ¬ (-2 : Int) = 0; decide) _ (GF_E (cEF_up (by decide) (cEF_up (by decide) (cTF_E (cTF_refl h))))) ⟨by rw [up_ne (by omega), up_at], by rw [up_at, e4]⟩
theorem lf2 {S : Int → Int} {L : Int} {K : AO → Nat → AH → Prop} (hT : TxS S L) : ∀ (c k kf : Nat) (r N : Int → Int) (st : PS) (n : Int) (h : AH), st.2.1 = 0 → CW S L st.1 h → RdS h r → 1 ≤ r 2 → FN h (r 2) N → n = r 2 + r 3 → n + c = 18 → 14 ≤ k + r 3 → 6 ≤ kf + r 2 →
    ((endAll S (finL S k kf r N st).2).2.1 = 0 → ∀ h', (∀ k x, ¬ (k = 2 ∧ 4 ≤ x ∧ x ≤ 7) → ¬ (k = 15 ∧ (x = 2 ∨ x = 3)) → k ≠ 4 → k ≠ 16 → k ≠ 17 → h' k x = h k x) → RdS h' (finL S k kf r N st).1 → 1 ≤ (finL S k kf r N st).1 2 → (∀ x, x < 46 ∨ 346 ≤ x → x ≠ 2 → x ≠ 3 → (finL S k kf r N st).1 x = r x) → K (.inl (some (0, 1))) 159 h') →
    (¬ (endAll S (finL S k kf r N st).2).2.1 = 0 → ∀ h', GF h h' → CFl (endAll S (finL S k kf r N st).2) h' → K (.inl (some (0, 0))) 159 h') →
    AW mX0_readFleets 9 0 0 K 159 2 [(2, 1), (2, 15), (0, n)] [] h
  | 0, k, kf, r, N, st, n, h, h0, hw, hR, h1, hF, hn, hc, hk, hkf, k1, k0 => by
    obtain ⟨-, -, ⟨-, a1, a2⟩, ⟨-, b1, b2⟩, -⟩ := hR
    exfalso
    omega
  | c + 1, k, kf, r, N, st, n, h, h0, hw, hR, h1, hF, hn, hc, hk, hkf, k1, k0 => by
    have hR2 := hR
    obtain ⟨r0, r1, r2, r3, rS, rz, ru⟩ := hR2
    have hw2 := hw
    obtain ⟨x, p, e4, e5⟩ := hw2
    obtain ⟨-, -, -, w3, w4, -⟩ := wO_s
    obtain ⟨k', rfl⟩ : ∃ k', k = k' + 1 := ⟨k - 1, by omega⟩
    obtain ⟨kf', rfl⟩ : ∃ kf', kf = kf' + 1 := ⟨kf - 1, by omega⟩
    have eN : shpN S (r 2 - 1) (k' + 1) r st = cif (wdS S st (wO 39)) (shpN S (r 2 - 1) k' (shpR S r (r 2 - 1) st) (shpE S r (r 2 - 1) st)) (r, st) := rfl
    have eF : fltL S (kf' + 1) r N st = cif (wdS S st (wO 38)) (fltL S kf' (fltG S r N st).1 (fltN S r N st) (fltE S r N st)) (r, st) := rfl
    refine a_il2 dX0_readFleets_2 ?_
    refine aw_bipush dX0_readFleets_3 (by decide) ?_
    refine aw_icmp_gt 69 dX0_readFleets_5 (by decide) (fun c5 => ?_) (fun c5 => ?_)
    · exfalso
      omega
    · refine a_al0 (by decide) dX0_readFleets_8 ?_
      refine aw_getR (r := 2) 0 rfl dX0_readFleets_9 fl_X0_12 at_1 rfl rfl ?_
      refine aw_ldcS (i := 3) dX0_readFleets_12 rfl ⟨rfl, rfl⟩ 2003 rfl ?_
      refine aw_callV 5 0 0 dX0_readFleets_14 yw_X5_isWord ml_X0_75 in_X5_isWord se_X5_isWord (ci := 4) rfl at_2 (as := [_]) rfl rfl ⟨by decide, by decide, by decide, Nat.le_of_ble_eq_true rfl⟩ ?_
      refine ac_isWordX5 (i := 3) hT x p e4 e5 rfl rfl (by decide) (fun y => ?_) (fun y => ?_)
      · have yq : wdQ S st.1 (wO 38) := by rw [← w3]; exact y
        have wf : wdS S st (wO 38) := ⟨h0, yq⟩
        have ws : ¬ wdS S st (wO 39) := fun z => noBoth yq z.2
        obtain ⟨ra, hra⟩ : ∃ ra, ra = upr r 2 (r 2 + 1) := ⟨_, rfl⟩
        have ra2 : ra 2 = r 2 + 1 := by rw [hra]; exact upr_at _ _ _
        have rao : ∀ x, x ≠ 2 → ra x = r x := fun x a => by rw [hra]; exact upr_ne a
        have eL : finL S (k' + 1) (kf' + 1) r N st = finL S 700 kf' ra (fltN S r N st) (flt8 S r N st) := by
          unfold finL
          rw [eN, cif_neg ws]
          dsimp only
          rw [eF, cif_pos wf, ra2, show r 2 + 1 - 1 = r 2 by omega, hra]
          rfl
        rw [eL] at k0 k1
        refine am_ci ?_
        refine aw_if_eq_n 30 dX0_readFleets_17 (by decide) (by decide) ?_
        refine a_al0 (by decide) dX0_readFleets_20 ?_
        refine a_al1 (by decide) dX0_readFleets_21 ?_
        refine aw_callV 4 0 0 dX0_readFleets_22 yw_X0_readFleet ml_X0_106 in_X0_readFleet se_X0_readFleet (ci := 0) rfl at_1 (as := [_]) rfl rfl ⟨by decide, by decide, by decide, Nat.le_of_ble_eq_true rfl⟩ ?_
        refine ac_readFleet hT h0 y.1 hw r2.1 r2.2 hF (fun z z3 h2 f2 g2 F2 c2 => ?_) (fun z h2 f2 fl => ?_)
        · have R2 : RdS h2 ra := by
            refine ⟨?_, ?_, ⟨by rw [ra2]; exact g2, by omega, by omega⟩, ?_, fun i i0 i1 => ?_, fun y a b => ?_, fun i j i0 ij jn => ?_⟩
            · rw [rao 0 (by decide), f2 15 0 (by omega) (by omega) (by decide)]; exact r0
            · rw [rao 1 (by decide), f2 15 1 (by omega) (by omega) (by decide)]; exact r1
            · rw [rao 3 (by decide), f2 15 3 (by omega) (by omega) (by decide)]; exact r3
            · rw [rao 3 (by decide)] at i1
              rw [rao 0 (by decide), rao 1 (by decide)]
              exact SPi_eq (fun y a b => f2 17 _ (by omega) (by omega) (by decide)) (f2 16 _ (by omega) (by omega) (by decide)) (fun y a b => rao _ (by omega)) (by omega) (rS i i0 i1)
            · rw [rao 3 (by decide)] at a
              rw [rao y (by omega)]
              exact rz y a b
            · rw [rao 3 (by decide)] at jn
              rw [f2 16 i (by omega) (by omega) (by decide), f2 16 j (by omega) (by omega) (by decide)]
              exact ru i j i0 ij jn
          refine am_ci ?_
          refine aw_if_ne_y 63 dX0_readFleets_25 (by decide) (by decide) ?_
          refine a_iiR2 (by omega) rfl rfl dX0_readFleets_63 ?_
          refine aw_goto 2 dX0_readFleets_66 (by decide) ?_
          refine lf2 hT c 700 kf' ra (fltN S r N st) (flt8 S r N st) (n + 1) h2 z c2 R2 (by omega) (by rw [ra2]; exact F2) (by rw [ra2, rao 3 (by decide)]; omega) (by omega) (by rw [rao 3 (by decide)]; omega) (by omega) (fun z2 h3 f3 R3 q3 o3 => ?_) (fun z2 h3 f3 fl => ?_)
          · exact k1 z2 h3 (fun k y a b c d e => by rw [f3 k y (by omega) b c d e, f2 k y (by omega) (by omega) c]) R3 q3 (fun y a b c => by rw [o3 y a b c]; exact rao y b)
          · exact k0 z2 h3 (GF_trans (fun k y a b c => f2 k y (by omega) (by omega) b) f3) fl
        · rw [finL_e z] at k0
          dsimp only at k0
          rw [endAll_e z] at k0
          refine am_ci ?_
          refine aw_if_ne_n 63 dX0_readFleets_25 (by decide) (by decide) ?_
          refine aw_iconst dX0_readFleets_28 (by decide) ?_
          refine aw_zret dX0_readFleets_29 rfl (by omega) ?_
          exact k0 z h2 f2 fl
      · have wf : ¬ wdS S st (wO 38) := fun z => y (by rw [w3]; exact z.2)
        refine am_ci ?_
        refine aw_if_eq_y 30 dX0_readFleets_17 (by decide) (by decide) ?_
        refine a_al1 (by decide) dX0_readFleets_30 ?_
        refine aw_get 2 dX0_readFleets_31 fl_X0_109 at_15 rfl ?_
        refine aw_if_le 69 dX0_readFleets_34 (by decide) (fun c34 => ?_) (fun c34 => ?_)
        · exfalso
          omega
        · refine a_al0 (by decide) dX0_readFleets_37 ?_
          refine aw_getR (r := 2) 0 rfl dX0_readFleets_38 fl_X0_12 at_1 rfl rfl ?_
          refine aw_ldcS (i := 4) dX0_readFleets_41 rfl ⟨rfl, rfl⟩ 2004 rfl ?_
          refine aw_callV 5 0 0 dX0_readFleets_43 yw_X5_isWord ml_X0_75 in_X5_isWord se_X5_isWord (ci := 4) rfl at_2 (as := [_]) rfl rfl ⟨by decide, by decide, by decide, Nat.le_of_ble_eq_true rfl⟩ ?_
          refine ac_isWordX5 (i := 4) hT x p e4 e5 rfl rfl (by decide) (fun y2 => ?_) (fun y2 => ?_)
          · have yq : wdQ S st.1 (wO 39) := by rw [← w4]; exact y2
            have ws : wdS S st (wO 39) := ⟨h0, yq⟩
            obtain ⟨ra, hra⟩ : ∃ ra, ra = shpR S r (r 2 - 1) st := ⟨_, rfl⟩
            refine am_ci ?_
            refine aw_if_eq_n 69 dX0_readFleets_46 (by decide) (by decide) ?_
            refine a_al0 (by decide) dX0_readFleets_49 ?_
            refine a_al1 (by decide) dX0_readFleets_50 ?_
            refine a_al1 (by decide) dX0_readFleets_51 ?_
            refine aw_get 3 dX0_readFleets_52 fl_X0_114 at_15 rfl ?_
            refine aw_callV 8 0 0 dX0_readFleets_55 yw_X0_readShip ml_X0_117 in_X0_readShip se_X0_readShip (ci := 0) rfl at_1 (as := [_, _]) rfl rfl ⟨by decide, by decide, by decide, Nat.le_of_ble_eq_true rfl⟩ ?_
            rw [r3.1]
            refine ac_readShip (f := r 2 - 1) hT h0 y2.1 hw r0 r1 ⟨r2.1, by omega, r2.2.2⟩ rfl r3 rS ru rz (fun z z3 h2 f2 g3 u2 S2 oh ol c2 => ?_) (fun z h2 f2 fl => ?_)
            · rw [← hra] at S2 oh ol
              have ra2 : ra 2 = r 2 := ol 2 (by decide) (by decide)
              have ra3 : ra 3 = r 3 + 1 := by
                rw [hra]
                unfold shpR
                exact upr_at _ _ _
              have eL : finL S (k' + 1) (kf' + 1) r N st = finL S k' (kf' + 1) ra N (shpE S r (r 2 - 1) st) := by
                unfold finL
                rw [eN, cif_pos ws, ra2, hra]
              rw [eL] at k0 k1
              have R2 : RdS h2 ra := by
                refine ⟨?_, ?_, ?_, ⟨by rw [ra3]; exact g3, by omega, by omega⟩, S2, fun y a b => ?_, by rw [ra3]; exact u2⟩
                · rw [ol 0 (by decide) (by decide), f2 15 0 (by omega) (by omega) (by decide) (by decide)]; exact r0
                · rw [ol 1 (by decide) (by decide), f2 15 1 (by omega) (by omega) (by decide) (by decide)]; exact r1
                · rw [ra2, f2 15 2 (by omega) (by omega) (by decide) (by decide)]; exact r2
                · rw [ra3] at a
                  rw [oh y a]
                  exact rz y (by omega) b
              refine am_ci ?_
              refine aw_if_ne_y 63 dX0_readFleets_58 (by decide) (by decide) ?_
              refine a_iiR2 (by omega) rfl rfl dX0_readFleets_63 ?_
              refine aw_goto 2 dX0_readFleets_66 (by decide) ?_
              refine lf2 hT c k' (kf' + 1) ra N (shpE S r (r 2 - 1) st) (n + 1) h2 z c2 R2 (by omega) (by rw [ra2]; exact FN_eq (fun f a b => f2 4 f (by omega) (by omega) (by decide) (by decide)) hF) (by omega) (by omega) (by omega) (by omega) (fun z2 h3 f3 R3 q3 o3 => ?_) (fun z2 h3 f3 fl => ?_)
              · refine k1 z2 h3 (fun k y a b c d e => by rw [f3 k y (by omega) b c d e, f2 k y (by omega) (by omega) d e]) R3 q3 (fun y a b c => ?_)
                rw [o3 y a b c]
                by_cases w : y < 46
                · exact ol y w c
                · exact oh y (by omega)
              · exact k0 z2 h3 (GF_trans (fun k y a b c => f2 k y (by omega) (by omega) (by omega) (by omega)) f3) fl
            · have eL : finL S (k' + 1) (kf' + 1) r N st = (ra, shpE S r (r 2 - 1) st) := by
                unfold finL
                rw [eN, cif_pos ws, shpN_e z, hra]
                exact fltL_e z _
              rw [eL] at k0
              dsimp only at k0
              rw [endAll_e z] at k0
              refine am_ci ?_
              refine aw_if_ne_n 63 dX0_readFleets_58 (by decide) (by decide) ?_
              refine aw_iconst dX0_readFleets_61 (by decide) ?_
              refine aw_zret dX0_readFleets_62 rfl (by omega) ?_
              exact k0 z h2 f2 fl
          · have ws : ¬ wdS S st (wO 39) := fun z => y2 (by rw [w4]; exact z.2)
            have eL : finL S (k' + 1) (kf' + 1) r N st = (r, st) := by
              unfold finL
              rw [eN, cif_neg ws]
              dsimp only
              rw [eF, cif_neg wf]
            rw [eL] at k0 k1
            refine am_ci ?_
            refine aw_if_eq_y 69 dX0_readFleets_46 (by decide) (by decide) ?_
            exact fend hT h0 hw (by omega) (fun z => k1 z h (fun _ _ _ _ _ _ _ => rfl) hR h1 (fun _ _ _ _ => rfl)) k0
theorem ac_readFleets {S : Int → Int} {L : Int} {r N : Int → Int} {st : PS} {h : AH} {K : AO → Nat → AH → Prop} (hT : TxS S L) (h0 : st.2.1 = 0) (hw : CW S L st.1 h) (hR : RdS h r) (h2 : r 2 = 0) (h3 : r 3 = 0)
  (k1 : (endAll S (ldE S N (ldD S (r, st))).2).2.1 = 0 → ∀ h', (∀ k x, ¬ (k = 2 ∧ 4 ≤ x ∧ x ≤ 7) → ¬ (k = 15 ∧ (x = 2 ∨ x = 3)) → k ≠ 4 → k ≠ 16 → k ≠ 17 → h' k x = h k x) → RdS h' (ldE S N (ldD S (r, st))).1 → 1 ≤ (ldE S N (ldD S (r, st))).1 2 → (∀ x, x < 46 ∨ 346 ≤ x → x ≠ 2 → x ≠ 3 → (ldE S N (ldD S (r, st))).1 x = r x) → K (.inl (some (0, 1))) 159 h') (k0 : ¬ (endAll S (ldE S N (ldD S (r, st))).2).2.1 = 0 → ∀ h', GF h h' → CFl (endAll S (ldE S N (ldD S (r, st))).2) h' → K (.inl (some (0, 0))) 159 h') : AC mX0_readFleets 9 0 0 159 [(2, 1), (2, 15)] h K := by
  have hR2 := hR
  obtain ⟨r0, r1, r2, r3, rS, rz, ru⟩ := hR2
  have hw2 := hw
  obtain ⟨x, p, e4, e5⟩ := hw2
  obtain ⟨-, -, -, w3, w4, -⟩ := wO_s
  have eF : fltL S (699 + 1) r N st = cif (wdS S st (wO 38)) (fltL S 699 (fltG S r N st).1 (fltN S r N st) (fltE S r N st)) (r, st) := rfl
  refine ac_of (ls := [(2, 1), (2, 15), (9, 0)]) pn_X0 rfl (Nat.le_of_ble_eq_true rfl) rfl ?_
  refine aw_iconst dX0_readFleets_0 (by decide) ?_
  refine a_is2 rfl rfl dX0_readFleets_1 ?_
  refine a_il2 dX0_readFleets_2 ?_
  refine aw_bipush dX0_readFleets_3 (by decide) ?_
  refine aw_icmp_gt 69 dX0_readFleets_5 (by decide) (fun c5 => ?_) (fun c5 => ?_)
  · exfalso
    omega
  · refine a_al0 (by decide) dX0_readFleets_8 ?_
    refine aw_getR (r := 2) 0 rfl dX0_readFleets_9 fl_X0_12 at_1 rfl rfl ?_
    refine aw_ldcS (i := 3) dX0_readFleets_12 rfl ⟨rfl, rfl⟩ 2003 rfl ?_
    refine aw_callV 5 0 0 dX0_readFleets_14 yw_X5_isWord ml_X0_75 in_X5_isWord se_X5_isWord (ci := 4) rfl at_2 (as := [_]) rfl rfl ⟨by decide, by decide, by decide, Nat.le_of_ble_eq_true rfl⟩ ?_
    refine ac_isWordX5 (i := 3) hT x p e4 e5 rfl rfl (by decide) (fun y => ?_) (fun y => ?_)
    · have yq : wdQ S st.1 (wO 38) := by rw [← w3]; exact y
      have wf : wdS S st (wO 38) := ⟨h0, yq⟩
      obtain ⟨ra, hra⟩ : ∃ ra, ra = upr r 2 (r 2 + 1) := ⟨_, rfl⟩
      have ra2 : ra 2 = r 2 + 1 := by rw [hra]; exact upr_at _ _ _
      have rao : ∀ x, x ≠ 2 → ra x = r x := fun x a => by rw [hra]; exact upr_ne a
      have eD : ldD S (r, st) = (r, st) := by
        unfold ldD
        dsimp only
        rw [cif_pos wf]
      have eL : ldE S N (ldD S (r, st)) = finL S 700 699 ra (fltN S r N st) (flt8 S r N st) := by
        rw [eD]
        unfold ldE finL
        dsimp only
        rw [show (700 : Nat) = 699 + 1 from rfl, eF, cif_pos wf, ra2, show r 2 + 1 - 1 = r 2 by omega, hra]
        rfl
      rw [eL] at k0 k1
      refine am_ci ?_
      refine aw_if_eq_n 30 dX0_readFleets_17 (by decide) (by decide) ?_
      refine a_al0 (by decide) dX0_readFleets_20 ?_
      refine a_al1 (by decide) dX0_readFleets_21 ?_
      refine aw_callV 4 0 0 dX0_readFleets_22 yw_X0_readFleet ml_X0_106 in_X0_readFleet se_X0_readFleet (ci := 0) rfl at_1 (as := [_]) rfl rfl ⟨by decide, by decide, by decide, Nat.le_of_ble_eq_true rfl⟩ ?_
      refine ac_readFleet (N := N) hT h0 y.1 hw r2.1 r2.2 (fun f a b => by omega) (fun z z3 h2' f2 g2 F2 c2 => ?_) (fun z h2' f2 fl => ?_)
      · have R2 : RdS h2' ra := by
          refine ⟨?_, ?_, ⟨by rw [ra2]; exact g2, by omega, by omega⟩, ?_, fun i i0 i1 => ?_, fun y a b => ?_, fun i j i0 ij jn => ?_⟩
          · rw [rao 0 (by decide), f2 15 0 (by omega) (by omega) (by decide)]; exact r0
          · rw [rao 1 (by decide), f2 15 1 (by omega) (by omega) (by decide)]; exact r1
          · rw [rao 3 (by decide), f2 15 3 (by omega) (by omega) (by decide)]; exact r3
          · rw [rao 3 (by decide)] at i1
            omega
          · rw [rao 3 (by decide)] at a
            rw [rao y (by omega)]
            exact rz y a b
          · rw [rao 3 (by decide)] at jn
            omega
        refine am_ci ?_
        refine aw_if_ne_y 63 dX0_readFleets_25 (by decide) (by decide) ?_
        refine a_iiR2 (by omega) rfl rfl dX0_readFleets_63 ?_
        refine aw_goto 2 dX0_readFleets_66 (by decide) ?_
        refine lf2 hT 17 700 699 ra (fltN S r N st) (flt8 S r N st) _ h2' z c2 R2 (by omega) (by rw [ra2]; exact F2) (by rw [ra2, rao 3 (by decide)]; omega) (by omega) (by rw [rao 3 (by decide)]; omega) (by omega) (fun z2 h3' f3 R3 q3 o3 => ?_) (fun z2 h3' f3 fl => ?_)
        · exact k1 z2 h3' (fun k y a b c d e => by rw [f3 k y (by omega) b c d e, f2 k y (by omega) (by omega) c]) R3 q3 (fun y a b c => by rw [o3 y a b c]; exact rao y b)
        · exact k0 z2 h3' (GF_trans (fun k y a b c => f2 k y (by omega) (by omega) b) f3) fl
      · rw [finL_e z] at k0
        dsimp only at k0
        rw [endAll_e z] at k0
        refine am_ci ?_
        refine aw_if_ne_n 63 dX0_readFleets_25 (by decide) (by decide) ?_
        refine aw_iconst dX0_readFleets_28 (by decide) ?_
        refine aw_zret dX0_readFleets_29 rfl (by omega) ?_
        exact k0 z h2' f2 fl
    · have wf : ¬ wdS S st (wO 38) := fun z => y (by rw [w3]; exact z.2)
      have nz : ¬ ((st.1, -2, aP S st.1) : PS).2.1 = 0 := by show ¬ (-2 : Int) = 0; decide
      have eD : ldD S (r, st) = (r, (st.1, -2, aP S st.1)) := by
        unfold ldD
        dsimp only
        rw [cif_neg wf, failS_0 h0]
      have eL : ldE S N (ldD S (r, st)) = (r, (st.1, -2, aP S st.1)) := by
        rw [eD]
        exact fltL_e nz 700
      rw [eL] at k0
      dsimp only at k0
      rw [endAll_e nz] at k0
      refine am_ci ?_
      refine aw_if_eq_y 30 dX0_readFleets_17 (by decide) (by decide) ?_
      refine a_al1 (by decide) dX0_readFleets_30 ?_
      refine aw_get 2 dX0_readFleets_31 fl_X0_109 at_15 rfl ?_
      refine aw_if_le 69 dX0_readFleets_34 (by decide) (fun c34 => ?_) (fun c34 => ?_)
      · refine a_al1 (by decide) dX0_readFleets_69 ?_
        refine aw_get 2 dX0_readFleets_70 fl_X0_109 at_15 rfl ?_
        refine aw_if_le 86 dX0_readFleets_73 (by decide) (fun c73 => ?_) (fun c73 => ?_)
        · refine a_al0 (by decide) dX0_readFleets_86 ?_
          refine aw_getR (r := 2) 0 rfl dX0_readFleets_87 fl_X0_12 at_1 rfl rfl ?_
          refine aw_bipush dX0_readFleets_90 (by decide) ?_
          refine aw_callV 1 0 0 dX0_readFleets_92 yw_X5_failHere ml_X0_89 in_X5_failHere se_X5_failHere (ci := 4) rfl at_2 (as := [_]) rfl rfl ⟨by decide, by decide, by decide, Nat.le_of_ble_eq_true rfl⟩ ?_
          refine ac_failHere ?_
          refine am_ci ?_
          refine aw_if_eq_y 102 dX0_readFleets_95 (by decide) (by decide) ?_
          refine aw_iconst dX0_readFleets_102 (by decide) ?_
          refine aw_zret dX0_readFleets_103 rfl (by omega) ?_
          exact k0 nz _ (GF_E (cEF_up (by decide) (cEF_up (by decide) (cTF_E (cTF_refl h))))) ⟨by rw [up_ne (by omega), up_at], by rw [up_at, e4]⟩
        · exfalso
          omega
      · exfalso
        omega
