/-! the class: all shifts of its text -/
theorem shftN_e {S : Int → Int} {r : Int → Int} {st : PS} (h : ¬ st.2.1 = 0) : ∀ k : Nat, shftN S k r st = (r, st)
  | 0 => rfl
  | k + 1 => cif_neg (fun q => h q.1)
theorem shft8_6 {S : Int → Int} {r : Int → Int} {st : PS} (h0 : st.2.1 = 0) (h9 : r 9 = 8) : shft8 S r st = (st.1, -6, aP S st.1) := by
  have n : ¬ ((st.1, -6, aP S st.1) : PS).2.1 = 0 := by show ¬ (-6 : Int) = 0; decide
  have s3 : shft3 S r st = (st.1, -6, aP S st.1) := by
    unfold shft3
    rw [if_pos h9, failS_0 h0]
    exact mustS_e n
  have s5 : shft5 S r st = (st.1, -6, aP S st.1) := by
    unfold shft5
    rw [s3, standS_e n, failS_e n]
    have : ∀ P : Prop, cif P ((st.1, -6, aP S st.1) : PS) (st.1, -6, aP S st.1) = (st.1, -6, aP S st.1) := fun P => by
      unfold cif
      split <;> rfl
    rw [this]
    exact mustS_e n
  unfold shft8 shft6
  rw [s5, takeS_e n, takeS_e n, endS_e n]
theorem rs2 {S : Int → Int} {L : Int} {K : AO → Nat → AH → Prop} (hT : TxS S L) : ∀ (k : Nat) (r : Int → Int) (st : PS) (n : Int) (h : AH), st.2.1 = 0 → CW S L st.1 h → ShS h r → n = r 9 → 10 ≤ k + r 9 → ((shftN S k r st).2.2.1 = 0 → ∀ h', (∀ k x, ¬ (k = 2 ∧ 4 ≤ x ∧ x ≤ 7) → ¬ (k = 15 ∧ x = 7) → k ≠ 19 → h' k x = h k x) → ShS h' (shftN S k r st).1 → CW S L (shftN S k r st).2.1 h' → K (.inl (some (0, 1))) 159 h') → (¬ (shftN S k r st).2.2.1 = 0 → ∀ h', GF h h' → CFl (shftN S k r st).2 h' → K (.inl (some (0, 0))) 159 h') → AW mX0_readShifts 6 0 0 K 159 2 [(2, 1), (2, 15), (0, n)] [] h
  | 0, r, st, n, h, h0, hw, hS, hn, hk, k1, k0 => by
    have := hS.1.2.2
    exfalso
    omega
  | k + 1, r, st, n, h, h0, hw, hS, hn, hk, k1, k0 => by
    have hw2 := hw
    obtain ⟨x, p, e4, e5⟩ := hw2
    obtain ⟨-, -, w2, -⟩ := wO_s
    obtain ⟨s7, s0, s8⟩ := hS.1
    refine a_il2 dX0_readShifts_2 ?_
    refine aw_bipush dX0_readShifts_3 (by decide) ?_
    refine aw_icmp_gt 55 dX0_readShifts_5 (by decide) (fun c5 => ?_) (fun c5 => ?_)
    · exfalso
      omega
    · refine a_al0 (by decide) dX0_readShifts_8 ?_
      refine aw_getR (r := 2) 0 rfl dX0_readShifts_9 fl_X0_12 at_1 rfl rfl ?_
      refine aw_ldcS (i := 2) dX0_readShifts_12 rfl ⟨rfl, rfl⟩ 2002 rfl ?_
      refine aw_callV 5 0 0 dX0_readShifts_14 yw_X5_isWord ml_X0_75 in_X5_isWord se_X5_isWord (ci := 4) rfl at_2 (as := [_]) rfl rfl ⟨by decide, by decide, by decide, Nat.le_of_ble_eq_true rfl⟩ ?_
      refine ac_isWordX5 (i := 2) hT x p e4 e5 rfl rfl (by decide) (fun y => ?_) (fun y => ?_)
      · have q : wdS S st (wO 37) := ⟨h0, by rw [← w2]; exact y⟩
        have eN : shftN S (k + 1) r st = shftN S k (shftR S r st) (shft8 S r st) := cif_pos q
        rw [eN] at k0 k1
        refine am_ci ?_
        refine aw_if_eq_n 55 dX0_readShifts_17 (by decide) (by decide) ?_
        refine a_al1 (by decide) dX0_readShifts_20 ?_
        refine aw_get 7 dX0_readShifts_21 fl_X0_86 at_15 rfl ?_
        refine aw_bipush dX0_readShifts_24 (by decide) ?_
        refine aw_icmp_lt 39 dX0_readShifts_26 (by decide) (fun c26 => ?_) (fun c26 => ?_)
        · have h9 : r 9 ≤ 7 := by omega
          refine a_al0 (by decide) dX0_readShifts_39 ?_
          refine a_al1 (by decide) dX0_readShifts_40 ?_
          refine aw_callV 4 0 0 dX0_readShifts_41 yw_X0_readShift ml_X0_93 in_X0_readShift se_X0_readShift (ci := 0) rfl at_1 (as := [_]) rfl rfl ⟨by decide, by decide, by decide, Nat.le_of_ble_eq_true rfl⟩ ?_
          refine ac_readShift hT h0 y.1 hw hS h9 (fun z h1 f1 s1 c1 => ?_) (fun z h1 f1 fl => ?_)
          · have n9 : shftR S r st 9 = r 9 + 1 := by
              unfold shftR shfR
              exact upr_at _ _ _
            refine am_ci ?_
            refine aw_if_ne_y 49 dX0_readShifts_44 (by decide) (by decide) ?_
            refine a_iiR2 (by omega) rfl rfl dX0_readShifts_49 ?_
            refine aw_goto 2 dX0_readShifts_52 (by decide) ?_
            refine rs2 hT k (shftR S r st) (shft8 S r st) (n + 1) h1 z c1 s1 (by omega) (by omega) (fun z2 h2 f2 s2 c2 => ?_) (fun z2 h2 f2 fl => ?_)
            · exact k1 z2 h2 (fun k y a b c => by rw [f2 k y (by omega) b c, f1 k y (by omega) b c]) s2 c2
            · exact k0 z2 h2 (GF_trans (fun k y a b c => f1 k y (by omega) (by omega) (by omega)) f2) fl
          · rw [shftN_e z] at k0
            refine am_ci ?_
            refine aw_if_ne_n 49 dX0_readShifts_44 (by decide) (by decide) ?_
            refine aw_iconst dX0_readShifts_47 (by decide) ?_
            refine aw_zret dX0_readShifts_48 rfl (by omega) ?_
            exact k0 z h1 f1 fl
        · have h9 : r 9 = 8 := by omega
          have e8 := shft8_6 (S := S) h0 h9
          have n : ¬ (shft8 S r st).2.1 = 0 := by rw [e8]; show ¬ (-6 : Int) = 0; decide
          rw [shftN_e n, e8] at k0
          refine a_al0 (by decide) dX0_readShifts_29 ?_
          refine aw_getR (r := 2) 0 rfl dX0_readShifts_30 fl_X0_12 at_1 rfl rfl ?_
          refine aw_bipush dX0_readShifts_33 (by decide) ?_
          refine aw_callV 1 0 0 dX0_readShifts_35 yw_X5_failHere ml_X0_89 in_X5_failHere se_X5_failHere (ci := 4) rfl at_2 (as := [_]) rfl rfl ⟨by decide, by decide, by decide, Nat.le_of_ble_eq_true rfl⟩ ?_
          refine ac_failHere ?_
          refine am_ci ?_
          refine aw_zret dX0_readShifts_38 rfl (by omega) ?_
          exact k0 (by show ¬ (-6 : Int) = 0; decide) _ (GF_E (cEF_up (by decide) (cEF_up (by decide) (cTF_E (cTF_refl h))))) ⟨by rw [up_ne (by omega), up_at], by rw [up_at, e4]⟩
      · have q : ¬ wdS S st (wO 37) := fun z => y (by rw [w2]; exact z.2)
        have eN : shftN S (k + 1) r st = (r, st) := cif_neg q
        rw [eN] at k1
        refine am_ci ?_
        refine aw_if_eq_y 55 dX0_readShifts_17 (by decide) (by decide) ?_
        refine aw_iconst dX0_readShifts_55 (by decide) ?_
        refine aw_zret dX0_readShifts_56 rfl (by omega) ?_
        exact k1 h0 h (fun _ _ _ _ _ => rfl) hS hw
theorem ac_readShifts {S : Int → Int} {L : Int} {r : Int → Int} {st : PS} {h : AH} {K : AO → Nat → AH → Prop} (hT : TxS S L) (h0 : st.2.1 = 0) (hw : CW S L st.1 h) (hS : ShS h r) (h9 : r 9 = 0) (k1 : (shftN S 700 r st).2.2.1 = 0 → ∀ h', (∀ k x, ¬ (k = 2 ∧ 4 ≤ x ∧ x ≤ 7) → ¬ (k = 15 ∧ x = 7) → k ≠ 19 → h' k x = h k x) → ShS h' (shftN S 700 r st).1 → CW S L (shftN S 700 r st).2.1 h' → K (.inl (some (0, 1))) 159 h') (k0 : ¬ (shftN S 700 r st).2.2.1 = 0 → ∀ h', GF h h' → CFl (shftN S 700 r st).2 h' → K (.inl (some (0, 0))) 159 h') : AC mX0_readShifts 6 0 0 159 [(2, 1), (2, 15)] h K := by
  refine ac_of (ls := [(2, 1), (2, 15), (9, 0)]) pn_X0 rfl (Nat.le_of_ble_eq_true rfl) rfl ?_
  refine aw_iconst dX0_readShifts_0 (by decide) ?_
  refine a_is2 rfl rfl dX0_readShifts_1 ?_
  exact rs2 hT 700 r st 0 h h0 hw hS h9.symm (by omega) k1 k0
