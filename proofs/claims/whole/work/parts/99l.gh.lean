/-! the class: a ship that orders name -/
theorem and1 (y : Int) : i_and y 1 = 0 ∨ i_and y 1 = 1 := by
  unfold i_and
  obtain ⟨X, hX⟩ : ∃ X : BitVec 32, X = (Int32.ofInt y).toBitVec := ⟨_, rfl⟩
  have e : (Int32.ofInt y &&& Int32.ofInt 1).toBitVec = X &&& 1#32 := by rw [hX]; rfl
  have l : (X &&& 1#32).toNat ≤ 1 := by
    rw [BitVec.toNat_and]
    exact Nat.and_le_right
  show (Int32.ofInt y &&& Int32.ofInt 1).toBitVec.toInt = 0 ∨ (Int32.ofInt y &&& Int32.ofInt 1).toBitVec.toInt = 1
  rw [e, bv_toI (by omega)]
  omega
theorem ac_readNamed {S : Int → Int} {L f told : Int} {st : PS} {h g : AH} {K : AO → Nat → AH → Prop} (hT : TxS S L) (h0 : st.2.1 = 0) (hw : CW S L st.1 h) (hS : NS h g) (hU : UN g) (k1 : (wr4 S (g 141) f told st).2.1 = 0 → (0 ≤ wrI S (g 141) f st ∧ wrI S (g 141) f st < g 141 3) → fSail g f (wrI S (g 141) f st) → i_and (i_shr told (wrI S (g 141) f st)) 1 = 0 → ∀ h', cTF h h' → CE S L (wr4 S (g 141) f told st).1 h' → K (.inl (some (0, wrI S (g 141) f st))) 159 h') (k0 : ¬ (wr4 S (g 141) f told st).2.1 = 0 → ∀ h', cEF h h' → CFl (wr4 S (g 141) f told st) h' → K (.inl (some (0, -1))) 159 h') : AC mX0_readNamed 4 0 0 159 [(2, 1), (2, 15), (0, f), (0, told)] h K := by
  obtain ⟨x, p, e4, e5⟩ := hw
  have n3 := hS.1
  have d3 : h 15 3 = g 141 3 := hS.2.1
  obtain ⟨n1, n2⟩ := name_cs (S := S) h0
  have dI : wrI S (g 141) f st = if (nameS S st).2.1 = 0 then fstX (nmP S st.1 (g 141) f) (g 141 3) else -1 := rfl
  have d2 : wr2 S (g 141) f st = if wrI S (g 141) f st = -1 then failS S (-7) (nameS S st) else nameS S st := rfl
  have d4 : wr4 S (g 141) f told st = mustS S 1 (if i_and (i_shr told (wrI S (g 141) f st)) 1 = 1 then failS S (-4) (wr2 S (g 141) f st) else wr2 S (g 141) f st) := rfl
  have e4' : ∀ s : PS, ¬ s.2.1 = 0 → wr2 S (g 141) f st = s → wr4 S (g 141) f told st = s := fun s a b => by
    rw [d4, b, failS_e a]
    have : (if i_and (i_shr told (wrI S (g 141) f st)) 1 = 1 then s else s) = s := by split <;> rfl
    rw [this]
    exact mustS_e a
  refine ac_of (ls := [(2, 1), (2, 15), (0, f), (0, told), (9, 0)]) pn_X0 rfl (Nat.le_of_ble_eq_true rfl) rfl ?_
  refine a_al0 (by decide) dX0_readNamed_0 ?_
  refine aw_getR (r := 2) 0 rfl dX0_readNamed_1 fl_X0_12 at_1 rfl rfl ?_
  refine aw_callV 3 0 0 dX0_readNamed_4 yw_X5_nameHere ml_X0_194 in_X5_nameHere se_X5_nameHere (ci := 4) rfl at_2 (as := []) rfl rfl ⟨by decide, by decide, by decide, Nat.le_of_ble_eq_true rfl⟩ ?_
  refine ac_nameHere hT x p e4 e5 (fun q h1 f1 g4 g5 g7 => ?_) (fun q h1 f1 g2 g3 => ?_)
  · have nv := n1 q
    have hS1 : NS h1 g := NS_eq (f1 15 3 (by omega)) (fun y => f1 16 y (by omega)) (fun y => f1 17 y (by omega)) hS
    have hb := bP_rg hT p
    have ha := aP_rg hT p
    have hbe := (wE_0 hT p).1 q.1
    rw [nv, if_pos h0] at dI
    rw [nv] at d2
    refine am_ci ?_
    refine aw_if_ne_y 12 dX0_readNamed_7 (by decide) (by decide) ?_
    refine a_al1 (by decide) dX0_readNamed_12 ?_
    refine a_al0 (by decide) dX0_readNamed_13 ?_
    refine aw_getR (r := 2) 0 rfl dX0_readNamed_14 fl_X0_12 at_1 rfl rfl ?_
    refine aw_get 7 dX0_readNamed_17 fl_X0_127 at_2 rfl ?_
    refine aw_callV 1 0 0 dX0_readNamed_20 yw_X3_shipNamed ml_X0_131 in_X3_shipNamed se_X3_shipNamed (ci := 2) rfl at_15 (as := [_]) rfl rfl ⟨by decide, by decide, by decide, Nat.le_of_ble_eq_true rfl⟩ ?_
    rw [g7]
    refine ac_shipNamed (Or.inr rfl) (by rw [f1 15 3 (by omega), d3]; exact n3) (fun y hy => ?_)
    rw [f1 15 3 (by omega), d3] at hy
    obtain ⟨X1, X2, X3⟩ := named_X (f := f) hT p q.1 q.2 hS1 hU hy
    have N : ¬ (¬ y = -1 ∧ fSail g f y) → wr4 S (g 141) f told st = (st.1, -7, aP S st.1) := fun z => by
      have e := fstX_eq (X2 z)
      rw [e] at dI
      rw [if_pos dI, failS_0 h0] at d2
      exact e4' _ (by show ¬ (-7 : Int) = 0; decide) d2
    have J41 : ¬ (¬ y = -1 ∧ fSail g f y) → AW mX0_readNamed 4 0 0 K 159 41 [(2, 1), (2, 15), (0, f), (0, told), (0, y)] [] h1 := fun z => by
      have e := N z
      rw [e] at k0
      refine a_al0 (by decide) dX0_readNamed_41 ?_
      refine aw_getR (r := 2) 0 rfl dX0_readNamed_42 fl_X0_12 at_1 rfl rfl ?_
      refine aw_bipush dX0_readNamed_45 (by decide) ?_
      refine aw_callV 1 0 0 dX0_readNamed_47 yw_X5_failHere ml_X0_89 in_X5_failHere se_X5_failHere (ci := 4) rfl at_2 (as := [_]) rfl rfl ⟨by decide, by decide, by decide, Nat.le_of_ble_eq_true rfl⟩ ?_
      refine ac_failHere ?_
      refine am_ci ?_
      refine aw_pop dX0_readNamed_50 rfl ?_
      refine aw_iconst dX0_readNamed_51 (by decide) ?_
      refine aw_iret dX0_readNamed_52 rfl ?_
      exact k0 (by show ¬ (-7 : Int) = 0; decide) _ (cEF_trans (cTF_E f1) (cEF_up (by decide) (cEF_up (by decide) (cTF_E (cTF_refl h1))))) ⟨by rw [up_ne (by omega), up_at], by rw [up_at, g4]⟩
    refine am_ci ?_
    refine a_is4 rfl rfl dX0_readNamed_23 ?_
    refine a_il4 dX0_readNamed_25 ?_
    refine aw_iconst dX0_readNamed_27 (by decide) ?_
    refine aw_icmp_eq 41 dX0_readNamed_28 (by decide) (fun c28 => ?_) (fun c28 => ?_)
    · skip
      exact J41 (fun z => z.1 (by omega))
    · have y0 : ¬ y = -1 := by assumption
      have yr := X3 y0
      refine a_al1 (by decide) dX0_readNamed_31 ?_
      refine a_il2 dX0_readNamed_32 ?_
      refine a_il4 dX0_readNamed_33 ?_
      refine aw_callV 3 0 0 dX0_readNamed_35 yw_X3_isFloatingIn ml_X0_197 in_X3_isFloatingIn se_X3_isFloatingIn (ci := 2) rfl at_15 (as := [_, _]) rfl rfl ⟨by decide, by decide, by decide, Nat.le_of_ble_eq_true rfl⟩ ?_
      refine ac_isFloatingIn (Or.inr rfl) (by omega) (fun z => ?_) (fun z => ?_)
      · have fs : fSail g f y := ((hS1.2.2 y yr.1 yr.2).2.2 f).mp z
        have eX := fstX_eq (X1 ⟨y0, fs⟩)
        rw [eX] at dI
        rw [if_neg (by rw [dI]; exact y0)] at d2
        rw [dI] at d4 k1
        have a1 := and1 (i_shr told y)
        refine am_ci ?_
        refine aw_if_ne_y 53 dX0_readNamed_38 (by decide) (by decide) ?_
        refine a_il3 dX0_readNamed_53 ?_
        refine a_il4 dX0_readNamed_54 ?_
        refine aw_ishr dX0_readNamed_56 ?_
        refine aw_iconst dX0_readNamed_57 (by decide) ?_
        refine aw_iand dX0_readNamed_58 ?_
        refine aw_if_eq 74 dX0_readNamed_59 (by decide) (fun c59 => ?_) (fun c59 => ?_)
        · have b0 : i_and (i_shr told y) 1 = 0 := by omega
          have e : wr4 S (g 141) f told st = (bP S st.1, 0, st.2.2) := by
            rw [d4, if_neg (by omega), d2]
            exact mustS_1 h0 rfl
          rw [e] at k1
          refine a_il4 dX0_readNamed_74 ?_
          refine aw_iret dX0_readNamed_76 rfl ?_
          exact k1 rfl yr fs b0 h1 f1 ⟨cTx_T f1 x, by dsimp only; omega, by dsimp only; rw [g5, hbe.1]⟩
        · have b1 : i_and (i_shr told y) 1 = 1 := by omega
          have e : wr4 S (g 141) f told st = (st.1, -4, aP S st.1) := by
            rw [d4, if_pos b1, d2, failS_0 h0]
            exact mustS_e (by show ¬ (-4 : Int) = 0; decide)
          rw [e] at k0
          refine a_al0 (by decide) dX0_readNamed_62 ?_
          refine aw_getR (r := 2) 0 rfl dX0_readNamed_63 fl_X0_12 at_1 rfl rfl ?_
          refine aw_bipush dX0_readNamed_66 (by decide) ?_
          refine aw_callV 1 0 0 dX0_readNamed_68 yw_X5_failHere ml_X0_89 in_X5_failHere se_X5_failHere (ci := 4) rfl at_2 (as := [_]) rfl rfl ⟨by decide, by decide, by decide, Nat.le_of_ble_eq_true rfl⟩ ?_
          refine ac_failHere ?_
          refine am_ci ?_
          refine aw_pop dX0_readNamed_71 rfl ?_
          refine aw_iconst dX0_readNamed_72 (by decide) ?_
          refine aw_iret dX0_readNamed_73 rfl ?_
          exact k0 (by show ¬ (-4 : Int) = 0; decide) _ (cEF_trans (cTF_E f1) (cEF_up (by decide) (cEF_up (by decide) (cTF_E (cTF_refl h1))))) ⟨by rw [up_ne (by omega), up_at], by rw [up_at, g4]⟩
      · refine am_ci ?_
        refine aw_if_ne_n 53 dX0_readNamed_38 (by decide) (by decide) ?_
        exact J41 (fun w => z (((hS1.2.2 y yr.1 yr.2).2.2 f).mpr w.2))
  · have nv := n2 q
    have nz : ¬ ((st.1, -2, aP S st.1) : PS).2.1 = 0 := by show ¬ (-2 : Int) = 0; decide
    have wI : wrI S (g 141) f st = -1 := by
      rw [dI, nv]
      exact if_neg nz
    rw [if_pos wI, nv, failS_e nz] at d2
    have e := e4' _ nz d2
    rw [e] at k0
    refine am_ci ?_
    refine aw_if_ne_n 12 dX0_readNamed_7 (by decide) (by decide) ?_
    refine aw_iconst dX0_readNamed_10 (by decide) ?_
    refine aw_iret dX0_readNamed_11 rfl ?_
    exact k0 nz h1 f1 ⟨g2, g3⟩
