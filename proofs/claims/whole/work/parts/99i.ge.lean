/-! the class: a sheet of its text -/
theorem shftN_f {S : Int → Int} : ∀ (k : Nat) (r : Int → Int) (st : PS), st.2.1 = 0 → 0 ≤ r 9 ∧ r 9 ≤ 8 → (shftN S k r st).2.2.1 = 0 → ∀ x, x < 9 ∨ 34 ≤ x → (shftN S k r st).1 x = r x
  | 0, _, _, _, _, _, _, _ => rfl
  | k + 1, r, st, h0, h9, hz, x, hx => by
    have e : shftN S (k + 1) r st = cif (wdS S st (wO 37)) (shftN S k (shftR S r st) (shft8 S r st)) (r, st) := rfl
    by_cases q : wdS S st (wO 37)
    · rw [e, cif_pos q] at hz ⊢
      by_cases z : (shft8 S r st).2.1 = 0
      · have n8 : r 9 ≠ 8 := fun w => by
          rw [shft8_6 h0 w] at z
          exact absurd z (by show ¬ (-6 : Int) = 0; decide)
        have s9 : shftR S r st 9 = r 9 + 1 := by
          unfold shftR shfR
          exact upr_at _ _ _
        rw [shftN_f k _ _ z (by omega) hz x hx]
        unfold shftR shfR
        rw [upr_ne (by omega), upr_ne (by omega), upr_ne (by omega), upr_ne (by omega)]
      · rw [shftN_e z] at hz
        exact absurd hz z
    · rw [e, cif_neg q]
/-- the sheet that was read, and its row -/
def LdS (h : AH) (R : Int → Int) : Prop := RdS h R ∧ 1 ≤ R 2 ∧ ShS h R ∧ (h 15 4 = 0 ∧ h 15 8 = 0) ∧ (h 15 5 = R 5 ∧ 0 ≤ h 15 5 ∧ h 15 5 ≤ 7) ∧ (h 15 6 = R 6 ∧ 0 ≤ h 15 6 ∧ h 15 6 ≤ 9) ∧ (∀ i, 0 ≤ i → i < 12 → h 18 i = 37449) ∧ (∀ f, 0 ≤ f → f < 4 → h 21 f = 0 ∧ h 22 f = -1) ∧ (R 4 = 0 ∧ R 7 = 0 ∧ R 8 = 0) ∧ ∀ x, 34 ≤ x → x < 46 → R x = 0
theorem endAll_z {S : Int → Int} {st : PS} (h : (endAll S st).2.1 = 0) : st.2.1 = 0 := by
  by_cases z : st.2.1 = 0
  · exact z
  · rw [endAll_e z] at h
    exact absurd h z
/-- an error at the begin is the error at the end -/
theorem ld_e {S : Int → Int} {N : Int → Int} {q : (Int → Int) × PS} (h : ¬ q.2.2.1 = 0) : ldB S q = q ∧ ldC S q = q ∧ ldE S N (ldD S q) = q := by
  refine ⟨cif_neg (fun z => h z.1), shftN_e h 700, ?_⟩
  have e : ldD S q = q := by
    unfold ldD
    rw [failS_e h, cif_sm]
  rw [e]
  exact fltL_e h 700
theorem ac_readSheet {S : Int → Int} {L : Int} {r N : Int → Int} {h : AH} {K : AO → Nat → AH → Prop} (hT : TxS S L) (hx : cTx S L h) (hr : ∀ x, 0 ≤ x → x < 1256 → x ≠ 6 → r x = 0) (h6 : r 6 = 5) (k1 : (LDe S r N).2.1 = 0 → ∀ h', GF h h' → LdS h' (LD S r N).1 → h' 2 3 = -1 → K (.inl (some (0, 1))) 159 h') (k0 : ¬ (LDe S r N).2.1 = 0 → ∀ h', GF h h' → CFl (LDe S r N) h' → K (.inl (some (0, 0))) 159 h') : AC mX0_readSheet 10 0 0 159 [(2, 1), (2, 15)] h K := by
  have hLL := hT.1
  obtain ⟨A, hA⟩ : ∃ A, A = ldA S r := ⟨_, rfl⟩
  obtain ⟨B, hB⟩ : ∃ B, B = ldB S A := ⟨_, rfl⟩
  obtain ⟨C, hC⟩ : ∃ C, C = ldC S B := ⟨_, rfl⟩
  have dL : LD S r N = ldE S N (ldD S C) := by rw [hC, hB, hA]; rfl
  have dE : LDe S r N = endAll S (ldE S N (ldD S C)).2 := by unfold LDe; rw [dL]
  have dC : C = shftN S 700 B.1 B.2 := hC
  rw [dL] at k1
  rw [dE] at k0 k1
  have A1 : ∀ x, x ≠ 0 → x ≠ 1 → A.1 x = r x := fun x a b => by
    rw [hA]
    unfold ldA
    dsimp only
    rw [upr_ne b, upr_ne a]
  have B1 : ∀ x, x ≠ 5 → x ≠ 6 → B.1 x = A.1 x := fun x a b => by
    rw [hB]
    unfold ldB
    by_cases z : wdS S A.2 (wO 36)
    · rw [cif_pos z]
      dsimp only
      rw [upr_ne b, upr_ne a]
    · rw [cif_neg z]
  refine ac_of (ls := [(2, 1), (2, 15)]) pn_X0 rfl (Nat.le_of_ble_eq_true rfl) rfl ?_
  refine a_al0 (by decide) dX0_readSheet_0 ?_
  refine aw_getR (r := 2) 0 rfl dX0_readSheet_1 fl_X0_12 at_1 rfl rfl ?_
  refine aw_callV 1 0 0 dX0_readSheet_4 yw_X5_begin ml_X0_22 in_X5_begin se_X5_begin (ci := 4) rfl at_2 (as := []) rfl rfl ⟨by decide, by decide, by decide, Nat.le_of_ble_eq_true rfl⟩ ?_
  refine ac_beginT ?_
  refine am_cv ?_
  refine a_al1 (by decide) dX0_readSheet_7 ?_
  refine aw_callV 3 0 0 dX0_readSheet_8 yw_X3_clear ml_X0_25 in_X3_clear se_X3_clear (ci := 2) rfl at_15 (as := []) rfl rfl ⟨by decide, by decide, by decide, Nat.le_of_ble_eq_true rfl⟩ ?_
  refine ac_clear (Or.inr rfl) ?_
  obtain ⟨h1, hh1⟩ : ∃ h1, h1 = fillH (fillH (fillH (clrF (up (up (up (up h 2 4 0) 2 5 0) 2 2 0) 2 3 (-1)) 15) (15 + 6) 4 0) (15 + 3) 12 37449) (15 + 7) 4 (-1) := ⟨_, rfl⟩
  have F1 : ∀ k x, ¬ (k = 2 ∧ 2 ≤ x ∧ x ≤ 5) → ¬ (k = 15 ∧ 0 ≤ x ∧ x ≤ 8) → k ≠ 18 → k ≠ 21 → k ≠ 22 → h1 k x = h k x := fun k x a b c d e => by
    rw [hh1]
    unfold fillH clrF
    rw [if_neg (by omega), if_neg (by omega), if_neg (by omega)]
    simp (disch := omega) only [up_ne]
  have z2 : h1 2 5 = 0 ∧ h1 2 3 = -1 := by
    rw [hh1]
    unfold fillH clrF
    constructor
    · rw [if_neg (by omega), if_neg (by omega), if_neg (by omega)]
      simp (disch := omega) only [up_ne, up_at]
    · rw [if_neg (by omega), if_neg (by omega), if_neg (by omega)]
      simp (disch := omega) only [up_ne, up_at]
  have z15 : ∀ x, 0 ≤ x → x ≤ 8 → h1 15 x = if x = 6 then 5 else 0 := fun x a b => by
    rw [hh1]
    unfold fillH clrF
    rw [if_neg (by omega), if_neg (by omega), if_neg (by omega)]
    rcases (show x = 0 ∨ x = 1 ∨ x = 2 ∨ x = 3 ∨ x = 4 ∨ x = 5 ∨ x = 6 ∨ x = 7 ∨ x = 8 by omega) with z | z | z | z | z | z | z | z | z <;> subst z <;> simp (disch := omega) only [up_ne, up_at] <;> rfl
  have z18 : ∀ i, 0 ≤ i → i < 12 → h1 18 i = 37449 := fun i a b => by
    rw [hh1]
    unfold fillH
    rw [if_neg (by omega), if_pos (by omega)]
  have z21 : ∀ f, 0 ≤ f → f < 4 → h1 21 f = 0 ∧ h1 22 f = -1 := fun f a b => by
    rw [hh1]
    unfold fillH
    constructor
    · rw [if_neg (by omega), if_neg (by omega), if_pos (by omega)]
    · rw [if_pos (by omega)]
  rw [← hh1]
  clear hh1
  have G1 : GF h h1 := fun k x a b c => F1 k x (by omega) (by omega) (by omega) (by omega) (by omega)
  refine am_cv ?_
  refine a_al0 (by decide) dX0_readSheet_11 ?_
  refine a_al1 (by decide) dX0_readSheet_12 ?_
  refine aw_callV 7 0 0 dX0_readSheet_13 yw_X0_readSize ml_X0_30 in_X0_readSize se_X0_readSize (ci := 0) rfl at_1 (as := [_]) rfl rfl ⟨by decide, by decide, by decide, Nat.le_of_ble_eq_true rfl⟩ ?_
  refine ac_readSize (r := r) hT ⟨cTx_G G1 hx, by omega, z2.1⟩ (fun q1 h2 f2 e0 e1 r0 r1 c2 => ?_) (fun q1 h2 f2 fl => ?_)
  · rw [← hA] at q1 e0 e1 c2
    have g5 : h2 15 5 = A.1 5 ∧ 0 ≤ h2 15 5 ∧ h2 15 5 ≤ 7 := by
      have e : h2 15 5 = 0 := by rw [f2 15 5 (by omega) (by omega), z15 5 (by decide) (by decide)]; rfl
      rw [e, A1 5 (by decide) (by decide), hr 5 (by decide) (by decide) (by decide)]
      decide
    have g6 : h2 15 6 = A.1 6 ∧ 0 ≤ h2 15 6 ∧ h2 15 6 ≤ 9 := by
      have e : h2 15 6 = 5 := by rw [f2 15 6 (by omega) (by omega), z15 6 (by decide) (by decide)]; rfl
      rw [e, A1 6 (by decide) (by decide), h6]
      decide
    refine am_ci ?_
    refine aw_if_eq_n 47 dX0_readSheet_16 (by decide) (by decide) ?_
    refine a_al0 (by decide) dX0_readSheet_19 ?_
    refine a_al1 (by decide) dX0_readSheet_20 ?_
    refine aw_callV 6 0 0 dX0_readSheet_21 yw_X0_readWind ml_X0_34 in_X0_readWind se_X0_readWind (ci := 0) rfl at_1 (as := [_]) rfl rfl ⟨by decide, by decide, by decide, Nat.le_of_ble_eq_true rfl⟩ ?_
    refine ac_readWind (q := A) hT q1 c2 g5 g6 (fun q3 h3 f3 k5 k6 c3 => ?_) (fun q3 h3 f3 fl => ?_)
    · rw [← hB] at q3 k5 k6 c3
      have b9 : B.1 9 = 0 := by rw [B1 9 (by decide) (by decide), A1 9 (by decide) (by decide), hr 9 (by decide) (by decide) (by decide)]
      have s3 : ShS h3 B.1 := by
        refine ⟨⟨?_, by omega, by omega⟩, fun s a b => by omega⟩
        rw [f3 15 7 (by omega) (by omega), f2 15 7 (by omega) (by omega), z15 7 (by decide) (by decide), b9]
        rfl
      refine am_ci ?_
      refine aw_if_eq_n 47 dX0_readSheet_24 (by decide) (by decide) ?_
      refine a_al0 (by decide) dX0_readSheet_27 ?_
      refine a_al1 (by decide) dX0_readSheet_28 ?_
      refine aw_callV 6 0 0 dX0_readSheet_29 yw_X0_readShifts ml_X0_37 in_X0_readShifts se_X0_readShifts (ci := 0) rfl at_1 (as := [_]) rfl rfl ⟨by decide, by decide, by decide, Nat.le_of_ble_eq_true rfl⟩ ?_
      refine ac_readShifts hT q3 c3 s3 b9 (fun q4 h4 f4 s4 c4 => ?_) (fun q4 h4 f4 fl => ?_)
      · have C1 : ∀ x, x < 9 ∨ 34 ≤ x → C.1 x = B.1 x := fun x a => by rw [dC]; exact shftN_f 700 B.1 B.2 q3 (by omega) q4 x a
        rw [← dC] at q4 s4 c4
        have Cr : ∀ x, x = 2 ∨ x = 3 ∨ x = 4 ∨ x = 7 ∨ x = 8 ∨ (34 ≤ x ∧ x < 1256) → C.1 x = 0 := fun x a => by
          rw [C1 x (by omega), B1 x (by omega) (by omega), A1 x (by omega) (by omega), hr x (by omega) (by omega) (by omega)]
        have H4 : ∀ k x, ¬ (k = 2 ∧ 4 ≤ x ∧ x ≤ 7) → ¬ (k = 15 ∧ (x = 0 ∨ x = 1 ∨ x = 5 ∨ x = 6 ∨ x = 7)) → k ≠ 19 → h4 k x = h1 k x := fun k x a b c => by
          rw [f4 k x (by omega) (by omega) c, f3 k x (by omega) (by omega), f2 k x (by omega) (by omega)]
        have R4 : RdS h4 C.1 := by
          refine ⟨⟨?_, ?_⟩, ⟨?_, ?_⟩, ⟨?_, ?_⟩, ⟨?_, ?_⟩, fun i a b => ?_, fun x a b => ?_, fun i j i0 ij jn => ?_⟩
          · rw [f4 15 0 (by omega) (by omega) (by decide), f3 15 0 (by omega) (by omega), e0, C1 0 (by decide), B1 0 (by decide) (by decide)]
          · rw [C1 0 (by decide), B1 0 (by decide) (by decide), ← e0]; exact r0
          · rw [f4 15 1 (by omega) (by omega) (by decide), f3 15 1 (by omega) (by omega), e1, C1 1 (by decide), B1 1 (by decide) (by decide)]
          · rw [C1 1 (by decide), B1 1 (by decide) (by decide), ← e1]; exact r1
          · rw [H4 15 2 (by omega) (by omega) (by decide), z15 2 (by decide) (by decide), Cr 2 (by decide)]; rfl
          · rw [Cr 2 (by decide)]; decide
          · rw [H4 15 3 (by omega) (by omega) (by decide), z15 3 (by decide) (by decide), Cr 3 (by decide)]; rfl
          · rw [Cr 3 (by decide)]; decide
          · rw [Cr 3 (by decide)] at b
            omega
          · rw [Cr 3 (by decide)] at a
            exact Cr x (by omega)
          · rw [Cr 3 (by decide)] at jn
            omega
        have G4 : GF h h4 := fun k x a b c => by rw [H4 k x (by omega) (by omega) (by omega)]; exact G1 k x a b c
        refine am_ci ?_
        refine aw_if_eq_n 47 dX0_readSheet_32 (by decide) (by decide) ?_
        refine a_al0 (by decide) dX0_readSheet_35 ?_
        refine a_al1 (by decide) dX0_readSheet_36 ?_
        refine aw_callV 9 0 0 dX0_readSheet_37 yw_X0_readFleets ml_X0_40 in_X0_readFleets se_X0_readFleets (ci := 0) rfl at_1 (as := [_]) rfl rfl ⟨by decide, by decide, by decide, Nat.le_of_ble_eq_true rfl⟩ ?_
        refine ac_readFleets (r := C.1) (st := C.2) (N := N) hT q4 c4 R4 (Cr 2 (by decide)) (Cr 3 (by decide)) (fun q5 h5 f5 R5 t5 o5 => ?_) (fun q5 h5 f5 fl => ?_)
        · skip
          refine am_ci ?_
          refine aw_if_eq_n 47 dX0_readSheet_40 (by decide) (by decide) ?_
          refine aw_iconst dX0_readSheet_43 (by decide) ?_
          refine aw_goto 48 dX0_readSheet_44 (by decide) ?_
          refine aw_zret dX0_readSheet_48 rfl (by omega) ?_
          have H5 : ∀ k x, ¬ (k = 2 ∧ 4 ≤ x ∧ x ≤ 7) → ¬ (k = 15 ∧ (x = 2 ∨ x = 3)) → k ≠ 4 → k ≠ 16 → k ≠ 17 → h5 k x = h4 k x := f5
          have O : ∀ x, x < 46 → x ≠ 2 → x ≠ 3 → (ldE S N (ldD S C)).1 x = C.1 x := fun x a b c => o5 x (Or.inl a) b c
          refine k1 q5 h5 (GF_trans G4 (fun k y a b c => f5 k y (by omega) (by omega) b (by omega) (by omega))) ⟨R5, t5, ?_, ⟨?_, ?_⟩, ?_, ?_, fun i a b => ?_, fun f a b => ?_, ⟨?_, ?_, ?_⟩, fun x a b => ?_⟩ ?_
          · obtain ⟨⟨p1, p2, p3⟩, p4⟩ := s4
            unfold ShS
            rw [O 9 (by decide) (by decide) (by decide), H5 15 7 (by omega) (by omega) (by decide) (by decide) (by decide)]
            refine ⟨⟨p1, p2, p3⟩, fun s a b => ?_⟩
            obtain ⟨p5, p6, p7⟩ := p4 s a b
            rw [O (10 + 3 * s + 1) (by omega) (by omega) (by omega), O (10 + 3 * s + 2) (by omega) (by omega) (by omega)]
            refine ⟨fun w w0 w1 => ?_, p6, p7⟩
            rw [O (10 + 3 * s + w) (by omega) (by omega) (by omega), H5 19 _ (by omega) (by omega) (by decide) (by decide) (by decide)]
            exact p5 w w0 w1
          · rw [H5 15 4 (by omega) (by omega) (by decide) (by decide) (by decide), H4 15 4 (by omega) (by omega) (by decide), z15 4 (by decide) (by decide)]
            rfl
          · rw [H5 15 8 (by omega) (by omega) (by decide) (by decide) (by decide), H4 15 8 (by omega) (by omega) (by decide), z15 8 (by decide) (by decide)]
            rfl
          · rw [H5 15 5 (by omega) (by omega) (by decide) (by decide) (by decide), f4 15 5 (by omega) (by omega) (by decide), O 5 (by decide) (by decide) (by decide), C1 5 (by decide)]
            exact k5
          · rw [H5 15 6 (by omega) (by omega) (by decide) (by decide) (by decide), f4 15 6 (by omega) (by omega) (by decide), O 6 (by decide) (by decide) (by decide), C1 6 (by decide)]
            exact k6
          · rw [H5 18 i (by omega) (by omega) (by decide) (by decide) (by decide), H4 18 i (by omega) (by omega) (by decide)]
            exact z18 i a b
          · rw [H5 21 f (by omega) (by omega) (by decide) (by decide) (by decide), H4 21 f (by omega) (by omega) (by decide), H5 22 f (by omega) (by omega) (by decide) (by decide) (by decide), H4 22 f (by omega) (by omega) (by decide)]
            exact z21 f a b
          · rw [O 4 (by decide) (by decide) (by decide)]; exact Cr 4 (by decide)
          · rw [O 7 (by decide) (by decide) (by decide)]; exact Cr 7 (by decide)
          · rw [O 8 (by decide) (by decide) (by decide)]; exact Cr 8 (by decide)
          · rw [O x b (by omega) (by omega)]; exact Cr x (by omega)
          · rw [H5 2 3 (by omega) (by omega) (by decide) (by decide) (by decide), H4 2 3 (by omega) (by omega) (by decide)]
            exact z2.2
        · refine am_ci ?_
          refine aw_if_eq_y 47 dX0_readSheet_40 (by decide) (by decide) ?_
          refine aw_iconst dX0_readSheet_47 (by decide) ?_
          refine aw_zret dX0_readSheet_48 rfl (by omega) ?_
          exact k0 q5 h5 (GF_trans G4 f5) fl
      · rw [← dC] at q4 fl
        obtain ⟨-, -, w3⟩ := ld_e (S := S) (N := N) q4
        rw [w3, endAll_e q4] at k0
        refine am_ci ?_
        refine aw_if_eq_y 47 dX0_readSheet_32 (by decide) (by decide) ?_
        refine aw_iconst dX0_readSheet_47 (by decide) ?_
        refine aw_zret dX0_readSheet_48 rfl (by omega) ?_
        exact k0 q4 h4 (GF_trans G1 (GF_trans (fun k y a b c => f2 k y (by omega) (by omega)) (GF_trans (fun k y a b c => f3 k y (by omega) (by omega)) f4))) fl
    · rw [← hB] at q3 fl
      obtain ⟨-, w2, w3⟩ := ld_e (S := S) (N := N) q3
      have eC : C = B := by rw [hC]; exact w2
      rw [eC, w3, endAll_e q3] at k0
      refine am_ci ?_
      refine aw_if_eq_y 47 dX0_readSheet_24 (by decide) (by decide) ?_
      refine aw_iconst dX0_readSheet_47 (by decide) ?_
      refine aw_zret dX0_readSheet_48 rfl (by omega) ?_
      exact k0 q3 h3 (GF_trans G1 (GF_trans (fun k y a b c => f2 k y (by omega) (by omega)) f3)) fl
  · rw [← hA] at q1 fl
    obtain ⟨w1, w2, w3⟩ := ld_e (S := S) (N := N) q1
    have eB : B = A := by rw [hB]; exact w1
    have eC : C = A := by rw [hC, eB]; exact w2
    rw [eC, w3, endAll_e q1] at k0
    refine am_ci ?_
    refine aw_if_eq_y 47 dX0_readSheet_16 (by decide) (by decide) ?_
    refine aw_iconst dX0_readSheet_47 (by decide) ?_
    refine aw_zret dX0_readSheet_48 rfl (by omega) ?_
    exact k0 q1 h2 (GF_trans G1 f2) fl
