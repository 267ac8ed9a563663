/-! the class: what a turn would bring -/
theorem PS0_row {fl : Prop} {h g g2 : AH} {b : Int} (hn : g 141 3 ≤ 12) (hf : g 141 2 ≤ 4) (e : ∀ x, 0 ≤ x → x < 346 → x ≠ 8 → g2 141 x = g 141 x) (hP : PS0 fl h b g) : PS0 fl h b g2 := by
  obtain ⟨⟨d0, d1, d2, d3, d4, d5, d6⟩, hS, hp⟩ := hP
  have E3 := e 3 (by decide) (by decide) (by decide)
  have E2 := e 2 (by decide) (by decide) (by decide)
  refine ⟨⟨?_, ?_, ?_, ?_, ?_, ?_, ?_⟩, fun i i0 i1 => ?_, fun f f0 f1 => ?_⟩
  · rw [e 0 (by decide) (by decide) (by decide), d0]
  · rw [e 1 (by decide) (by decide) (by decide), d1]
  · rw [E2, d2]
  · rw [E3, d3]
  · rw [e 4 (by decide) (by decide) (by decide), d4]
  · rw [e 5 (by decide) (by decide) (by decide), d5]
  · rw [e 6 (by decide) (by decide) (by decide), d6]
  · rw [E3] at i1
    obtain ⟨s1, s2, s3, s4⟩ := hS i i0 i1
    refine ⟨fun w w0 w1 => ?_, ?_, fun q => ?_, fun p p0 p1 => ?_⟩
    · rw [e _ (by omega) (by omega) (by omega)]
      exact s1 w w0 w1
    · rw [e _ (by omega) (by omega) (by omega)]
      exact s2
    · rw [e _ (by omega) (by omega) (by omega)]
      exact s3 q
    · rw [e _ (by omega) (by omega) (by omega)]
      exact s4 p p0 p1
  · rw [E2] at f1
    rw [e _ (by omega) (by omega) (by omega)]
    exact hp f f0 f1
theorem PO_row {g g2 : AH} (hn : g 141 3 ≤ 12) (e : ∀ x, 0 ≤ x → x < 346 → x ≠ 8 → x ≠ 5 → x ≠ 6 → g2 141 x = g 141 x) (hO : PO g) : PO g2 := by
  intro i i0 i1
  rw [e 3 (by decide) (by decide) (by decide) (by decide) (by decide)] at i1
  rw [e (46 + 25 * i + 0) (by omega) (by omega) (by omega) (by omega) (by omega), e (46 + 25 * i + 10) (by omega) (by omega) (by omega) (by omega) (by omega), e (46 + 25 * i + 1) (by omega) (by omega) (by omega) (by omega) (by omega), e (46 + 25 * i + 2) (by omega) (by omega) (by omega) (by omega) (by omega), e 0 (by decide) (by decide) (by decide) (by decide) (by decide), e 1 (by decide) (by decide) (by decide) (by decide) (by decide), e 2 (by decide) (by decide) (by decide) (by decide) (by decide)]
  exact hO i i0 i1
def mShift (g : AH) (x : Int) : AH := if x = -1 then g else up (up g 141 5 (g 141 (10 + 3 * x + 1))) 141 6 (g 141 (10 + 3 * x + 2))
/-- shifts are told alike -/
def ShRel (h : AH) (b : Int) (g : AH) : Prop := h b 7 = g 141 9 ∧ ∀ s w, 0 ≤ s → s < g 141 9 → 0 ≤ w → w ≤ 2 → h (b + 4) (s * 3 + w) = g 141 (10 + 3 * s + w)
theorem mShift_f {g : AH} {x k y : Int} (h1 : ¬ (k = 141 ∧ (y = 5 ∨ y = 6))) : mShift g x k y = g k y := by
  unfold mShift
  split
  · rfl
  · rw [up_ne (by omega), up_ne (by omega)]
theorem cShift_f {h : AH} {b x k y : Int} (h1 : ¬ (k = b ∧ (y = 5 ∨ y = 6))) : cShift h b x k y = h k y := by
  unfold cShift
  split
  · rfl
  · rw [up_ne (by omega), up_ne (by omega)]
theorem PS_shift {fl : Prop} {h g : AH} {b x : Int} (hB : b = 5 ∨ b = 15) (hP : PS0 fl h b g) (hR : ShRel h b g) (hx : x = -1 ∨ (0 ≤ x ∧ x < g 141 9)) : PS0 fl (cShift h b x) b (mShift g x) := by
  by_cases z : x = -1
  · unfold cShift mShift
    rw [if_pos z, if_pos z]
    exact hP
  · have hx2 := hx.resolve_left z
    obtain ⟨⟨d0, d1, d2, d3, d4, d5, d6⟩, hS, hp⟩ := hP
    have e1 := hR.2 x 1 hx2.1 hx2.2 (by decide) (by decide)
    have e2 := hR.2 x 2 hx2.1 hx2.2 (by decide) (by decide)
    have M : ∀ y, y ≠ 5 → y ≠ 6 → mShift g x 141 y = g 141 y := fun y a c => mShift_f (by omega)
    have E3 := M 3 (by decide) (by decide)
    have E2 := M 2 (by decide) (by decide)
    refine ⟨⟨?_, ?_, ?_, ?_, ?_, ?_, ?_⟩, fun i i0 i1 => ?_, fun f f0 f1 => ?_⟩
    · rw [M 0 (by decide) (by decide), cShift_f (by omega), d0]
    · rw [M 1 (by decide) (by decide), cShift_f (by omega), d1]
    · rw [E2, cShift_f (by omega), d2]
    · rw [E3, cShift_f (by omega), d3]
    · rw [M 4 (by decide) (by decide), cShift_f (by omega), d4]
    · unfold cShift mShift
      rw [if_neg z, if_neg z, up_ne (by omega), up_at, up_ne (by omega), up_at, e1]
    · unfold cShift mShift
      rw [if_neg z, if_neg z, up_at, up_at, e2]
    · rw [E3] at i1
      obtain ⟨s1, s2, s3, s4⟩ := hS i i0 i1
      refine ⟨fun w w0 w1 => ?_, ?_, fun q => ?_, fun p p0 p1 => ?_⟩
      · rw [M _ (by omega) (by omega), cShift_f (by omega)]
        exact s1 w w0 w1
      · rw [M _ (by omega) (by omega), cShift_f (by omega)]
        exact s2
      · rw [M _ (by omega) (by omega), cShift_f (by omega)]
        exact s3 q
      · rw [M _ (by omega) (by omega), cShift_f (by omega)]
        exact s4 p p0 p1
    · rw [E2] at f1
      rw [M _ (by omega) (by omega), cShift_f (by omega)]
      exact hp f f0 f1
/-- what a turn may begin with -/
def GS (h : AH) (b : Int) (g : AH) : Prop := gOk (rst g) 72 ∧ 0 ≤ g 141 4 ∧ PS0 True h b g ∧ PO g
theorem cSh_m {h g : AH} {b t j : Int} (hR : ShRel h b g) (hj : 0 ≤ j ∧ j < g 141 9) : cSh h b t j ↔ mSh g t j := by
  have e := hR.2 j 0 hj.1 hj.2 (by decide) (by decide)
  unfold cSh mSh
  rw [e, Int.add_zero]
theorem GS_shift {h g g0 : AH} {b x : Int} (hB : b = 5 ∨ b = 15) (hT : tOk g0) (hF : ∀ k y, ¬ (k = 141 ∧ (y = 8 ∨ 496 ≤ y)) → g k y = g0 k y) (hP : PS0 True h b g) (hO : PO g) (hR : ShRel h b g) (hx : x = -1 ∨ (0 ≤ x ∧ x < g 141 9)) : GS (cShift h b x) b (mShift g x) := by
  have hT2 := hT
  obtain ⟨⟨-, -, t5, t6⟩, -, t3, -, -, -, t9, t10, t4, -⟩ := hT2
  have G3 : g 141 3 = g0 141 3 := hF _ _ (by omega)
  have G9 : g 141 9 = g0 141 9 := hF _ _ (by omega)
  refine ⟨?_, ?_, PS_shift hB hP hR hx, ?_⟩
  · have e5 : (0 ≤ mShift g x 141 5 ∧ mShift g x 141 5 ≤ 7) ∧ (0 ≤ mShift g x 141 6 ∧ mShift g x 141 6 ≤ 9) := by
      unfold mShift
      by_cases z : x = -1
      · rw [if_pos z, hF 141 5 (by omega), hF 141 6 (by omega)]
        exact ⟨t5, t6⟩
      · have hx3 := hx.resolve_left z
        rw [if_neg z, up_ne (by omega), up_at, up_at, hF _ _ (by omega), hF _ _ (by omega)]
        exact t10 x hx3.1 (by omega)
    exact gOk_rst hT (fun k y a => by rw [mShift_f (by omega), hF _ _ (by omega)]) e5.1 e5.2
  · rw [mShift_f (by omega), hF _ _ (by omega)]
    exact t4.1
  · exact PO_row (g := g) (by omega) (fun y _ a c d e => mShift_f (by omega)) hO
theorem GO_1 {h g g' : AH} {b x : Int} (hB : b = 5 ∨ b = 15) (hT : tOk g) (hP : PS0 True h b g) (hO : PO g) (hR : ShRel h b g) (hx : isFst (cSh h b (h b 4)) (h b 7) x) (hgo : GoesOn g 1 g') : ∃ g2 g3, GS (cShift h b x) b g2 ∧ PN 6 0 (rst g2) g3 ∧ Endd g3 g' := by
  obtain ⟨h1, h2, h3, hl, hs, -, hpn, hend⟩ := hgo
  obtain ⟨x', hx', e2⟩ := hs (by decide)
  have hT2 := hT
  obtain ⟨-, -, t3, -, t2, -, t9, -, t4, t8⟩ := hT2
  obtain ⟨lf, -⟩ := Logged_f t8 hl
  have e9 : h1 141 9 = g 141 9 := lf _ _ (by omega)
  have e4 : h1 141 4 = g 141 4 := lf _ _ (by omega)
  have R1 : ShRel h b h1 := ⟨by rw [e9]; exact hR.1, fun s w s0 s1 w0 w1 => by
    rw [e9] at s1
    rw [lf _ _ (by omega)]
    exact hR.2 s w s0 s1 w0 w1⟩
  have ex : x = x' := by
    rw [hR.1, ← e9] at hx
    refine isFst_one (fun j j0 j1 => ?_) hx hx'
    rw [cSh_m R1 ⟨j0, j1⟩, hP.1.2.2.2.2.1, e4]
  have hx2 : x = -1 ∨ (0 ≤ x ∧ x < h1 141 9) := by
    rw [hR.1, ← e9] at hx
    rcases hx with y | y
    · exact Or.inr ⟨y.1, y.2.1⟩
    · exact Or.inl y.1
  refine ⟨h2, h3, ?_, hpn, hend⟩
  have e2' : h2 = mShift h1 x := by rw [e2, ex]; rfl
  rw [e2']
  exact GS_shift hB hT lf (PS0_row t3.2 t2.2 (fun y _ a c => lf _ _ (by omega)) hP) (PO_row t3.2 (fun y _ a c d e => lf _ _ (by omega)) hO) R1 hx2
theorem GS_0 {h g : AH} {b x : Int} (hB : b = 5 ∨ b = 15) (hT : tOk g) (hP : PS0 True h b g) (hO : PO g) (hR : ShRel h b g) (hx : isFst (cSh h b (h b 4)) (h b 7) x) : ∃ g2, GS (cShift h b x) b g2 := by
  have hx2 : x = -1 ∨ (0 ≤ x ∧ x < g 141 9) := by
    rw [hR.1] at hx
    rcases hx with y | y
    · exact Or.inr ⟨y.1, y.2.1⟩
    · exact Or.inl y.1
  exact ⟨_, GS_shift hB hT (fun _ _ _ => rfl) hP hO hR hx2⟩
theorem GO_0 {h g g' : AH} {b : Int} (hT : tOk g) (hP : PS0 True h b g) (hO : PO g) (hgo : GoesOn g 0 g') : ∃ g2 g3, GS h b g2 ∧ PN 6 0 (rst g2) g3 ∧ Endd g3 g' := by
  obtain ⟨h1, h2, h3, hl, -, hs, hpn, hend⟩ := hgo
  have e2 := hs rfl
  have hT2 := hT
  obtain ⟨⟨-, -, t5, t6⟩, -, t3, -, t2, -, t9, -, t4, t8⟩ := hT2
  obtain ⟨lf, -⟩ := Logged_f t8 hl
  refine ⟨h2, h3, ⟨?_, ?_, ?_, ?_⟩, hpn, hend⟩
  · rw [e2]
    exact gOk_rst hT (fun k y a => lf _ _ (by omega)) (by rw [lf _ _ (by omega)]; exact t5) (by rw [lf _ _ (by omega)]; exact t6)
  · rw [e2, lf _ _ (by omega)]
    exact t4.1
  · rw [e2]
    exact PS0_row t3.2 t2.2 (fun y _ a c => lf _ _ (by omega)) hP
  · rw [e2]
    exact PO_row t3.2 (fun y _ a c d e => lf _ _ (by omega)) hO
theorem GS_n {h g : AH} {b : Int} (hT : tOk g) (hP : PS0 True h b g) (hO : PO g) : GS h b g := by
  have hT2 := hT
  obtain ⟨⟨-, -, t5, t6⟩, -, t3, -, t2, -, t9, -, t4, t8⟩ := hT2
  exact ⟨gOk_rst hT (fun k y a => rfl) t5 t6, t4.1, hP, hO⟩
/-- the class' sheet after a turn that would be, and what the model has of it -/
def Dr (h : AH) (b n : Int) (g : AH) : Prop := (∀ i w, 0 ≤ i → i < n → 0 ≤ w → w ≤ 10 → h (b + 2) (i * 11 + w) = g 141 (46 + 25 * i + w)) ∧ (∀ i f, 0 ≤ i → i < n → (cFl h b f i ↔ fSail g f i)) ∧ (∀ i, 0 ≤ i → i < n → h 30 i = g 153 i ∧ h 31 (i * 12 + i) = -1) ∧ (∀ i j, 0 ≤ i → i < j → j < n → h 31 (i * 12 + j) = g 154 (12 * i + j) ∧ h 31 (j * 12 + i) = g 154 (12 * i + j)) ∧ h b 3 = n ∧ g 141 3 = n
theorem Dr_of {h g3 g' : AH} {b n : Int} (hn : g3 141 3 = n ∧ n ≤ 12) (hP : PR0 True h b g3) (hend : Endd g3 g') : Dr h b n g' := by
  obtain ⟨⟨d0, d1, d2, d3, -⟩, hS, -, -, -, hx⟩ := hP
  have ef := hend.1
  have E3 : g' 141 3 = g3 141 3 := ef _ _ (by omega)
  have M : ∀ i w, 0 ≤ i → i < n → 0 ≤ w → w ≤ 10 → g' 141 (46 + 25 * i + w) = g3 141 (46 + 25 * i + w) := fun i w a c d e => ef _ _ (by omega)
  refine ⟨fun i w i0 i1 w0 w1 => ?_, fun i f i0 i1 => ?_, fun i i0 i1 => ?_, fun i j i0 ij jn => ?_, by rw [d3, hn.1], by rw [E3, hn.1]⟩
  · obtain ⟨s1, s2, s3, -⟩ := hS i i0 (by omega)
    rw [M i w i0 i1 w0 w1]
    by_cases z : w = 10
    · rw [z]; exact s3 trivial
    · exact s1 w w0 (by omega)
  · obtain ⟨s1, s2, s3, -⟩ := hS i i0 (by omega)
    unfold cFl fSail
    rw [M i 10 i0 i1 (by decide) (by decide), M i 0 i0 i1 (by decide) (by decide), s2, s1 0 (by decide) (by decide)]
  · obtain ⟨-, -, -, -, s5, s6⟩ := hS i i0 (by omega)
    rw [ef 153 i (by omega)]
    exact ⟨s5, s6⟩
  · rw [ef 154 _ (by omega)]
    exact hx i j i0 ij (by omega)
/-- the draft and the turn's own may be others -/
def DrF (h g : AH) : Prop := ∀ k x, ¬ (15 ≤ k ∧ k ≤ 31) → g k x = h k x
theorem PS_eq {fl : Prop} {h h' g : AH} {b b' : Int} (hn : g 141 3 ≤ 12) (hf : g 141 2 ≤ 4) (e : shEq h b h' b') (hP : PS0 fl h b g) : PS0 fl h' b' g := by
  obtain ⟨e0, e1, e2, e3, e4, e5, e6, e7, e8, e9⟩ := e
  obtain ⟨⟨d0, d1, d2, d3, d4, d5, d6⟩, hS, hp⟩ := hP
  refine ⟨⟨?_, ?_, ?_, ?_, ?_, ?_, ?_⟩, fun i i0 i1 => ?_, fun f f0 f1 => ?_⟩
  · rw [e0 0 (by decide) (by decide), d0]
  · rw [e0 1 (by decide) (by decide), d1]
  · rw [e0 2 (by decide) (by decide), d2]
  · rw [e0 3 (by decide) (by decide), d3]
  · rw [e0 4 (by decide) (by decide), d4]
  · rw [e0 5 (by decide) (by decide), d5]
  · rw [e0 6 (by decide) (by decide), d6]
  · obtain ⟨s1, s2, s3, s4⟩ := hS i i0 i1
    refine ⟨fun w w0 w1 => ?_, ?_, fun q => ?_, fun p p0 p1 => ?_⟩
    · rw [e2 _ (by omega) (by omega)]
      exact s1 w w0 w1
    · rw [e2 _ (by omega) (by omega)]
      exact s2
    · rw [e2 _ (by omega) (by omega)]
      exact s3 q
    · rw [e3 _ (by omega) (by omega)]
      exact s4 p p0 p1
  · rw [e6 _ (by omega) (by omega)]
    exact hp f f0 f1
theorem Sh_eq {h h' g : AH} {b b' : Int} (hn : g 141 9 ≤ 8) (e : shEq h b h' b') (hR : ShRel h b g) : ShRel h' b' g := by
  obtain ⟨e0, -, -, -, e4, -⟩ := e
  refine ⟨by rw [e0 7 (by decide) (by decide)]; exact hR.1, fun s w s0 s1 w0 w1 => ?_⟩
  rw [e4 _ (by omega) (by omega)]
  exact hR.2 s w s0 s1 w0 w1
theorem SR_sr {h g : AH} {b : Int} (hS : SR h b g) : ShRel h b g := ⟨hS.2.2.1.1.1, hS.2.2.1.2.2.1⟩
theorem Runs_g {g g1 g' : AH} {ws : Int} (e : ∀ x, 0 ≤ x → x < 1256 → g1 141 x = g 141 x) (hT : tOk g) (hgo : GoesOn g1 ws g') : tOk g1 := tOk_eqr e hT
theorem ac_runDraft {h : AH} {K : AO → Nat → AH → Prop} (hS : SR h 5 h) (kk : ∀ h', DrF h h' → (∀ g', Runs (h 141) 1 g' → Dr h' 15 (h 141 3) g') → (∀ i, 0 ≤ i → i < h 141 3 → 0 ≤ h' 30 i ∧ h' 30 i ≤ 6) → K (.inl none) 159 h') : AC mX8_runDraft 6 0 0 159 [(2, 0)] h K := by
  have hT := hS.2.2.2.1
  have hT2 := hT
  obtain ⟨-, -, t3, -, t2, -, t9, -, t4, t8⟩ := hT2
  refine ac_of (ls := [(2, 0)]) pn_X8 rfl (Nat.le_of_ble_eq_true rfl) rfl ?_
  refine a_al0 (by decide) dX8_runDraft_0 ?_
  refine aw_getR (r := 15) 3 rfl dX8_runDraft_1 fl_X8_28 at_0 rfl rfl ?_
  refine a_al0 (by decide) dX8_runDraft_4 ?_
  refine aw_getR (r := 5) 2 rfl dX8_runDraft_5 fl_X8_24 at_0 rfl rfl ?_
  refine aw_callV 2 0 0 dX8_runDraft_8 yw_X3_copyFrom ml_X8_108 in_X3_copyFrom se_X3_copyFrom (ci := 2) rfl at_15 (as := [_]) rfl rfl ⟨by decide, by decide, by decide, Nat.le_of_ble_eq_true rfl⟩ ?_
  refine ac_copyFrom sh_15 sh_5 (by decide) (fun h1 f1 e1 => ?_)
  have P1 := PS_eq (g := h) t3.2 t2.2 e1 hS.1
  have R1 := Sh_eq (g := h) t9.2 e1 (SR_sr hS)
  refine am_cv ?_
  refine a_al0 (by decide) dX8_runDraft_11 ?_
  refine aw_getR (r := 15) 3 rfl dX8_runDraft_12 fl_X8_28 at_0 rfl rfl ?_
  try simp (disch := omega) only [up_at, up_ne]
  refine aw_callV 3 0 0 dX8_runDraft_15 yw_X3_shiftWind ml_X8_261 in_X3_shiftWind se_X3_shiftWind (ci := 2) rfl at_15 (as := []) rfl rfl ⟨by decide, by decide, by decide, Nat.le_of_ble_eq_true rfl⟩ ?_
  refine ac_shiftWind (Or.inr rfl) (by rw [R1.1]; exact t9) (fun x hx => ?_)
  refine am_cv ?_
  refine a_al0 (by decide) dX8_runDraft_18 ?_
  refine aw_getR (r := 25) 4 rfl dX8_runDraft_19 fl_X8_34 at_0 rfl rfl ?_
  try simp (disch := omega) only [up_at, up_ne]
  refine a_al0 (by decide) dX8_runDraft_22 ?_
  refine aw_getR (r := 15) 3 rfl dX8_runDraft_23 fl_X8_28 at_0 rfl rfl ?_
  try simp (disch := omega) only [up_at, up_ne]
  refine aw_bipush dX8_runDraft_26 (by decide) ?_
  refine aw_callV 5 0 0 dX8_runDraft_28 yw_X6_carryOut ml_X8_264 in_X6_carryOut se_X6_carryOut (ci := 5) rfl at_25 (as := [_, _]) rfl rfl ⟨by decide, by decide, by decide, Nat.le_of_ble_eq_true rfl⟩ ?_
  refine ac_carryOut (fl := True) (G := GS (cShift h1 15 x) 15) (Or.inr rfl) (by decide) (GS_0 (Or.inr rfl) hT P1 hS.2.1 R1 hx) (fun g hg => hg) (fun h2 f2 q1 qE => ?_)
  have d3 : h2 15 3 = h 141 3 := by
    rw [f2 15 3 (by omega) (by decide) (by decide) (by decide) (by omega) (by omega), cShift_f (by omega), e1.1 3 (by decide) (by decide)]
    exact hS.1.1.2.2.2.1
  refine am_cv ?_
  refine aw_vret dX8_runDraft_31 rfl ?_
  refine kk h2 (fun k y a => ?_) (fun g' hr => ?_) (fun i i0 i1 => ?_)
  · rw [f2 k y (by omega) (by omega) (by omega) (by omega) (by omega) (by omega), cShift_f (by omega), f1 k y (by omega)]
  · obtain ⟨g, eg, hgo⟩ := hr
    have P2 := PS0_row (g2 := g) t3.2 t2.2 (fun y a c d => eg y a (by omega)) P1
    have O2 := PO_row (g2 := g) t3.2 (fun y a c d e f => eg y a (by omega)) hS.2.1
    have R2 : ShRel h1 15 g := by
      have e9 := eg 9 (by decide) (by decide)
      refine ⟨by rw [e9]; exact R1.1, fun s w s0 s1 w0 w1 => ?_⟩
      rw [e9] at s1
      rw [eg _ (by omega) (by omega)]
      exact R1.2 s w s0 s1 w0 w1
    obtain ⟨g2, g3, a, c, d⟩ := GO_1 (Or.inr rfl) (tOk_eqr eg hT) P2 O2 R2 hx hgo
    have p := (q1 g2 g3 a c).1
    exact Dr_of ⟨by rw [← d3]; exact p.1.2.2.2.1.symm, t3.2⟩ p d
  · obtain ⟨g, hg⟩ := GS_0 (Or.inr rfl) hT P1 hS.2.1 R1 hx
    obtain ⟨g', hp⟩ := qE g hg
    have p := (q1 g g' hg hp).1
    have e3 : g' 141 3 = h 141 3 := by rw [← d3]; exact p.1.2.2.2.1.symm
    have e3' : rst g 141 3 = h 141 3 := by
      rw [← e3]
      exact ((PN_ok 6 0 (rst g) g' 72 hp (by decide) (by decide) hg.1 (by decide) (by decide)).2.2 3 (by decide) (by decide) (by omega) (by omega)).symm
    have m := PN_mv 6 0 (rst g) g' 72 hp (by decide) (by decide) hg.1 (by decide) (by decide) i i0 (by omega)
    have z : rst g 153 i = 0 := by
      unfold rst fillH
      rw [if_neg (by omega), if_pos (by omega)]
    rw [(p.2.1 i i0 (by omega)).2.2.2.2.1]
    omega
theorem cx_after {i w : Int} {h : AH} {K : AO → Nat → AH → Prop} (hS : SR h 5 h) (k1 : ¬ (0 ≤ i ∧ i < h 141 3) → K (.inr xI) 159 h) (k2 : 0 ≤ i ∧ i < h 141 3 → ¬ (0 ≤ w ∧ w ≤ 10) → K (.inr xA) 159 h) (k0 : 0 ≤ i ∧ i < h 141 3 → 0 ≤ w ∧ w ≤ 10 → ∀ h' v, DrF h h' → (∀ g', Runs (h 141) 1 g' → v = g' 141 (46 + 25 * i + w)) → K (.inl (some (0, v))) 159 h') : AC mX8_after 7 2 12 159 [(2, 0), (0, i), (0, w)] h K := by
  have d3 := hS.1.1.2.2.2.1
  have n3 := hS.2.2.2.1.2.2.1
  refine ac_of (ls := [(2, 0), (0, i), (0, w)]) pn_X8 rfl (Nat.le_of_ble_eq_true rfl) rfl ?_
  refine a_al0 (by decide) dX8_after_0 ?_
  refine a_il1 dX8_after_1 ?_
  refine aw_callV 6 1 6 dX8_after_2 yw_X8_needShip ml_X8_147 in_X8_needShip se_X8_needShip (ci := 7) rfl at_0 (as := [_]) rfl rfl ⟨by decide, by decide, by decide, Nat.le_of_ble_eq_true rfl⟩ ?_
  refine ac_needShip (fun q => ?_) (fun q => ?_)
  · rw [d3] at q
    refine am_cv ?_
    refine a_il2 dX8_after_5 ?_
    refine aw_callS 6 1 6 dX8_after_6 yw_X8_needShipNumber ml_X8_150 sm_X8_needShipNumber (as := [_]) rfl rfl ⟨by decide, by decide, by decide, Nat.le_of_ble_eq_true rfl⟩ ?_
    refine ac_needShipNumber (fun q2 => ?_) (fun q2 => ?_)
    · refine am_cv ?_
      refine a_al0 (by decide) dX8_after_9 ?_
      refine aw_callV 6 0 0 dX8_after_10 yw_X8_runDraft ml_X8_248 in_X8_runDraft se_X8_runDraft (ci := 7) rfl at_0 (as := []) rfl rfl ⟨by decide, by decide, by decide, Nat.le_of_ble_eq_true rfl⟩ ?_
      refine ac_runDraft hS (fun h' hf hd _ => ?_)
      refine am_cv ?_
      refine a_al0 (by decide) dX8_after_13 ?_
      refine aw_getR (r := 15) 3 rfl dX8_after_14 fl_X8_28 at_0 rfl rfl ?_
      try simp (disch := omega) only [up_at, up_ne]
      refine a_il1 dX8_after_17 ?_
      refine a_il2 dX8_after_18 ?_
      refine aw_callV 1 0 0 dX8_after_19 yw_X3_get ml_X8_153 in_X3_get se_X3_get (ci := 2) rfl at_15 (as := [_, _]) rfl rfl ⟨by decide, by decide, by decide, Nat.le_of_ble_eq_true rfl⟩ ?_
      refine ac_get (Or.inr rfl) (by omega) q2 ?_
      refine am_ci ?_
      try simp (disch := omega) only [up_at, up_ne]
      refine aw_iret dX8_after_22 rfl ?_
      exact k0 q q2 h' _ hf (fun g' hr => (hd g' hr).1 i w q.1 q.2 q2.1 q2.2)
    · exact am_cx rfl (k2 q q2)
  · rw [d3] at q
    exact am_cx rfl (k1 q)
theorem cx_meet {i j : Int} {h : AH} {K : AO → Nat → AH → Prop} (hS : SR h 5 h) (k1 : ¬ ((0 ≤ i ∧ i < h 141 3) ∧ 0 ≤ j ∧ j < h 141 3) → K (.inr xI) 159 h) (k0 : 0 ≤ i ∧ i < h 141 3 → 0 ≤ j ∧ j < h 141 3 → ∀ h' v, DrF h h' → (∀ g', Runs (h 141) 1 g' → v = if i = j then -1 else g' 154 (12 * (mn i j) + mx i j)) → K (.inl (some (0, v))) 159 h') : AC mX8_meet 7 2 12 159 [(2, 0), (0, i), (0, j)] h K := by
  have d3 := hS.1.1.2.2.2.1
  have n3 := hS.2.2.2.1.2.2.1
  refine ac_of (ls := [(2, 0), (0, i), (0, j)]) pn_X8 rfl (Nat.le_of_ble_eq_true rfl) rfl ?_
  refine a_al0 (by decide) dX8_meet_0 ?_
  refine a_il1 dX8_meet_1 ?_
  refine aw_callV 6 1 6 dX8_meet_2 yw_X8_needShip ml_X8_147 in_X8_needShip se_X8_needShip (ci := 7) rfl at_0 (as := [_]) rfl rfl ⟨by decide, by decide, by decide, Nat.le_of_ble_eq_true rfl⟩ ?_
  refine ac_needShip (fun q => ?_) (fun q => ?_)
  · rw [d3] at q
    refine am_cv ?_
    refine a_al0 (by decide) dX8_meet_5 ?_
    refine a_il2 dX8_meet_6 ?_
    refine aw_callV 6 1 6 dX8_meet_7 yw_X8_needShip ml_X8_147 in_X8_needShip se_X8_needShip (ci := 7) rfl at_0 (as := [_]) rfl rfl ⟨by decide, by decide, by decide, Nat.le_of_ble_eq_true rfl⟩ ?_
    refine ac_needShip (fun q2 => ?_) (fun q2 => ?_)
    · rw [d3] at q2
      refine am_cv ?_
      refine a_al0 (by decide) dX8_meet_10 ?_
      refine aw_callV 6 0 0 dX8_meet_11 yw_X8_runDraft ml_X8_248 in_X8_runDraft se_X8_runDraft (ci := 7) rfl at_0 (as := []) rfl rfl ⟨by decide, by decide, by decide, Nat.le_of_ble_eq_true rfl⟩ ?_
      refine ac_runDraft hS (fun h' hf hd _ => ?_)
      refine am_cv ?_
      refine a_al0 (by decide) dX8_meet_14 ?_
      refine aw_getR (r := 25) 4 rfl dX8_meet_15 fl_X8_34 at_0 rfl rfl ?_
      try simp (disch := omega) only [up_at, up_ne]
      refine aw_getR (r := 31) 5 rfl dX8_meet_18 fl_X8_271 at_25 rfl rfl ?_
      try simp (disch := omega) only [up_at, up_ne]
      refine a_il1 dX8_meet_21 ?_
      refine aw_bipush dX8_meet_22 (by decide) ?_
      refine aw_imulR (by omega) dX8_meet_24 ?_
      refine a_il2 dX8_meet_25 ?_
      refine aw_iaddR (by omega) dX8_meet_26 ?_
      refine aw_iald dX8_meet_27 ar_31 (by omega) ?_
      try simp (disch := omega) only [up_at, up_ne]
      refine aw_iret dX8_meet_28 rfl ?_
      refine k0 q q2 h' _ hf (fun g' hr => ?_)
      obtain ⟨-, -, r1, r2, -⟩ := hd g' hr
      by_cases e : i = j
      · rw [if_pos e, e]
        exact (r1 j q2.1 q2.2).2
      · rw [if_neg e]
        by_cases l : i < j
        · have e1 : mn i j = i := by unfold mn; rw [if_neg (by omega)]
          have e2 : mx i j = j := by unfold mx; rw [if_pos l]
          rw [e1, e2]
          exact (r2 i j q.1 l q2.2).1
        · have e1 : mn i j = j := by unfold mn; rw [if_pos (by omega)]
          have e2 : mx i j = i := by unfold mx; rw [if_neg (by omega)]
          rw [e1, e2]
          exact (r2 j i q2.1 (by omega) q.2).2
    · rw [d3] at q2
      exact am_cx rfl (k1 (fun x => q2 x.2))
  · rw [d3] at q
    exact am_cx rfl (k1 (fun x => q x.1))
