/-! a turn: run() -/
theorem SR_run {h1 h2 h4 g g' : AH} {x : Int} (hS : SR h1 5 g) (h4t : g 141 4 < 1000) (hc : cLogT h1 5 h2) (hx : isFst (cSh h2 5 (h2 5 4)) (h2 5 7) x) (hf : coFr (cShift h2 5 x) 5 h4) (q1 : ∀ g2 g3, GS (cShift h2 5 x) 5 g2 → PN 6 0 (rst g2) g3 → PR0 True h4 5 g3 ∧ PO g3) (hgo : GoesOn g 1 g') : SR (cEnd h4) 5 g' ∧ h4 25 6 = g' 140 24 := by
  obtain ⟨m1, m2, m3, hl, hs, -, hpn, hend⟩ := hgo
  obtain ⟨x', hx', e2⟩ := hs (by decide)
  have hT := hS.2.2.2.1
  have hT2 := hT
  obtain ⟨-, -, t3, -, t2, -, t9, -, t4, t8⟩ := hT2
  obtain ⟨lf, l8⟩ := Logged_f t8 hl
  have e9 : m1 141 9 = g 141 9 := lf _ _ (by omega)
  have e4 : m1 141 4 = g 141 4 := lf _ _ (by omega)
  have C2 : ∀ k x, k ≠ 13 → k ≠ 14 → h2 k x = h1 k x := fun k x a c => hc.1 k x (by omega) (by omega)
  have R0 := SR_sr hS
  have R1 : ShRel h2 5 m1 := ⟨by rw [e9, C2 5 7 (by decide) (by decide)]; exact R0.1, fun s w s0 s1 w0 w1 => by
    rw [e9] at s1
    rw [lf _ _ (by omega), C2 (5 + 4) _ (by decide) (by decide)]
    exact R0.2 s w s0 s1 w0 w1⟩
  have P2 := PS_log hS.1 C2
  have ex : x = x' := by
    rw [R1.1] at hx
    refine isFst_one (fun j j0 j1 => ?_) hx hx'
    rw [cSh_m R1 ⟨j0, j1⟩, P2.1.2.2.2.2.1, e4]
  have hx2 : x = -1 ∨ (0 ≤ x ∧ x < m1 141 9) := by
    rw [R1.1] at hx
    rcases hx with y | y
    · exact Or.inr ⟨y.1, y.2.1⟩
    · exact Or.inl y.1
  have e2' : m2 = mShift m1 x := by rw [e2, ex]; rfl
  rw [e2'] at hpn
  have hGS : GS (cShift h2 5 x) 5 (mShift m1 x) := GS_shift (Or.inl rfl) hT lf (PS0_row t3.2 t2.2 (fun y _ a c => lf _ _ (by omega)) P2) (PO_row t3.2 (fun y _ a c d e => lf _ _ (by omega)) hS.2.1) R1 hx2
  obtain ⟨p3, o3⟩ := q1 _ m3 hGS hpn
  have hG := GOk_of hS.2.2.2 hl hGS.1 hpn hend
  have hL := LB_of hS hc hl
  have C4 : ∀ k x, ¬ (k = 5 ∧ 5 ≤ x) → k ≠ 5 ∨ x = 7 → k ≠ 7 → k ≠ 10 → k ≠ 11 → ¬ (25 ≤ k ∧ k ≤ 31) → h4 k x = h2 k x := fun k y a b c d e f => by
    rw [hf k y (by omega) (by omega) (by omega) (by omega) (by omega) (by omega), cShift_f (by omega)]
  have C57 : h4 5 7 = h2 5 7 := by
    rw [hf 5 7 (by omega) (by decide) (by decide) (by decide) (by omega) (by omega), cShift_f (by omega)]
  have C : ∀ k x, (k = 5 ∧ x = 7) ∨ k = 6 ∨ k = 9 → h4 k x = h1 k x := fun k y a => by
    rcases a with ⟨rfl, rfl⟩ | a
    · rw [C57, C2 5 7 (by decide) (by decide)]
    · rw [C4 k y (by omega) (by omega) (by omega) (by omega) (by omega) (by omega), C2 k y (by omega) (by omega)]
  have D : ∀ k x, k = 13 ∨ k = 14 → h4 k x = h2 k x := fun k y a => C4 k y (by omega) (by omega) (by omega) (by omega) (by omega) (by omega)
  have o24 := hend.1 140 24 (by omega)
  refine ⟨⟨PS_end t3.2 hG p3, PO_end hG t3.2 o3, SX_end hG hS l8 hL p3 C D, RO_end hG hS.2.2.2 h4t l8 hL⟩, ?_⟩
  rw [o24]
  exact p3.2.2.2.2.1
theorem SR_rdy {h g : AH} (hS : SR h 5 g) : cReady h 5 ↔ ∀ i, 0 ≤ i → i < g 141 3 → g 141 (46 + 25 * i + 10) = -1 → ¬ g 141 (34 + 3 * g 141 (46 + 25 * i + 0) + 1) = 0 := by
  have d2 : h 5 2 = g 141 2 := hS.1.1.2.2.1
  have x6 := hS.2.2.1.2.2.2.2.1
  have rf := hS.2.2.2.2.2.2.2.2.1
  unfold cReady
  rw [d2]
  have e : ∀ f, 0 ≤ f → f < g 141 2 → (h (5 + 7) f = -1 ↔ g 141 (34 + 3 * f + 1) = 0) := fun f f0 f1 => by
    obtain ⟨a, c, -⟩ := rf f f0 f1
    rw [x6 f f0 f1]
    unfold mSN
    by_cases z : g 141 (34 + 3 * f + 1) = 1
    · have := c z
      rw [if_pos z]
      exact ⟨fun q => by omega, fun q => by omega⟩
    · rw [if_neg z]
      exact ⟨fun _ => by omega, fun _ => rfl⟩
  constructor
  · intro q i i0 i1 i2 z
    have o := (hS.2.1 i i0 i1).1
    exact q _ o.1 o.2 ((e _ o.1 o.2).mpr z) ((SR_has hS).mpr ⟨i, i0, i1, i2, rfl⟩)
  · intro q f f0 f1 z hh
    obtain ⟨i, i0, i1, i2, i3⟩ := (SR_has hS).mp hh
    refine q i i0 i1 i2 ?_
    rw [i3]
    exact (e f f0 f1).mp z
theorem cx_run {h : AH} {K : AO → Nat → AH → Prop} (hS : SR h 5 h) (hH : HI h) (k1 : ¬ mReady h → K (.inr xS) 159 h) (k0 : mReady h → ∀ h1 h' v, cKept h h1 → (∀ k x, ¬ (5 ≤ k ∧ k < 15) → ¬ (25 ≤ k ∧ k ≤ 31) → h' k x = h1 k x) → (∀ g', Runs (h 141) 1 g' → SR h' 5 g' ∧ v = g' 140 24) → K (.inl (some (0, v))) 159 h') : AC mX8_run 7 2 12 159 [(2, 0)] h K := by
  obtain ⟨-, -, d2, d3, d4, -⟩ := hS.1.1
  have hT := hS.2.2.2.1
  have hT2 := hT
  obtain ⟨-, -, t3, -, t2, -, t9, -, t4, t8⟩ := hT2
  have rd := SR_rdy hS
  refine ac_of (ls := [(2, 0)]) pn_X8 rfl (Nat.le_of_ble_eq_true rfl) rfl ?_
  refine a_al0 (by decide) dX8_run_0 ?_
  refine aw_getR (r := 5) 2 rfl dX8_run_1 fl_X8_24 at_0 rfl rfl ?_
  refine aw_callV 5 0 0 dX8_run_4 yw_X3_areAllSealed ml_X8_297 in_X3_areAllSealed se_X3_areAllSealed (ci := 2) rfl at_5 (as := []) rfl rfl ⟨by decide, by decide, by decide, Nat.le_of_ble_eq_true rfl⟩ ?_
  refine ac_areAllSealed (Or.inl rfl) (by rw [d3]; exact t3) (by rw [d2]; exact t2) (fun q => ?_) (fun q => ?_)
  · have q' := rd.mp q
    refine am_ci ?_
    refine aw_if_ne_y 21 dX8_run_7 (by decide) (by decide) ?_
    refine a_al0 (by decide) dX8_run_21 ?_
    refine aw_getR (r := 5) 2 rfl dX8_run_22 fl_X8_24 at_0 rfl rfl ?_
    refine aw_get 4 dX8_run_25 fl_X8_117 at_5 rfl ?_
    refine aw_sipush dX8_run_28 (by decide) ?_
    refine aw_icmp_lt 45 dX8_run_31 (by decide) (fun c31 => ?_) (fun c31 => ?_)
    · rw [d4] at c31
      refine a_al0 (by decide) dX8_run_45 ?_
      refine aw_getR (r := 32) 5 rfl dX8_run_46 fl_X8_41 at_0 rfl rfl ?_
      refine a_al0 (by decide) dX8_run_49 ?_
      refine aw_getR (r := 5) 2 rfl dX8_run_50 fl_X8_24 at_0 rfl rfl ?_
      refine aw_callV 4 0 0 dX8_run_53 yw_X1_keep ml_X8_104 in_X1_keep se_X1_keep (ci := 1) rfl at_32 (as := [_]) rfl rfl ⟨by decide, by decide, by decide, Nat.le_of_ble_eq_true rfl⟩ ?_
      refine ac_keep hH.1 hH.2.1 (fun h1 qk => ?_)
      have fr : ∀ k x, 5 ≤ k → k < 15 → h1 k x = h k x := fun k x a c => qk.1 k x (by have := hH.1; omega) (by omega)
      have S1 := SR_up hS fr
      have k9 := k0 ⟨q', by omega⟩ h1
      have e3 : h1 5 3 = h 141 3 := by rw [fr _ _ (by decide) (by decide), d3]
      have e2 : h1 5 2 = h 141 2 := by rw [fr _ _ (by decide) (by decide), d2]
      have e4 : h1 5 4 = h 141 4 := by rw [fr _ _ (by decide) (by decide), d4]
      refine am_cv ?_
      refine a_al0 (by decide) dX8_run_56 ?_
      refine aw_getR (r := 5) 2 rfl dX8_run_57 fl_X8_24 at_0 rfl rfl ?_
      try simp (disch := omega) only [up_at, up_ne]
      refine aw_callV 3 0 0 dX8_run_60 yw_X3_logTurn ml_X8_305 in_X3_logTurn se_X3_logTurn (ci := 2) rfl at_5 (as := []) rfl rfl ⟨by decide, by decide, by decide, Nat.le_of_ble_eq_true rfl⟩ ?_
      refine ac_logTurn (Or.inl rfl) (by rw [e3]; exact t3) (by rw [e2]; exact t2) (by rw [e4]; exact t4) (fun h2 hc => ?_)
      have C2 : ∀ k x, k ≠ 13 → k ≠ 14 → h2 k x = h1 k x := fun k x a c => hc.1 k x (by omega) (by omega)
      have R0 := SR_sr S1
      have R1 : ShRel h2 5 h := ⟨by rw [C2 5 7 (by decide) (by decide)]; exact R0.1, fun s w s0 s1 w0 w1 => by
        rw [C2 (5 + 4) _ (by decide) (by decide)]
        exact R0.2 s w s0 s1 w0 w1⟩
      have P2 := PS_log S1.1 C2
      refine am_cv ?_
      refine a_al0 (by decide) dX8_run_63 ?_
      refine aw_getR (r := 5) 2 rfl dX8_run_64 fl_X8_24 at_0 rfl rfl ?_
      try simp (disch := omega) only [up_at, up_ne]
      refine aw_callV 3 0 0 dX8_run_67 yw_X3_shiftWind ml_X8_261 in_X3_shiftWind se_X3_shiftWind (ci := 2) rfl at_5 (as := []) rfl rfl ⟨by decide, by decide, by decide, Nat.le_of_ble_eq_true rfl⟩ ?_
      refine ac_shiftWind (Or.inl rfl) (by rw [R1.1]; exact t9) (fun x hx => ?_)
      refine am_cv ?_
      refine a_al0 (by decide) dX8_run_70 ?_
      refine aw_getR (r := 25) 4 rfl dX8_run_71 fl_X8_34 at_0 rfl rfl ?_
      try simp (disch := omega) only [up_at, up_ne]
      refine a_al0 (by decide) dX8_run_74 ?_
      refine aw_getR (r := 5) 2 rfl dX8_run_75 fl_X8_24 at_0 rfl rfl ?_
      try simp (disch := omega) only [up_at, up_ne]
      refine aw_bipush dX8_run_78 (by decide) ?_
      refine aw_callV 5 0 0 dX8_run_80 yw_X6_carryOut ml_X8_264 in_X6_carryOut se_X6_carryOut (ci := 5) rfl at_25 (as := [_, _]) rfl rfl ⟨by decide, by decide, by decide, Nat.le_of_ble_eq_true rfl⟩ ?_
      refine ac_carryOut (fl := True) (G := GS (cShift h2 5 x) 5) (Or.inl rfl) (by decide) (GS_0 (Or.inl rfl) hT P2 hS.2.1 R1 hx) (fun g hg => hg) (fun h4 f4 q1 qE => ?_)
      have e54 : h4 5 4 = h 141 4 := by rw [f4 5 4 (by omega) (by decide) (by decide) (by decide) (by omega) (by omega), cShift_f (by omega), C2 5 4 (by decide) (by decide), e4]
      refine am_cv ?_
      refine a_al0 (by decide) dX8_run_83 ?_
      refine aw_getR (r := 5) 2 rfl dX8_run_84 fl_X8_24 at_0 rfl rfl ?_
      try simp (disch := omega) only [up_at, up_ne]
      refine aw_dup dX8_run_87 rfl ?_
      refine aw_get 4 dX8_run_88 fl_X8_117 at_5 rfl ?_
      try simp (disch := omega) only [up_at, up_ne]
      refine aw_iconst dX8_run_91 (by decide) ?_
      refine aw_iaddR (by omega) dX8_run_92 ?_
      refine aw_put 4 dX8_run_93 fp_X8_117 at_5 rfl ?_
      refine a_al0 (by decide) dX8_run_96 ?_
      refine aw_getR (r := 5) 2 rfl dX8_run_97 fl_X8_24 at_0 rfl rfl ?_
      try simp (disch := omega) only [up_at, up_ne]
      refine aw_callV 2 0 0 dX8_run_100 yw_X3_beginTurn ml_X8_308 in_X3_beginTurn se_X3_beginTurn (ci := 2) rfl at_5 (as := []) rfl rfl ⟨by decide, by decide, by decide, Nat.le_of_ble_eq_true rfl⟩ ?_
      refine ac_beginTurn (Or.inl rfl) ?_
      have f5 : ∀ k x, ¬ (5 ≤ k ∧ k < 15) → ¬ (25 ≤ k ∧ k ≤ 31) → cEnd h4 k x = h1 k x := fun k y a c => by
        rw [cEnd_f (by omega) (by omega) (by omega), f4 k y (by omega) (by omega) (by omega) (by omega) (by omega) (by omega), cShift_f (by omega), C2 k y (by omega) (by omega)]
      have e25 : cEnd h4 25 6 = h4 25 6 := cEnd_f (by omega) (by omega) (by omega)
      have k8 := k9 (cEnd h4) (cEnd h4 25 6) qk f5 (fun g' hr => by
        obtain ⟨g, eg, hgo⟩ := hr
        have Sg := SR_eqr eg S1
        rw [e25]
        exact SR_run Sg (by rw [eg 4 (by decide) (by decide)]; omega) hc hx f4 q1 hgo)
      refine am_cv ?_
      refine a_al0 (by decide) dX8_run_103 ?_
      refine aw_getR (r := 25) 4 rfl dX8_run_104 fl_X8_34 at_0 rfl rfl ?_
      try simp (disch := omega) only [up_at, up_ne]
      refine aw_get 6 dX8_run_107 fl_X8_311 at_25 rfl ?_
      try simp (disch := omega) only [up_at, up_ne]
      refine aw_iret dX8_run_110 rfl ?_
      exact k8
    · rw [d4] at c31
      refine aw_throwW (i := 28) rfl rfl dX8_run_34 dX8_run_37 dX8_run_38 dX8_run_41 dX8_run_44 tw_IllegalStateException rfl ⟨rfl, rfl⟩ ⟨by decide, by decide, by decide, rfl⟩ ?_
      exact k1 (fun x => by have := x.2; omega)
  · refine am_ci ?_
    refine aw_if_ne_n 21 dX8_run_7 (by decide) (by decide) ?_
    refine aw_throwW (i := 27) rfl rfl dX8_run_10 dX8_run_13 dX8_run_14 dX8_run_17 dX8_run_20 tw_IllegalStateException rfl ⟨rfl, rfl⟩ ⟨by decide, by decide, by decide, rfl⟩ ?_
    exact k1 (fun x => q (rd.mpr x.1))
