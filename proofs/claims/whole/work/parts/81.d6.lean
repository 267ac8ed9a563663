/-! the class: course -/
/-- the row without the other ships -/
def loneG (g : AH) (i : Int) : AH := fun k x => if k = 141 ∧ 46 ≤ x ∧ x < 46 + 25 * g 141 3 ∧ ¬ (x - 46) / 25 = i ∧ ((x - 46) % 25 = 1 ∨ (x - 46) % 25 = 2) then -1 else if k = 141 ∧ 46 ≤ x ∧ x < 46 + 25 * g 141 3 ∧ ¬ (x - 46) / 25 = i ∧ (x - 46) % 25 = 10 then 0 else g k x
theorem lone_o {g : AH} {i k x : Int} (h : ¬ (k = 141 ∧ 46 ≤ x ∧ x < 46 + 25 * g 141 3 ∧ ¬ (x - 46) / 25 = i ∧ ((x - 46) % 25 = 1 ∨ (x - 46) % 25 = 2 ∨ (x - 46) % 25 = 10))) : loneG g i k x = g k x := by
  unfold loneG
  rw [if_neg (fun q => h ⟨q.1, q.2.1, q.2.2.1, q.2.2.2.1, q.2.2.2.2.elim Or.inl (fun z => Or.inr (Or.inl z))⟩), if_neg (fun q => h ⟨q.1, q.2.1, q.2.2.1, q.2.2.2.1, Or.inr (Or.inr q.2.2.2.2)⟩)]
theorem lone_j {g : AH} {i j : Int} (hj : 0 ≤ j ∧ j < g 141 3) (hne : j ≠ i) : loneG g i 141 (46 + 25 * j + 1) = -1 ∧ loneG g i 141 (46 + 25 * j + 2) = -1 ∧ loneG g i 141 (46 + 25 * j + 10) = 0 := by
  have e1 : (46 + 25 * j + 1 - 46) / 25 = j := by omega
  have e2 : (46 + 25 * j + 2 - 46) / 25 = j := by omega
  have e10 : (46 + 25 * j + 10 - 46) / 25 = j := by omega
  unfold loneG
  rw [e1, e2, e10]
  refine ⟨if_pos ⟨rfl, by omega, by omega, hne, by omega⟩, if_pos ⟨rfl, by omega, by omega, hne, by omega⟩, ?_⟩
  rw [if_neg (fun q => by omega), if_pos ⟨rfl, by omega, by omega, hne, by omega⟩]
theorem lone_w {g : AH} {i j w : Int} (hj : 0 ≤ j) (hw : 0 ≤ w ∧ w ≤ 24) (h : j = i ∨ (w ≠ 1 ∧ w ≠ 2 ∧ w ≠ 10)) : loneG g i 141 (46 + 25 * j + w) = g 141 (46 + 25 * j + w) := lone_o (fun q => by omega)
theorem tOk_lone {g : AH} {i : Int} (hT : tOk g) : tOk (loneG g i) := by
  obtain ⟨t1, t2, t3, t4, t5, t6, t7, t8, t9, t10⟩ := hT
  have E : ∀ x, x < 46 → loneG g i 141 x = g 141 x := fun x a => lone_o (by omega)
  have W : ∀ j w, 0 ≤ j → 0 ≤ w → w ≤ 24 → w ≠ 1 → w ≠ 2 → w ≠ 10 → loneG g i 141 (46 + 25 * j + w) = g 141 (46 + 25 * j + w) := fun j w a b c d e f => lone_w a ⟨b, c⟩ (Or.inr ⟨d, e, f⟩)
  unfold tOk
  rw [E 3 (by decide), E 2 (by decide), E 9 (by decide), E 4 (by decide), E 8 (by decide)]
  refine ⟨?_, fun j j0 j1 => ⟨?_, fun p p0 p1 => ?_⟩, t3, fun x x0 x1 => ?_, t5, fun f f0 f1 => ?_, t7, fun s s0 s1 => ?_, t9, t10⟩
  · unfold bdOk
    rw [E 0 (by decide), E 1 (by decide), E 5 (by decide), E 6 (by decide)]
    exact t1
  · obtain ⟨⟨s1, s2, s3, s6, s7, s8, s9⟩, -⟩ := t2 j j0 j1
    unfold shOk
    rw [W j 3 j0 (by decide) (by decide) (by decide) (by decide) (by decide), W j 6 j0 (by decide) (by decide) (by decide) (by decide) (by decide), W j 7 j0 (by decide) (by decide) (by decide) (by decide) (by decide), W j 8 j0 (by decide) (by decide) (by decide) (by decide) (by decide), W j 9 j0 (by decide) (by decide) (by decide) (by decide) (by decide)]
    by_cases e : j = i
    · rw [lone_w j0 (by decide) (Or.inl e), lone_w j0 (by decide) (Or.inl e)]
      exact ⟨s1, s2, s3, s6, s7, s8, s9⟩
    · obtain ⟨l1, l2, -⟩ := lone_j ⟨j0, j1⟩ e
      rw [l1, l2]
      exact ⟨by decide, by decide, s3, s6, s7, s8, s9⟩
  · rw [W j (11 + p) j0 (by omega) (by omega) (by omega) (by omega) (by omega)]
    exact (t2 j j0 j1).2 p p0 p1
  · rw [W x 4 x0 (by decide) (by decide) (by decide) (by decide) (by decide), W x 5 x0 (by decide) (by decide) (by decide) (by decide) (by decide)]
    exact t4 x x0 x1
  · rw [E _ (by omega)]
    exact t6 f f0 f1
  · rw [E _ (by omega), E _ (by omega)]
    exact t8 s s0 s1
theorem cx_course {i n : Int} {h : AH} {K : AO → Nat → AH → Prop} (hS : SR h 5 h) (k1 : ¬ (0 ≤ i ∧ i < h 141 3 ∧ h 141 (46 + 25 * i + 10) = -1) → K (.inr xI) 159 h) (k2 : 0 ≤ i ∧ i < h 141 3 ∧ h 141 (46 + 25 * i + 10) = -1 → ¬ (0 ≤ n ∧ n ≤ 6) → K (.inr xA) 159 h) (k0 : 0 ≤ i ∧ i < h 141 3 ∧ h 141 (46 + 25 * i + 10) = -1 → 0 ≤ n ∧ n ≤ 6 → ∀ h' v, DrF h h' → (∀ g', Cours (h 141) i n g' → v = 100 * g' 141 (46 + 25 * i + 1) + g' 141 (46 + 25 * i + 2)) → K (.inl (some (0, v))) 159 h') : AC mX8_course 7 2 12 159 [(2, 0), (0, i), (0, n)] h K := by
  have d3 := hS.1.1.2.2.2.1
  have hT := hS.2.2.2.1
  obtain ⟨t3, t2, t9⟩ := tOk_PS hT
  have n3 := hT.2.2.1
  have n9 := hT.2.2.2.2.2.2.1
  have J47 : 0 ≤ i ∧ i < h 141 3 ∧ h 141 (46 + 25 * i + 10) = -1 → 0 ≤ n ∧ n ≤ 6 → AW mX8_course 7 1 6 K 159 47 [(2, 0), (0, i), (0, n)] [] h := fun q q2 => by
    refine a_al0 (by decide) dX8_course_47 ?_
    refine aw_getR (r := 15) 3 rfl dX8_course_48 fl_X8_28 at_0 rfl rfl ?_
    refine a_al0 (by decide) dX8_course_51 ?_
    refine aw_getR (r := 5) 2 rfl dX8_course_52 fl_X8_24 at_0 rfl rfl ?_
    refine aw_callV 2 0 0 dX8_course_55 yw_X3_copyFrom ml_X8_108 in_X3_copyFrom se_X3_copyFrom (ci := 2) rfl at_15 (as := [_]) rfl rfl ⟨by decide, by decide, by decide, Nat.le_of_ble_eq_true rfl⟩ ?_
    refine ac_copyFrom sh_15 sh_5 (by decide) (fun h1 f1 e1 => ?_)
    have P1 := PS_eq (g := h) t3 t2 e1 hS.1
    have R1 := Sh_eq (g := h) t9 e1 (SR_sr hS)
    have c3 : h1 15 3 = h 141 3 := P1.1.2.2.2.1
    refine am_cv ?_
    refine a_al0 (by decide) dX8_course_58 ?_
    refine aw_getR (r := 15) 3 rfl dX8_course_59 fl_X8_28 at_0 rfl rfl ?_
    try simp (disch := omega) only [up_at, up_ne]
    refine a_il1 dX8_course_62 ?_
    refine aw_callV 3 0 0 dX8_course_63 yw_X3_removeAllBut ml_X8_258 in_X3_removeAllBut se_X3_removeAllBut (ci := 2) rfl at_15 (as := [_]) rfl rfl ⟨by decide, by decide, by decide, Nat.le_of_ble_eq_true rfl⟩ ?_
    refine ac_removeAllBut (Or.inr rfl) (by rw [c3]; exact n3) (fun h2 hrm => ?_)
    obtain ⟨fr, hj⟩ := hrm
    rw [c3] at fr hj
    obtain ⟨g0, hg0⟩ : ∃ g0, g0 = loneG h i := ⟨_, rfl⟩
    have T0 : tOk g0 := by rw [hg0]; exact tOk_lone hT
    have E : ∀ x, x < 46 → g0 141 x = h 141 x := fun x a => by rw [hg0]; exact lone_o (by omega)
    have Wi : ∀ w, 0 ≤ w → w ≤ 24 → g0 141 (46 + 25 * i + w) = h 141 (46 + 25 * i + w) := fun w a b => by rw [hg0]; exact lone_w q.1 ⟨a, b⟩ (Or.inl rfl)
    have Wj : ∀ j w, 0 ≤ j → 0 ≤ w → w ≤ 24 → w ≠ 1 → w ≠ 2 → w ≠ 10 → g0 141 (46 + 25 * j + w) = h 141 (46 + 25 * j + w) := fun j w a b c d e f => by rw [hg0]; exact lone_w a ⟨b, c⟩ (Or.inr ⟨d, e, f⟩)
    have Lj : ∀ j, 0 ≤ j → j < h 141 3 → j ≠ i → g0 141 (46 + 25 * j + 1) = -1 ∧ g0 141 (46 + 25 * j + 2) = -1 ∧ g0 141 (46 + 25 * j + 10) = 0 := fun j a b c => by rw [hg0]; exact lone_j ⟨a, b⟩ c
    have E3 := E 3 (by decide)
    have P2 : PS0 False h2 15 g0 := by
      obtain ⟨⟨p0, p1, p2, p3, p4, p5, p6⟩, hSs, hp⟩ := P1
      refine ⟨⟨?_, ?_, ?_, ?_, ?_, ?_, ?_⟩, fun j j0 j1 => ?_, fun f f0 f1 => ?_⟩
      · rw [fr _ _ (by omega), E 0 (by decide), p0]
      · rw [fr _ _ (by omega), E 1 (by decide), p1]
      · rw [fr _ _ (by omega), E 2 (by decide), p2]
      · rw [fr _ _ (by omega), E 3 (by decide), p3]
      · rw [fr _ _ (by omega), E 4 (by decide), p4]
      · rw [fr _ _ (by omega), E 5 (by decide), p5]
      · rw [fr _ _ (by omega), E 6 (by decide), p6]
      · rw [E3] at j1
        obtain ⟨s1, s2, s3, s4⟩ := hSs j j0 j1
        refine ⟨fun w w0 w1 => ?_, ?_, fun z => z.elim, fun p p0 p1 => ?_⟩
        · by_cases ji : j = i
          · rw [fr _ _ (fun ⟨_, j', a, b, c, d⟩ => by omega), ji, Wi w w0 (by omega), ← ji]
            exact s1 w w0 w1
          · obtain ⟨r1, r2⟩ := hj j j0 j1 ji
            obtain ⟨l1, l2, -⟩ := Lj j j0 j1 ji
            by_cases z1 : w = 1
            · rw [z1, l1]; exact r1
            · by_cases z2 : w = 2
              · rw [z2, l2]; exact r2
              · rw [fr _ _ (fun ⟨_, j', a, b, c, d⟩ => by omega), Wj j w j0 w0 (by omega) z1 z2 (by omega)]
                exact s1 w w0 w1
        · by_cases ji : j = i
          · rw [fr _ _ (fun ⟨_, j', a, b, c, d⟩ => by omega), ji, Wi 10 (by decide) (by decide), ← ji]
            exact s2
          · obtain ⟨r1, -⟩ := hj j j0 j1 ji
            obtain ⟨-, -, l10⟩ := Lj j j0 j1 ji
            rw [l10]
            exact ⟨fun z => by omega, fun z => absurd r1 z⟩
        · rw [fr _ _ (by omega), Wj j (11 + p) j0 (by omega) (by omega) (by omega) (by omega) (by omega)]
          exact s4 p p0 p1
      · rw [E 2 (by decide)] at f1
        rw [fr _ _ (by omega), E _ (by omega)]
        exact hp f f0 f1
    have O2 : PO g0 := fun j j0 j1 => by
      rw [E3] at j1
      have o := hS.2.1 j j0 j1
      rw [E 0 (by decide), E 1 (by decide), E 2 (by decide), Wj j 0 j0 (by decide) (by decide) (by decide) (by decide) (by decide)]
      by_cases ji : j = i
      · rw [ji, Wi 10 (by decide) (by decide), Wi 1 (by decide) (by decide), Wi 2 (by decide) (by decide), ← ji]
        exact o
      · obtain ⟨l1, l2, l10⟩ := Lj j j0 j1 ji
        rw [l1, l2, l10]
        exact ⟨o.1, fun z => by omega, fun _ => ⟨rfl, rfl⟩⟩
    have R2 : ShRel h2 15 g0 := by
      refine ⟨by rw [fr _ _ (by omega), E 9 (by decide)]; exact R1.1, fun s w s0 s1 w0 w1 => ?_⟩
      rw [E 9 (by decide)] at s1
      rw [fr _ _ (by omega), E _ (by omega)]
      exact R1.2 s w s0 s1 w0 w1
    refine am_cv ?_
    refine a_al0 (by decide) dX8_course_66 ?_
    refine aw_getR (r := 15) 3 rfl dX8_course_67 fl_X8_28 at_0 rfl rfl ?_
    try simp (disch := omega) only [up_at, up_ne]
    refine aw_callV 3 0 0 dX8_course_70 yw_X3_shiftWind ml_X8_261 in_X3_shiftWind se_X3_shiftWind (ci := 2) rfl at_15 (as := []) rfl rfl ⟨by decide, by decide, by decide, Nat.le_of_ble_eq_true rfl⟩ ?_
    refine ac_shiftWind (Or.inr rfl) (by rw [R2.1, E 9 (by decide)]; exact n9) (fun x hx => ?_)
    have hx2 : x = -1 ∨ (0 ≤ x ∧ x < g0 141 9) := by
      rw [R2.1] at hx
      rcases hx with y | y
      · exact Or.inr ⟨y.1, y.2.1⟩
      · exact Or.inl y.1
    have P3 := PS_shift (Or.inr rfl) P2 R2 hx2
    have G2 : gOk (rst (mShift g0 x)) 72 ∧ 0 ≤ mShift g0 x 141 4 ∧ PS0 False (cShift h2 15 x) 15 (mShift g0 x) ∧ PO (mShift g0 x) := by
      have T1 := T0
      obtain ⟨⟨-, -, t5, t6⟩, -, t3', -, -, -, t9', t10, t4, -⟩ := T1
      refine ⟨?_, ?_, P3, ?_⟩
      · have e5 : (0 ≤ mShift g0 x 141 5 ∧ mShift g0 x 141 5 ≤ 7) ∧ (0 ≤ mShift g0 x 141 6 ∧ mShift g0 x 141 6 ≤ 9) := by
          unfold mShift
          by_cases z : x = -1
          · rw [if_pos z]
            exact ⟨t5, t6⟩
          · have hx3 := hx2.resolve_left z
            rw [if_neg z, up_ne (by omega), up_at, up_at]
            exact t10 x hx3.1 hx3.2
        exact gOk_rst T0 (fun k y a => mShift_f (by omega)) e5.1 e5.2
      · rw [mShift_f (by omega)]
        exact t4.1
      · exact PO_row (g := g0) (by omega) (fun y _ a c d e => mShift_f (by omega)) O2
    refine am_cv ?_
    refine a_al0 (by decide) dX8_course_73 ?_
    refine aw_getR (r := 25) 4 rfl dX8_course_74 fl_X8_34 at_0 rfl rfl ?_
    try simp (disch := omega) only [up_at, up_ne]
    refine a_al0 (by decide) dX8_course_77 ?_
    refine aw_getR (r := 15) 3 rfl dX8_course_78 fl_X8_28 at_0 rfl rfl ?_
    try simp (disch := omega) only [up_at, up_ne]
    refine a_il2 dX8_course_81 ?_
    refine aw_callV 5 0 0 dX8_course_82 yw_X6_carryOut ml_X8_264 in_X6_carryOut se_X6_carryOut (ci := 5) rfl at_25 (as := [_, _]) rfl rfl ⟨by decide, by decide, by decide, Nat.le_of_ble_eq_true rfl⟩ ?_
    refine ac_carryOut (fl := False) (G := fun g => g = mShift g0 x) (Or.inr rfl) q2 ⟨_, rfl⟩ (fun g hg => by rw [hg]; exact G2) (fun h4 f4 q4 qE => ?_)
    obtain ⟨g3, hp3⟩ := qE _ rfl
    have p3 := (q4 _ g3 rfl hp3).1
    have R : ∀ y, y ≠ 7 → rst (mShift g0 x) 141 y = mShift g0 x 141 y := fun y a => rst_f (by omega) (by omega) (by decide) (by decide)
    have e43 : g3 141 3 = h 141 3 := by
      rw [← p3.1.2.2.2.1, f4 15 3 (by omega) (by decide) (by decide) (by decide) (by omega) (by omega), cShift_f (by omega), fr _ _ (by omega), c3]
    have s := (p3.2.1 i q.1 (by rw [e43]; exact q.2.1)).1
    have go := PN_ok n.toNat 0 _ g3 72 hp3 (by decide) (by omega) G2.1 (by omega) (by decide)
    have sg := (go.1.2.1 i q.1 (by rw [e43]; exact q.2.1)).1
    refine am_cv ?_
    refine a_al0 (by decide) dX8_course_85 ?_
    refine aw_getR (r := 15) 3 rfl dX8_course_86 fl_X8_28 at_0 rfl rfl ?_
    try simp (disch := omega) only [up_at, up_ne]
    refine a_il1 dX8_course_89 ?_
    refine aw_iconst dX8_course_90 (by decide) ?_
    refine aw_callV 1 0 0 dX8_course_91 yw_X3_get ml_X8_153 in_X3_get se_X3_get (ci := 2) rfl at_15 (as := [_, _]) rfl rfl ⟨by decide, by decide, by decide, Nat.le_of_ble_eq_true rfl⟩ ?_
    refine ac_get (Or.inr rfl) (by omega) (by decide) ?_
    rw [s 1 (by decide) (by decide)]
    refine am_ci ?_
    try simp (disch := omega) only [up_at, up_ne]
    refine a_al0 (by decide) dX8_course_94 ?_
    refine aw_getR (r := 15) 3 rfl dX8_course_95 fl_X8_28 at_0 rfl rfl ?_
    try simp (disch := omega) only [up_at, up_ne]
    refine a_il1 dX8_course_98 ?_
    refine aw_iconst dX8_course_99 (by decide) ?_
    refine aw_callV 1 0 0 dX8_course_100 yw_X3_get ml_X8_153 in_X3_get se_X3_get (ci := 2) rfl at_15 (as := [_, _]) rfl rfl ⟨by decide, by decide, by decide, Nat.le_of_ble_eq_true rfl⟩ ?_
    refine ac_get (Or.inr rfl) (by omega) (by decide) ?_
    rw [s 2 (by decide) (by decide)]
    refine am_ci ?_
    try simp (disch := omega) only [up_at, up_ne]
    refine aw_callS 1 0 0 dX8_course_103 yw_X8_cellOf ml_X8_268 sm_X8_cellOf (as := [_, _]) rfl rfl ⟨by decide, by decide, by decide, Nat.le_of_ble_eq_true rfl⟩ ?_
    obtain ⟨sg1, sg2, -⟩ := sg
    refine ac_cellOf (by omega) (by omega) ?_
    refine am_ci ?_
    try simp (disch := omega) only [up_at, up_ne]
    refine aw_iret dX8_course_106 rfl ?_
    refine k0 q q2 h4 _ (fun k y a => ?_) (fun g' hc => ?_)
    · rw [f4 k y (by omega) (by omega) (by omega) (by omega) (by omega) (by omega), cShift_f (by omega), fr k y (by omega), f1 k y (by omega)]
    · obtain ⟨g, g1, eg, ⟨x', hx', es⟩, hcn⟩ := hc
      have e9 : g 141 9 = h 141 9 := eg 9 (by decide) (by decide)
      have e4 : g 141 4 = h 141 4 := eg 4 (by decide) (by decide)
      have ex : x = x' := by
        rw [R2.1, E 9 (by decide), ← e9] at hx
        refine isFst_one (fun j j0 j1 => ?_) hx hx'
        rw [cSh_m R2 ⟨j0, by rw [E 9 (by decide), ← e9]; exact j1⟩]
        unfold mSh
        rw [E _ (by omega), eg _ (by omega) (by omega), P2.1.2.2.2.2.1, E 4 (by decide), e4]
      have es2 : g1 = mShift g x := by rw [es, ex]; rfl
      have lr : LR i (rst (mShift g0 x)) g1 := by
        rw [es2]
        refine ⟨⟨q.1, by rw [R 3 (by decide), mShift_f (by omega), E3]; exact q.2.1, by rw [R 3 (by decide), mShift_f (by omega), E3]; exact t3⟩, ⟨?_, ?_, ?_, ?_⟩, fun w w0 w1 z0 z4 z5 z10 => ?_, ?_, ?_, fun j j0 j1 ji => ?_⟩
        · rw [R 0 (by decide), mShift_f (by omega), mShift_f (by omega), E 0 (by decide), eg 0 (by decide) (by decide)]
        · rw [R 1 (by decide), mShift_f (by omega), mShift_f (by omega), E 1 (by decide), eg 1 (by decide) (by decide)]
        · rw [R 5 (by decide)]
          unfold mShift
          by_cases z : x = -1
          · rw [if_pos z, if_pos z, E 5 (by decide), eg 5 (by decide) (by decide)]
          · have hx3 := hx2.resolve_left z
            rw [E 9 (by decide)] at hx3
            rw [if_neg z, if_neg z, up_ne (by omega), up_at, up_ne (by omega), up_at, E _ (by omega), eg _ (by omega) (by omega)]
        · rw [R 6 (by decide)]
          unfold mShift
          by_cases z : x = -1
          · rw [if_pos z, if_pos z, E 6 (by decide), eg 6 (by decide) (by decide)]
          · have hx3 := hx2.resolve_left z
            rw [E 9 (by decide)] at hx3
            rw [if_neg z, if_neg z, up_at, up_at, E _ (by omega), eg _ (by omega) (by omega)]
        · rw [R _ (by omega), mShift_f (by omega), mShift_f (by omega), Wi w w0 (by omega), eg _ (by omega) (by omega)]
        · rw [R _ (by omega), mShift_f (by omega), Wi 10 (by decide) (by decide)]
          exact q.2.2
        · rw [R _ (by omega), mShift_f (by omega), Wi 4 (by decide) (by decide)]
          exact ((RO_HO hS.2.2.2 i q.1 q.2.1).1 q.2.2).1
        · rw [R 3 (by decide), mShift_f (by omega), E3] at j1
          rw [R _ (by omega), mShift_f (by omega), (Lj j j0 j1 ji).2.2]
          decide
      have fin := (Lone_N n.toNat 0 _ g3 g1 g' (by decide) (by omega) lr hp3 hcn).2.2.1
      rw [fin 1 (by decide) (by decide) (by decide) (by decide) (by decide) (by decide), fin 2 (by decide) (by decide) (by decide) (by decide) (by decide) (by decide)]
  refine ac_of (ls := [(2, 0), (0, i), (0, n)]) pn_X8 rfl (Nat.le_of_ble_eq_true rfl) rfl ?_
  refine a_al0 (by decide) dX8_course_0 ?_
  refine a_il1 dX8_course_1 ?_
  refine aw_callV 6 1 6 dX8_course_2 yw_X8_needShip ml_X8_147 in_X8_needShip se_X8_needShip (ci := 7) rfl at_0 (as := [_]) rfl rfl ⟨by decide, by decide, by decide, Nat.le_of_ble_eq_true rfl⟩ ?_
  refine ac_needShip (fun q => ?_) (fun q => ?_)
  · rw [d3] at q
    have s2 := (hS.1.2.1 i q.1 q.2).2.1
    refine am_cv ?_
    refine a_al0 (by decide) dX8_course_5 ?_
    refine aw_getR (r := 5) 2 rfl dX8_course_6 fl_X8_24 at_0 rfl rfl ?_
    try simp (disch := omega) only [up_at, up_ne]
    refine a_il1 dX8_course_9 ?_
    refine aw_callV 2 0 0 dX8_course_10 yw_X3_floats ml_X8_251 in_X3_floats se_X3_floats (ci := 2) rfl at_5 (as := [_]) rfl rfl ⟨by decide, by decide, by decide, Nat.le_of_ble_eq_true rfl⟩ ?_
    refine ac_floats (Or.inl rfl) (by omega) (fun q2 => ?_) (fun q2 => ?_)
    · have q3 : 0 ≤ i ∧ i < h 141 3 ∧ h 141 (46 + 25 * i + 10) = -1 := ⟨q.1, q.2, s2.mpr q2⟩
      refine am_ci ?_
      refine aw_if_ne_y 26 dX8_course_13 (by decide) (by decide) ?_
      refine a_il2 dX8_course_26 ?_
      refine aw_if_lt 36 dX8_course_27 (by decide) (fun c27 => ?_) (fun c27 => ?_)
      · refine aw_throwW (i := 24) rfl rfl dX8_course_36 dX8_course_39 dX8_course_40 dX8_course_43 dX8_course_46 tw_IllegalArgumentException rfl ⟨rfl, rfl⟩ ⟨by decide, by decide, by decide, rfl⟩ ?_
        exact k2 q3 (by omega)
      · refine a_il2 dX8_course_30 ?_
        refine aw_bipush dX8_course_31 (by decide) ?_
        refine aw_icmp_le 47 dX8_course_33 (by decide) (fun c33 => ?_) (fun c33 => ?_)
        · skip
          exact J47 q3 (by omega)
        · refine aw_throwW (i := 24) rfl rfl dX8_course_36 dX8_course_39 dX8_course_40 dX8_course_43 dX8_course_46 tw_IllegalArgumentException rfl ⟨rfl, rfl⟩ ⟨by decide, by decide, by decide, rfl⟩ ?_
          exact k2 q3 (by omega)
    · refine am_ci ?_
      refine aw_if_ne_n 26 dX8_course_13 (by decide) (by decide) ?_
      refine aw_throw (i := 23) rfl rfl dX8_course_16 dX8_course_19 dX8_course_20 dX8_course_22 dX8_course_25 tw_IndexOutOfBoundsException rfl ⟨rfl, rfl⟩ ⟨by decide, by decide, by decide, rfl⟩ ?_
      exact k1 (fun x => (s2.mp x.2.2) q2)
  · rw [d3] at q
    exact am_cx rfl (k1 (fun x => q ⟨x.1, x.2.1⟩))
