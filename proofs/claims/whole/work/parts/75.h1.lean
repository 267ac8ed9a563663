/-! hulls and points in a turn -/
def HRj (g : AH) (j : Int) : Prop := (g 141 (46 + 25 * j + 10) = -1 → g 141 (46 + 25 * j + 4) ≤ 99) ∧ (¬ g 141 (46 + 25 * j + 10) = -1 → g 141 (46 + 25 * j + 4) = 0 ∧ 0 ≤ g 141 (46 + 25 * j + 10))
def HOj (g : AH) (j : Int) : Prop := (g 141 (46 + 25 * j + 10) = -1 → 1 ≤ g 141 (46 + 25 * j + 4) ∧ g 141 (46 + 25 * j + 4) ≤ 99) ∧ (¬ g 141 (46 + 25 * j + 10) = -1 → g 141 (46 + 25 * j + 4) = 0 ∧ 0 ≤ g 141 (46 + 25 * j + 10))
def HR (g : AH) : Prop := ∀ j, 0 ≤ j → j < g 141 3 → HRj g j
def HO (g : AH) : Prop := ∀ j, 0 ≤ j → j < g 141 3 → HOj g j
theorem HRj_eq {g g' : AH} {j : Int} (e4 : g' 141 (46 + 25 * j + 4) = g 141 (46 + 25 * j + 4)) (e10 : g' 141 (46 + 25 * j + 10) = g 141 (46 + 25 * j + 10)) : HRj g' j ↔ HRj g j := by
  unfold HRj
  rw [e4, e10]
theorem HOj_eq {g g' : AH} {j : Int} (e4 : g' 141 (46 + 25 * j + 4) = g 141 (46 + 25 * j + 4)) (e10 : g' 141 (46 + 25 * j + 10) = g 141 (46 + 25 * j + 10)) : HOj g' j ↔ HOj g j := by
  unfold HOj
  rw [e4, e10]
theorem HO_R {g : AH} {j : Int} (h : HOj g j) : HRj g j := ⟨fun q => (h.1 q).2, h.2⟩
theorem RR_HR : ∀ (m : Nat) (p : Int) (g g' : AH) (c : Int), RR m p g g' → rOk g c → (m : Int) ≤ c → HR g → HR g'
  | 0, p, g, g', c, hr, _, _, hh => by
    rw [hr.1]
    exact hh
  | m + 1, p, g, g', c, hr, ho, hc, hh => by
    obtain ⟨u, v, u0, uv, vn, q1, q2⟩ := hr
    have h7 := ho.2.1
    have hn := ho.1
    have cl := isFC_cl hn.2 u0 uv vn q1
    have v0 : 0 ≤ v := by omega
    have ho2 : rOk g ((c - 1) + 1) := by rw [show c - 1 + 1 = c by omega]; exact ho
    have r1 := rOk_st (p := p) u0 uv vn ho2
    refine RR_HR m p (stH g u v p) g' (c - 1) q2 r1 (by omega) (fun j j0 j1 => ?_)
    rw [stH_d h7.1 u0 v0 (by decide)] at j1
    have mh := stH_hi (p := p) h7.1 (i := u) (j := v) (by omega) (by omega) (by omega)
    have hj := hh j j0 j1
    have e10 : stH g u v p 141 (46 + 25 * j + 10) = g 141 (46 + 25 * j + 10) := stH_i h7.1 u0 v0 ⟨j0, by omega⟩ (by decide)
    have l1 := (mLoss_rg (i := u) (ho.2.2.2 v v0 vn).2.2).1
    have l2 := (mLoss_rg (i := v) (ho.2.2.2 u u0 (by omega)).2.2).1
    by_cases ju : j = u
    · unfold HRj at hj ⊢
      rw [e10]
      rw [ju] at hj ⊢
      rw [mh.1]
      refine ⟨fun q => ?_, fun q => absurd cl.1 q⟩
      have := hj.1 q
      omega
    · by_cases jv : j = v
      · unfold HRj at hj ⊢
        rw [e10]
        rw [jv] at hj ⊢
        rw [mh.2.1]
        refine ⟨fun q => ?_, fun q => absurd cl.2.1 q⟩
        have := hj.1 q
        omega
      · exact (HRj_eq (stH_i2 h7.1 u0 v0 ⟨j0, by omega⟩ (by decide) ju jv) e10).mpr hj
theorem SK_HO : ∀ (m : Nat) (i : Int) (g g' : AH), SK m i g g' → 0 ≤ i → i + m = g 141 3 → 0 ≤ g 141 2 ∧ g 141 2 ≤ 4 → g 141 3 ≤ 12 → 0 ≤ g 141 4 → (∀ x, 0 ≤ x → x < g 141 3 → 0 ≤ g 141 (46 + 25 * x + 5) ∧ g 141 (46 + 25 * x + 5) ≤ 9) → (∀ j, 0 ≤ j → j < i → HOj g j) → (∀ j, i ≤ j → j < g 141 3 → HRj g j) → HO g' ∧ ∀ f, 0 ≤ f → f < g 141 2 → g 141 (34 + 3 * f) ≤ g' 141 (34 + 3 * f) ∧ g' 141 (34 + 3 * f) ≤ g 141 (34 + 3 * f) + 9 * m
  | 0, i, g, g', hs, i0, im, hf, hn, h4, hm, ha, hb => by
    rw [show g' = g from hs]
    exact ⟨fun j j0 j1 => ha j j0 (by omega), fun f f0 f1 => ⟨by omega, by omega⟩⟩
  | m + 1, i, g, g', ⟨g1, ⟨c1, c2⟩, c3⟩, i0, im, hf, hn, h4, hm, ha, hb => by
    have il : i < g 141 3 := by omega
    have hbi := hb i (by omega) il
    by_cases z : g 141 (46 + 25 * i + 10) = -1 ∧ g 141 (46 + 25 * i + 4) ≤ 0
    · obtain ⟨fr, pt, w1, w2, w4, w10⟩ := c1 z
      have E : ∀ x, x < 34 → g1 141 x = g 141 x := fun x a => fr _ _ (by omega)
      have E2 := E 2 (by decide)
      have E3 := E 3 (by decide)
      have E4 := E 4 (by decide)
      have Em : ∀ j w, 0 ≤ j → 0 ≤ w → w ≤ 24 → j ≠ i → g1 141 (46 + 25 * j + w) = g 141 (46 + 25 * j + w) := fun j w a c e f => fr _ _ (by omega)
      have e5 : ∀ j, 0 ≤ j → g1 141 (46 + 25 * j + 5) = g 141 (46 + 25 * j + 5) := fun j a => fr _ _ (by omega)
      obtain ⟨r1, r2⟩ := SK_HO m (i + 1) g1 g' c3 (by omega) (by omega) (by rw [E2]; exact hf) (by rw [E3]; exact hn) (by rw [E4]; exact h4) (fun x x0 x1 => by rw [e5 x x0]; rw [E3] at x1; exact hm x x0 x1) (fun j j0 j1 => by
        by_cases e : j = i
        · unfold HOj
          rw [e, w4, w10]
          exact ⟨fun q => by omega, fun _ => ⟨rfl, h4⟩⟩
        · exact (HOj_eq (Em j 4 j0 (by decide) (by decide) e) (Em j 10 j0 (by decide) (by decide) e)).mpr (ha j j0 (by omega))) (fun j j0 j1 => by
        rw [E3] at j1
        have e : j ≠ i := by omega
        exact (HRj_eq (Em j 4 (by omega) (by decide) (by decide) e) (Em j 10 (by omega) (by decide) (by decide) e)).mpr (hb j (by omega) j1))
      refine ⟨r1, fun f f0 f1 => ?_⟩
      have r3 := r2 f f0 (by rw [E2]; exact f1)
      obtain ⟨p1, p2⟩ := pt f f0 f1
      have mi := hm i i0 il
      have : g 141 (34 + 3 * f) ≤ g1 141 (34 + 3 * f) ∧ g1 141 (34 + 3 * f) ≤ g 141 (34 + 3 * f) + 9 := by
        by_cases y : mHit g i f (g 141 3) ∧ ¬ f = g 141 (46 + 25 * i + 0)
        · rw [p1 y]; omega
        · rw [p2 y]; omega
      omega
    · have e1 := c2 z
      rw [e1] at c3
      obtain ⟨r1, r2⟩ := SK_HO m (i + 1) g g' c3 (by omega) (by omega) hf hn h4 hm (fun j j0 j1 => by
        by_cases e : j = i
        · rw [e]
          exact ⟨fun q => ⟨by omega, hbi.1 q⟩, hbi.2⟩
        · exact ha j j0 (by omega)) (fun j j0 j1 => hb j (by omega) j1)
      refine ⟨r1, fun f f0 f1 => ?_⟩
      have := r2 f f0 f1
      omega
theorem Pulse_HO {g g' : AH} {p c : Int} (hp : 0 ≤ p ∧ p ≤ 5) (hc : 12 ≤ c ∧ c ≤ 1000) (ho : gOk g c) (h4 : 0 ≤ g 141 4) (hm : PulseM g p g') (hh : HO g) : HO g' ∧ ∀ f, 0 ≤ f → f < g 141 2 → g 141 (34 + 3 * f) ≤ g' 141 (34 + 3 * f) ∧ g' 141 (34 + 3 * f) ≤ g 141 (34 + 3 * f) + 108 := by
  obtain ⟨h1, h2, h3, m, hs, hr, hcm, hsk⟩ := hm
  have pu := gOk_pu hp hc.1 ho
  have hn := ho.2.2.1.1
  have w1 := W_steer pu h4 hs
  obtain ⟨f1, -⟩ := hs
  have e13 : h1 141 3 = g 141 3 := f1 _ _ (by omega) (by omega)
  have hr1 : HR h1 := fun j j0 j1 => by
    rw [e13] at j1
    exact (HRj_eq (f1 _ _ (by omega) (by omega)) (f1 _ _ (by omega) (by omega))).mpr (HO_R (hh j j0 j1))
  obtain ⟨m1, e23, -, -⟩ := RR_ok m p h1 h2 12 hr w1.2.1
  have m12 := (cnt_rg (h1 149) 12).2
  have hr2 := RR_HR m p h1 h2 12 hr w1.2.1 (by omega) hr1
  obtain ⟨-, k2, -⟩ := RR_keep m p h1 h2 hr w1.2.1.2.1.1 w1.2.1.1.2
  obtain ⟨c1, -⟩ := hcm
  have e33 : h3 141 3 = g 141 3 := by rw [c1 141 3 (by omega) (by omega), e23, e13]
  have hr3 : HR h3 := fun j j0 j1 => by
    rw [e33] at j1
    exact (HRj_eq (c1 _ _ (by omega) (by omega)) (c1 _ _ (by omega) (by omega))).mpr (hr2 j j0 (by rw [e23, e13]; exact j1))
  have E : ∀ x, x < 46 → x ≠ 7 → h3 141 x = g 141 x := fun x a c => by rw [c1 141 x (by omega) (by omega), k2 x (by omega) c (by omega), f1 141 x (by omega) (by omega)]
  have e5 : ∀ j, 0 ≤ j → j ≤ 11 → h3 141 (46 + 25 * j + 5) = g 141 (46 + 25 * j + 5) := fun j a d => by rw [c1 _ _ (by omega) (by omega), k2 _ (by omega) (by omega) (by omega), f1 _ _ (by omega) (by omega)]
  have od := ho.2.2.2.2
  have od1 := od.1
  obtain ⟨r1, r2⟩ := SK_HO (g 141 3).toNat 0 h3 g' hsk (by decide) (by omega) (by rw [E 2 (by decide) (by decide)]; exact od.1) (by omega) (by rw [E 4 (by decide) (by decide)]; exact h4) (fun x x0 x1 => by
    rw [e33] at x1
    rw [e5 x x0 (by omega)]
    exact od.2.2.1 x x0 x1) (fun j j0 j1 => by omega) (fun j j0 j1 => hr3 j j0 j1)
  refine ⟨r1, fun f f0 f1' => ?_⟩
  have := r2 f f0 (by rw [E 2 (by decide) (by decide)]; exact f1')
  rw [E _ (by omega) (by omega)] at this
  omega
theorem PN_HO : ∀ (m : Nat) (p : Int) (g g' : AH) (c : Int), PN m p g g' → 0 ≤ p → p + m ≤ 6 → gOk g c → 12 * (m : Int) ≤ c → c ≤ 1000 → 0 ≤ g 141 4 → HO g → HO g' ∧ ∀ f, 0 ≤ f → f < g 141 2 → g 141 (34 + 3 * f) ≤ g' 141 (34 + 3 * f) ∧ g' 141 (34 + 3 * f) ≤ g 141 (34 + 3 * f) + 108 * m
  | 0, p, g, g', c, hp, _, _, _, _, _, _, hh => by
    rw [show g' = g from hp]
    exact ⟨hh, fun f f0 f1 => ⟨by omega, by omega⟩⟩
  | m + 1, p, g, g', c, ⟨g1, a, d⟩, p0, pm, ho, hc, hc2, h4, hh => by
    obtain ⟨o1, k1⟩ := PulseM_ok (c := c) ⟨by omega, hc2⟩ ho a ⟨p0, by omega⟩
    obtain ⟨r1, r2⟩ := Pulse_HO ⟨p0, by omega⟩ ⟨by omega, hc2⟩ ho h4 a hh
    have e4 : g1 141 4 = g 141 4 := k1.2 4 (by decide) (by decide) (by omega) (by omega)
    have e2 : g1 141 2 = g 141 2 := k1.2 2 (by decide) (by decide) (by omega) (by omega)
    obtain ⟨s1, s2⟩ := PN_HO m (p + 1) g1 g' (c - 12) d (by omega) (by omega) o1 (by omega) (by omega) (by rw [e4]; exact h4) r1
    refine ⟨s1, fun f f0 f1 => ?_⟩
    have t1 := r2 f f0 f1
    have t2 := s2 f f0 (by rw [e2]; exact f1)
    omega
