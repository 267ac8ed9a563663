/-! a turn: the relation behind it, put together -/
def cEnd (h : AH) : AH := fillH (fillH (up h 5 4 (h 5 4 + 1)) 8 12 37449) 12 4 (-1)
theorem cEnd_f {h : AH} {k x : Int} (a : ¬ (k = 5 ∧ x = 4)) (b : ¬ (k = 8 ∧ 0 ≤ x ∧ x < 12)) (c : ¬ (k = 12 ∧ 0 ≤ x ∧ x < 4)) : cEnd h k x = h k x := by
  unfold cEnd fillH
  rw [if_neg c, if_neg b, up_ne a]
theorem PS_end {h4 g m1 m3 g' : AH} (n3 : g 141 3 ≤ 12) (hG : GOk g m1 m3 g') (hP : PR0 True h4 5 m3) : PS0 True (cEnd h4) 5 g' := by
  obtain ⟨F, E, ⟨E4, E4'⟩, Ef, El, E8, ⟨E3, E3'⟩, ⟨E2, E2'⟩, EL, O, H, P, R⟩ := hG
  obtain ⟨⟨d0, d1, d2, d3, d4, d5, d6, d8⟩, hS, hp, hr, hq, hx⟩ := hP
  refine ⟨⟨?_, ?_, ?_, ?_, ?_, ?_, ?_⟩, fun i i0 i1 => ?_, fun f f0 f1 => ?_⟩
  · rw [cEnd_f (by omega) (by omega) (by omega), E _ (by omega)]; exact d0
  · rw [cEnd_f (by omega) (by omega) (by omega), E _ (by omega)]; exact d1
  · rw [cEnd_f (by omega) (by omega) (by omega), E _ (by omega)]; exact d2
  · rw [cEnd_f (by omega) (by omega) (by omega), E _ (by omega)]; exact d3
  · unfold cEnd fillH
    rw [if_neg (by omega), if_neg (by omega), up_at, E4, d4, E4']
  · rw [cEnd_f (by omega) (by omega) (by omega), E _ (by omega)]; exact d5
  · rw [cEnd_f (by omega) (by omega) (by omega), E _ (by omega)]; exact d6
  · rw [E3] at i1
    obtain ⟨s1, s2, s3, s4, -, -⟩ := hS i i0 (by omega)
    refine ⟨fun w w0 w1 => ?_, ?_, fun q => ?_, fun p p0 p1 => ?_⟩
    · rw [cEnd_f (by omega) (by omega) (by omega), E _ (by omega)]
      exact s1 w w0 w1
    · rw [cEnd_f (by omega) (by omega) (by omega), E _ (by omega)]
      exact s2
    · rw [cEnd_f (by omega) (by omega) (by omega), E _ (by omega)]
      exact s3 q
    · rw [El i p i0 i1 p0 p1, show cEnd h4 (5 + 3) i = 37449 by
        unfold cEnd fillH
        rw [if_neg (by omega), if_pos (by omega)]]
      exact cLt_a ⟨p0, p1⟩
  · rw [E2] at f1
    have n2 := O.2.2.2.2.1
    rw [cEnd_f (by omega) (by omega) (by omega), E _ (by omega)]
    exact hp f f0 (by omega)
theorem PO_end {g m1 m3 g' : AH} (hG : GOk g m1 m3 g') (n3 : g 141 3 ≤ 12) (hO : PO m3) : PO g' := by
  obtain ⟨F, E, ⟨E4, E4'⟩, Ef, El, E8, ⟨E3, E3'⟩, ⟨E2, E2'⟩, EL, O, H, P, R⟩ := hG
  intro i i0 i1
  rw [E3] at i1
  rw [E (46 + 25 * i + 0) (by omega), E (46 + 25 * i + 10) (by omega), E (46 + 25 * i + 1) (by omega), E (46 + 25 * i + 2) (by omega), E 0 (by omega), E 1 (by omega), E 2 (by omega)]
  exact hO i i0 (by omega)
theorem tOk_end {g m1 m3 g' : AH} (hG : GOk g m1 m3 g') (hR : RO g) (h4 : g 141 4 < 1000) (h8 : m1 141 8 = if g 141 8 = 10 then 10 else g 141 8 + 1) : tOk g' := by
  obtain ⟨F, E, ⟨E4, E4'⟩, Ef, El, E8, ⟨E3, E3'⟩, ⟨E2, E2'⟩, EL, O, H, P, R⟩ := hG
  obtain ⟨hT, r4, r8, r7, rs, rf, rl⟩ := hR
  obtain ⟨⟨t1, t2, -, -⟩, t4, t5, t6, t7, t8, t9, t10, t11⟩ := hT
  obtain ⟨⟨-, -, o5, o6⟩, os, ⟨-, -, -, o2⟩, -, -⟩ := O
  have e9 : g' 141 9 = g 141 9 := F 9 (by decide) (by decide) (by omega) (by omega) (by omega)
  unfold tOk bdOk shOk
  rw [E3, E2, E4, e9, E8, F 0 (by decide) (by decide) (by omega) (by omega) (by omega), F 1 (by decide) (by decide) (by omega) (by omega) (by omega), E 5 (by omega), E 6 (by omega)]
  refine ⟨⟨t1, t2, o5, o6⟩, fun j j0 j1 => ⟨?_, fun p p0 p1 => ?_⟩, t5, fun x x0 x1 => ?_, t7, fun q q0 q1 => ?_, t9, fun s s0 s1 => ?_, by omega, by rw [h8]; split <;> omega⟩
  · rw [E (46 + 25 * j + 1) (by omega), E (46 + 25 * j + 2) (by omega), E (46 + 25 * j + 3) (by omega), E (46 + 25 * j + 6) (by omega), E (46 + 25 * j + 7) (by omega), E (46 + 25 * j + 8) (by omega), E (46 + 25 * j + 9) (by omega)]
    exact (os j j0 (by omega)).1
  · rw [El j p j0 j1 p0 p1]
    decide
  · obtain ⟨a, c⟩ := H x x0 (by omega)
    have m5 := (o2 x x0 (by omega)).2.2
    rw [E (46 + 25 * x + 4) (by omega), E (46 + 25 * x + 5) (by omega)]
    refine ⟨?_, m5⟩
    by_cases z : m3 141 (46 + 25 * x + 10) = -1
    · have := a z
      omega
    · have := (c z).1
      omega
  · have a := P q q0 q1
    have c := (rf q q0 q1).2.2
    omega
  · rw [F (10 + 3 * s + 1) (by omega) (by omega) (by omega) (by omega) (by omega), F (10 + 3 * s + 2) (by omega) (by omega) (by omega) (by omega) (by omega)]
    exact t10 s s0 s1
theorem RO_end {h2 g m1 m3 g' : AH} (hG : GOk g m1 m3 g') (hR : RO g) (h4 : g 141 4 < 1000) (h8 : m1 141 8 = if g 141 8 = 10 then 10 else g 141 8 + 1) (hL : LB h2 g m1) : RO g' := by
  have hT' := tOk_end hG hR h4 h8
  obtain ⟨F, E, ⟨E4, E4'⟩, Ef, El, E8, ⟨E3, E3'⟩, ⟨E2, E2'⟩, EL, O, H, P, R⟩ := hG
  obtain ⟨hT, r4, r8, r7, rs, rf, rl⟩ := hR
  obtain ⟨-, -, t5, -, t7, -, t9, -⟩ := hT
  have e8 : m1 141 8 = if g 141 4 + 1 < 10 then g 141 4 + 1 else 10 := by
    rw [h8, r8]
    split <;> split <;> split <;> omega
  refine ⟨hT', by rw [E4]; omega, by rw [E8, E4, e8], ?_, fun i i0 i1 => ?_, fun f f0 f1 => ?_, fun t ht => ?_⟩
  · rw [E 7 (by omega)]
    exact O.2.2.1.2.1
  · rw [E3] at i1
    have hm := H i i0 (by omega)
    refine ⟨nmOk_eq (fun k k0 k1 => ?_) (rs i i0 i1).1, ?_⟩
    · exact (F _ (by omega) (by omega) (by omega) (by omega) (by omega)).symm
    · exact (HOj_eq (E _ (by omega)) (E _ (by omega))).mpr hm
  · rw [E2] at f1
    have a := P f f0 f1
    have c := (rf f f0 f1).2.2
    have z := Ef f f0 (by omega)
    rw [E4]
    exact ⟨Or.inl z, fun q => by omega, by omega, by omega⟩
  · unfold isLg at ht
    rw [E4, E8] at ht
    have m8 : m1 141 8 ≤ 10 := by rw [e8]; split <;> omega
    obtain ⟨q1, q2⟩ := hL t ht.1 (by omega)
    have eA : logA g' t = 496 + 76 * (t - (g 141 4 + 1 - m1 141 8)) := by unfold logA; rw [E4, E8]
    obtain ⟨B, hB⟩ : ∃ B, B = 496 + 76 * (t - (g 141 4 + 1 - m1 141 8)) := ⟨_, rfl⟩
    rw [← hB] at eA q1 q2
    have rB : 496 ≤ B := by omega
    rw [eA]
    refine ⟨fun i p i0 i1 p0 p1 => ?_, fun f f0 f1 => ?_⟩
    · rw [E3] at i1
      rw [EL _ (by omega), EL _ (by omega)]
      exact (q1 i i0 i1).2.2 p p0 p1
    · rw [E2] at f1
      rw [EL _ (by omega)]
      exact (q2 f f0 f1).2
theorem SX_end {h1 h2 h4 g m1 m3 g' : AH} (hG : GOk g m1 m3 g') (hS : SR h1 5 g) (h8 : m1 141 8 = if g 141 8 = 10 then 10 else g 141 8 + 1) (hL : LB h2 g m1) (hP : PR0 True h4 5 m3) (C : ∀ k x, (k = 5 ∧ x = 7) ∨ k = 6 ∨ k = 9 → h4 k x = h1 k x) (D : ∀ k x, k = 13 ∨ k = 14 → h4 k x = h2 k x) : SX (cEnd h4) 5 g' := by
  obtain ⟨F, E, ⟨E4, E4'⟩, Ef, El, E8, ⟨E3, E3'⟩, ⟨E2, E2'⟩, EL, O, H, P, R⟩ := hG
  obtain ⟨-, -, ⟨⟨x1, x2⟩, x3, x4, -, -, -⟩, hT, r4, r8, r7, -⟩ := hS
  obtain ⟨-, -, t5, -, t7, -, t9, -⟩ := hT
  obtain ⟨⟨d0, d1, d2, d3, d4, d5, d6, d8⟩, -, -, hr, -, -⟩ := hP
  have o7 := O.2.2.1.2.1
  refine ⟨⟨?_, ?_⟩, fun i i0 i1 => ?_, fun s w s0 s1 w0 w1 => ?_, fun k w k0 k1 w0 w1 => ?_, fun f f0 f1 => ?_, fun t ht => ?_⟩
  · rw [cEnd_f (by omega) (by omega) (by omega), C _ _ (by omega), F 9 (by decide) (by decide) (by omega) (by omega) (by omega)]
    exact x1
  · rw [cEnd_f (by omega) (by omega) (by omega), E 7 (by omega)]
    exact d8
  · rw [E3] at i1
    rw [cEnd_f (by omega) (by omega) (by omega), C _ _ (by omega), x3 i i0 i1]
    exact encN_eq 8 (fun k a c => (F _ (by omega) (by omega) (by omega) (by omega) (by omega)).symm)
  · rw [F 9 (by decide) (by decide) (by omega) (by omega) (by omega)] at s1
    rw [cEnd_f (by omega) (by omega) (by omega), C _ _ (by omega), F _ (by omega) (by omega) (by omega) (by omega) (by omega)]
    exact x4 s w s0 s1 w0 w1
  · rw [E 7 (by omega)] at k1
    rw [cEnd_f (by omega) (by omega) (by omega), E _ (by omega)]
    exact hr k w k0 k1 w0 w1
  · rw [E2] at f1
    unfold mSN
    rw [if_neg (by rw [Ef f f0 (by omega)]; decide)]
    unfold cEnd fillH
    rw [if_pos (by omega)]
  · unfold isLg at ht
    rw [E4, E8] at ht
    have b8 : 0 ≤ g 141 8 ∧ g 141 8 ≤ 10 := by rw [r8]; split <;> omega
    have m8 : m1 141 8 ≤ 10 := by rw [h8]; split <;> omega
    obtain ⟨q1, q2⟩ := hL t ht.1 (by omega)
    have eA : logA g' t = 496 + 76 * (t - (g 141 4 + 1 - m1 141 8)) := by unfold logA; rw [E4, E8]
    obtain ⟨B, hB⟩ : ∃ B, B = 496 + 76 * (t - (g 141 4 + 1 - m1 141 8)) := ⟨_, rfl⟩
    rw [← hB] at eA q1 q2
    have rB : 496 ≤ B := by omega
    rw [eA]
    refine ⟨fun i i0 i1 => ?_, fun f f0 f1 => ?_⟩
    · rw [E3] at i1
      rw [cEnd_f (by omega) (by omega) (by omega), D _ _ (by omega)]
      obtain ⟨a, c, -⟩ := q1 i i0 i1
      refine ⟨fun p p0 p1 => ?_, ?_⟩
      · rw [EL _ (by omega)]
        exact a p p0 p1
      · rw [EL _ (by omega)]
        exact c
    · rw [E2] at f1
      rw [cEnd_f (by omega) (by omega) (by omega), D _ _ (by omega), EL _ (by omega)]
      exact (q2 f f0 f1).1
