/-! a sheet whose letters are others -/
theorem SR_lt {h g h' g' : AH} (hS : SR h 5 g) (C : ∀ k x, ¬ (k = 8 ∧ 0 ≤ x ∧ x < g 141 3) → h' k x = h k x) (M : ∀ x, ¬ (46 ≤ x ∧ x < 46 + 25 * g 141 3 ∧ 11 ≤ (x - 46) % 25 ∧ (x - 46) % 25 ≤ 16) → g' 141 x = g 141 x) (V : ∀ i p, 0 ≤ i → i < g 141 3 → 0 ≤ p → p ≤ 5 → cLt (h' 8 i) p = g' 141 (46 + 25 * i + (11 + p)) ∧ 1 ≤ g' 141 (46 + 25 * i + (11 + p)) ∧ g' 141 (46 + 25 * i + (11 + p)) ≤ 4) : SR h' 5 g' := by
  obtain ⟨⟨⟨d0, d1, d2, d3, d4, d5, d6⟩, hP, hp⟩, hO, ⟨⟨x1, x2⟩, x3, x4, x5, x6, x7⟩, hT, r4, r8, r7, rs, rf, rl⟩ := hS
  obtain ⟨⟨t1, t2, t3, t3b⟩, t4, t5, t6, t7, t8, t9, t10, t11⟩ := hT
  have b8 : 0 ≤ g 141 8 ∧ g 141 8 ≤ 10 := by rw [r8]; split <;> omega
  have e0 : g' 141 0 = g 141 0 := M _ (by omega)
  have e1 : g' 141 1 = g 141 1 := M _ (by omega)
  have e2 : g' 141 2 = g 141 2 := M _ (by omega)
  have e3 : g' 141 3 = g 141 3 := M _ (by omega)
  have e4 : g' 141 4 = g 141 4 := M _ (by omega)
  have e5 : g' 141 5 = g 141 5 := M _ (by omega)
  have e6 : g' 141 6 = g 141 6 := M _ (by omega)
  have e7 : g' 141 7 = g 141 7 := M _ (by omega)
  have e8 : g' 141 8 = g 141 8 := M _ (by omega)
  have e9 : g' 141 9 = g 141 9 := M _ (by omega)
  have eL : ∀ t, logA g' t = logA g t := fun t => by unfold logA; rw [e4, e8]
  have eI : ∀ t, isLg g' t → isLg g t := fun t q => by unfold isLg at q ⊢; rw [e4, e8] at q; exact q
  have aL : ∀ t, isLg g t → 496 ≤ logA g t ∧ logA g t ≤ 1180 := fun t q => by unfold isLg at q; unfold logA; omega
  have S : ∀ i w, 0 ≤ i → 0 ≤ w ∧ w ≤ 24 ∧ ¬ (11 ≤ w ∧ w ≤ 16) → g' 141 (46 + 25 * i + w) = g 141 (46 + 25 * i + w) := fun i w a c => M _ (by omega)
  refine ⟨⟨⟨?_, ?_, ?_, ?_, ?_, ?_, ?_⟩, fun i i0 i1 => ?_, fun q q0 q1 => ?_⟩, fun i i0 i1 => ?_, ⟨⟨?_, ?_⟩, fun i i0 i1 => ?_, fun q w a c d f => ?_, fun k w a c d f => ?_, fun q q0 q1 => ?_, fun t ht => ?_⟩, ?_, ?_, ?_, ?_, fun i i0 i1 => ?_, fun q q0 q1 => ?_, fun t ht => ?_⟩
  · rw [C _ _ (by omega), e0, d0]
  · rw [C _ _ (by omega), e1, d1]
  · rw [C _ _ (by omega), e2, d2]
  · rw [C _ _ (by omega), e3, d3]
  · rw [C _ _ (by omega), e4, d4]
  · rw [C _ _ (by omega), e5, d5]
  · rw [C _ _ (by omega), e6, d6]
  · rw [e3] at i1
    obtain ⟨s1, s2, s3, s4⟩ := hP i i0 i1
    refine ⟨fun w w0 w1 => ?_, ?_, fun q => ?_, fun p p0 p1 => ?_⟩
    · rw [C _ _ (by omega), S i w i0 (by omega)]
      exact s1 w w0 w1
    · rw [C _ _ (by omega), S i 10 i0 (by decide)]
      exact s2
    · rw [C _ _ (by omega), S i 10 i0 (by decide)]
      exact s3 q
    · exact (V i p i0 i1 p0 p1).1
  · rw [e2] at q1
    rw [C _ _ (by omega), M _ (by omega)]
    exact hp q q0 q1
  · rw [e3] at i1
    rw [S i 0 i0 (by decide), S i 10 i0 (by decide), S i 1 i0 (by decide), S i 2 i0 (by decide), e0, e1, e2]
    exact hO i i0 i1
  · rw [C _ _ (by omega), e9]; exact x1
  · rw [C _ _ (by omega), e7]; exact x2
  · rw [e3] at i1
    rw [C _ _ (by omega), x3 i i0 i1]
    exact encN_eq 8 (fun k a c => (S i _ i0 (by omega)).symm)
  · rw [e9] at c
    rw [C _ _ (by omega), M _ (by omega)]
    exact x4 q w a c d f
  · rw [e7] at c
    rw [C _ _ (by omega), M _ (by omega)]
    exact x5 k w a c d f
  · rw [e2] at q1
    rw [C _ _ (by omega), x6 q q0 q1]
    unfold mSN
    rw [M _ (by omega), M _ (by omega)]
  · have ht := eI t ht
    have ha := aL t ht
    obtain ⟨q1, q2⟩ := x7 t ht
    rw [eL]
    refine ⟨fun i i0 i1 => ?_, fun f f0 f1 => ?_⟩
    · rw [e3] at i1
      obtain ⟨q3, q4⟩ := q1 i i0 i1
      refine ⟨fun p p0 p1 => ?_, ?_⟩
      · rw [C _ _ (by omega), M _ (by omega)]
        exact q3 p p0 p1
      · rw [C _ _ (by omega), M _ (by omega)]
        exact q4
    · rw [e2] at f1
      rw [C _ _ (by omega), M _ (by omega)]
      exact q2 f f0 f1
  · unfold tOk bdOk shOk
    rw [e0, e1, e2, e3, e4, e5, e6, e8, e9]
    refine ⟨⟨t1, t2, t3, t3b⟩, fun j j0 j1 => ⟨?_, fun p p0 p1 => ?_⟩, t5, fun x x0 x1 => ?_, t7, fun q q0 q1 => ?_, t9, fun s s0 s1 => ?_, t11⟩
    · rw [S j 1 j0 (by decide), S j 2 j0 (by decide), S j 3 j0 (by decide), S j 6 j0 (by decide), S j 7 j0 (by decide), S j 8 j0 (by decide), S j 9 j0 (by decide)]
      exact (t4 j j0 j1).1
    · exact (V j p j0 j1 p0 p1).2
    · rw [S x 4 x0 (by decide), S x 5 x0 (by decide)]
      exact t6 x x0 x1
    · rw [M _ (by omega)]
      exact t8 q q0 q1
    · rw [M _ (by omega), M _ (by omega)]
      exact t10 s s0 s1
  · rw [e4]; exact r4
  · rw [e8, e4]; exact r8
  · rw [e7]; exact r7
  · rw [e3] at i1
    obtain ⟨a, c⟩ := rs i i0 i1
    rw [S i 10 i0 (by decide), S i 4 i0 (by decide)]
    exact ⟨nmOk_eq (fun k k0 k1 => (S i _ i0 (by omega)).symm) a, c⟩
  · rw [e2] at q1
    obtain ⟨a, c, d, e⟩ := rf q q0 q1
    rw [e4, M (34 + 3 * q) (by omega), M (34 + 3 * q + 1) (by omega), M (34 + 3 * q + 2) (by omega)]
    exact ⟨a, c, d, e⟩
  · have ht := eI t ht
    have ha := aL t ht
    obtain ⟨q1, q2⟩ := rl t ht
    rw [eL]
    refine ⟨fun i p i0 i1 p0 p1 => ?_, fun f f0 f1 => ?_⟩
    · rw [e3] at i1
      rw [M _ (by omega), M _ (by omega)]
      exact q1 i p i0 i1 p0 p1
    · rw [e2] at f1
      rw [M _ (by omega)]
      exact q2 f f0 f1
