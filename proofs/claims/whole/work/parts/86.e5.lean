/-! a turn: the relation behind it -/
/-- both logs behind logTurn and logs -/
def LB (h2 g m1 : AH) : Prop := ∀ t, g 141 4 + 1 - m1 141 8 ≤ t → t ≤ g 141 4 → (∀ i, 0 ≤ i → i < g 141 3 → (∀ p, 0 ≤ p → p ≤ 5 → cLt (h2 13 (t % 10 * 12 + i)) p = m1 141 (496 + 76 * (t - (g 141 4 + 1 - m1 141 8)) + 4 + 6 * i + p)) ∧ (h2 13 (t % 10 * 12 + i) = 0 ↔ m1 141 (496 + 76 * (t - (g 141 4 + 1 - m1 141 8)) + 4 + 6 * i + 0) = 0) ∧ ∀ p, 0 ≤ p → p ≤ 5 → (0 ≤ m1 141 (496 + 76 * (t - (g 141 4 + 1 - m1 141 8)) + 4 + 6 * i + p) ∧ m1 141 (496 + 76 * (t - (g 141 4 + 1 - m1 141 8)) + 4 + 6 * i + p) ≤ 4) ∧ (m1 141 (496 + 76 * (t - (g 141 4 + 1 - m1 141 8)) + 4 + 6 * i + p) = 0 ↔ m1 141 (496 + 76 * (t - (g 141 4 + 1 - m1 141 8)) + 4 + 6 * i + 0) = 0)) ∧ ∀ f, 0 ≤ f → f < g 141 2 → h2 14 (t % 10 * 4 + f) = m1 141 (496 + 76 * (t - (g 141 4 + 1 - m1 141 8)) + f) ∧ -1 ≤ m1 141 (496 + 76 * (t - (g 141 4 + 1 - m1 141 8)) + f)
theorem LB_of {h1 h2 g m1 : AH} (hS : SR h1 5 g) (hc : cLogT h1 5 h2) (hl : Logged g m1) : LB h2 g m1 := by
  obtain ⟨⟨⟨d0, d1, d2, d3, d4, d5, d6⟩, hP, hp⟩, hO, ⟨⟨x1, x2⟩, x3, x4, x5, x6, x7⟩, hT, r4, r8, r7, rs, rf, rl⟩ := hS
  obtain ⟨-, t2, n3, -, n2, -, -, -, -, b8⟩ := hT
  obtain ⟨cf, co, cs⟩ := hc
  rw [d4, d3] at co
  rw [d4, d2] at cs
  rw [d4, d3, d2] at cf
  have co' : ∀ i, 0 ≤ i → i < g 141 3 → h2 13 (g 141 4 % 10 * 12 + i) = if h1 7 (i * 11 + 1) = -1 then 0 else h1 8 i := co
  have cs' : ∀ f, 0 ≤ f → f < g 141 2 → h2 14 (g 141 4 % 10 * 4 + f) = h1 12 f := cs
  have cf' : ∀ k x, ¬ (k = 13 ∧ g 141 4 % 10 * 12 ≤ x ∧ x < g 141 4 % 10 * 12 + g 141 3) → ¬ (k = 14 ∧ g 141 4 % 10 * 4 ≤ x ∧ x < g 141 4 % 10 * 4 + g 141 2) → h2 k x = h1 k x := cf
  intro t t0 t1
  have A := fun y a c => Logged_at (t := t) (y := y) b8 n3 n2 hl ⟨t0, t1⟩ ⟨a, c⟩
  obtain ⟨B, hB⟩ : ∃ B, B = 496 + 76 * (t - (g 141 4 + 1 - m1 141 8)) := ⟨_, rfl⟩
  rw [← hB] at A ⊢
  clear cf co cs
  by_cases z : t = g 141 4
  · refine ⟨fun i i0 i1 => ?_, fun f f0 f1 => ?_⟩
    · obtain ⟨s1, s2, s3, s4⟩ := hP i i0 i1
      have s4' : ∀ p, 0 ≤ p → p ≤ 5 → cLt (h1 8 i) p = g 141 (46 + 25 * i + (11 + p)) := s4
      have s2' : g 141 (46 + 25 * i + 10) = -1 ↔ ¬ h1 7 (i * 11 + 1) = -1 := s2
      have lt := (t2 i i0 i1).2
      have V : ∀ p, 0 ≤ p → p ≤ 5 → m1 141 (B + 4 + 6 * i + p) = if g 141 (46 + 25 * i + 10) = -1 then g 141 (46 + 25 * i + (11 + p)) else 0 := fun p p0 p1 => by
        rw [show B + 4 + 6 * i + p = B + (4 + 6 * i + p) by omega, (A (4 + 6 * i + p) (by omega) (by omega)).1, if_pos z]
        unfold lgV
        rw [if_neg (by omega), show (4 + 6 * i + p - 4) / 6 = i by omega, show (4 + 6 * i + p - 4) % 6 = p by omega]
      rw [z, co' i i0 i1]
      rw [V 0 (by decide) (by decide)]
      by_cases w : g 141 (46 + 25 * i + 10) = -1
      · have z8 : ¬ h1 8 i = 0 := fun w => by
          have q := s4' 0 (by decide) (by decide)
          rw [w, cLt_0 (by decide)] at q
          have := (lt 0 (by decide) (by decide)).1
          omega
        have l0 := lt 0 (by decide) (by decide)
        rw [if_neg (s2'.mp w), if_pos w]
        refine ⟨fun p p0 p1 => ?_, ⟨fun q => absurd q z8, fun q => by omega⟩, fun p p0 p1 => ?_⟩
        · rw [V p p0 p1, if_pos w]
          exact s4' p p0 p1
        · have lp := lt p p0 p1
          rw [V p p0 p1, if_pos w]
          exact ⟨by omega, ⟨fun q => by omega, fun q => by omega⟩⟩
      · have c1 : h1 7 (i * 11 + 1) = -1 := Classical.byContradiction (fun q => w (s2'.mpr q))
        rw [if_pos c1, if_neg w]
        refine ⟨fun p p0 p1 => ?_, ⟨fun _ => rfl, fun _ => rfl⟩, fun p p0 p1 => ?_⟩
        · rw [V p p0 p1, if_neg w]
          exact cLt_0 ⟨p0, p1⟩
        · rw [V p p0 p1, if_neg w]
          exact ⟨by decide, ⟨fun _ => rfl, fun _ => rfl⟩⟩
    · have e : m1 141 (B + f) = mSN g f := by
        rw [(A f f0 (by omega)).1, if_pos z]
        unfold lgV
        rw [if_pos (by omega), if_pos f1]
      rw [e, z, cs' f f0 f1]
      refine ⟨x6 f f0 f1, ?_⟩
      obtain ⟨-, q, -⟩ := rf f f0 f1
      unfold mSN
      by_cases w : g 141 (34 + 3 * f + 1) = 1
      · have := q w
        rw [if_pos w]
        omega
      · rw [if_neg w]
        omega
  · have lg := (A 0 (by decide) (by omega)).2 z
    have lg2 := lg
    unfold isLg at lg2
    have m8 : m1 141 8 ≤ 10 := by rw [(Logged_f b8 hl).2]; split <;> omega
    have ne : t % 10 ≠ g 141 4 % 10 := by omega
    obtain ⟨q1, q2⟩ := x7 t lg
    obtain ⟨q3, q4⟩ := rl t lg
    have V : ∀ y, 0 ≤ y → y < 4 + 6 * g 141 3 → m1 141 (B + y) = g 141 (logA g t + y) := fun y a c => by
      rw [(A y a c).1, if_neg z]
    have q1' : ∀ i, 0 ≤ i → i < g 141 3 → (∀ p, 0 ≤ p → p ≤ 5 → cLt (h1 13 (t % 10 * 12 + i)) p = g 141 (logA g t + 4 + 6 * i + p)) ∧ (h1 13 (t % 10 * 12 + i) = 0 ↔ g 141 (logA g t + 4 + 6 * i + 0) = 0) := q1
    have q2' : ∀ f, 0 ≤ f → f < g 141 2 → h1 14 (t % 10 * 4 + f) = g 141 (logA g t + f) := q2
    have W : ∀ i p, 0 ≤ i → i < g 141 3 → 0 ≤ p → p ≤ 5 → m1 141 (B + 4 + 6 * i + p) = g 141 (logA g t + 4 + 6 * i + p) := fun i p a c d e => by
      rw [show B + 4 + 6 * i + p = B + (4 + 6 * i + p) by omega, V _ (by omega) (by omega)]
      congr 1
      omega
    refine ⟨fun i i0 i1 => ?_, fun f f0 f1 => ?_⟩
    · rw [cf' 13 (t % 10 * 12 + i) (by omega) (by omega), W i 0 i0 i1 (by decide) (by decide)]
      obtain ⟨a1, a2⟩ := q1' i i0 i1
      refine ⟨fun p p0 p1 => ?_, a2, fun p p0 p1 => ?_⟩
      · rw [W i p i0 i1 p0 p1]
        exact a1 p p0 p1
      · rw [W i p i0 i1 p0 p1]
        exact q3 i p i0 i1 p0 p1
    · rw [cf' 14 (t % 10 * 4 + f) (by omega) (by omega), V f f0 (by omega)]
      exact ⟨q2' f f0 f1, q4 f f0 f1⟩
