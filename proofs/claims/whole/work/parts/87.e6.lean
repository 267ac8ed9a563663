/-! a turn: the relation behind it, in parts -/
theorem PS_log {fl : Prop} {h h2 g : AH} (hP : PS0 fl h 5 g) (C : ∀ k x, k ≠ 13 → k ≠ 14 → h2 k x = h k x) : PS0 fl h2 5 g := by
  obtain ⟨⟨d0, d1, d2, d3, d4, d5, d6⟩, hS, hp⟩ := hP
  refine ⟨⟨?_, ?_, ?_, ?_, ?_, ?_, ?_⟩, fun i i0 i1 => ?_, fun f f0 f1 => ?_⟩
  · rw [C _ _ (by decide) (by decide)]; exact d0
  · rw [C _ _ (by decide) (by decide)]; exact d1
  · rw [C _ _ (by decide) (by decide)]; exact d2
  · rw [C _ _ (by decide) (by decide)]; exact d3
  · rw [C _ _ (by decide) (by decide)]; exact d4
  · rw [C _ _ (by decide) (by decide)]; exact d5
  · rw [C _ _ (by decide) (by decide)]; exact d6
  · obtain ⟨s1, s2, s3, s4⟩ := hS i i0 i1
    rw [C (5 + 3) _ (by decide) (by decide)]
    refine ⟨fun w w0 w1 => ?_, ?_, fun q => ?_, s4⟩
    · rw [C _ _ (by decide) (by decide)]
      exact s1 w w0 w1
    · rw [C _ _ (by decide) (by decide)]
      exact s2
    · rw [C _ _ (by decide) (by decide)]
      exact s3 q
  · rw [C _ _ (by decide) (by decide)]
    exact hp f f0 f1
/-- what the model's turn keeps of a row, and what it leaves -/
def GOk (g m1 m3 g' : AH) : Prop := (∀ x, 0 ≤ x → x < 346 → ¬ (4 ≤ x ∧ x ≤ 8) → ¬ (34 ≤ x ∧ x < 46 ∧ (x - 34) % 3 ≠ 2) → ¬ (46 ≤ x ∧ ((x - 46) % 25 = 1 ∨ (x - 46) % 25 = 2 ∨ (x - 46) % 25 = 3 ∨ (x - 46) % 25 = 4 ∨ ((x - 46) % 25 ≥ 8 ∧ (x - 46) % 25 ≤ 16))) → g' 141 x = g 141 x) ∧ (∀ x, ¬ (x = 4 ∨ (34 ≤ x ∧ x < 46 ∧ (x - 34) % 3 = 1) ∨ (46 ≤ x ∧ x < 346 ∧ 11 ≤ (x - 46) % 25 ∧ (x - 46) % 25 ≤ 16)) → g' 141 x = m3 141 x) ∧ (g' 141 4 = g 141 4 + 1 ∧ m3 141 4 = g 141 4) ∧ (∀ f, 0 ≤ f → f < 4 → g' 141 (34 + 3 * f + 1) = 0) ∧ (∀ i p, 0 ≤ i → i < g 141 3 → 0 ≤ p → p ≤ 5 → g' 141 (46 + 25 * i + (11 + p)) = 1) ∧ (g' 141 8 = m1 141 8) ∧ (g' 141 3 = g 141 3 ∧ m3 141 3 = g 141 3) ∧ (g' 141 2 = g 141 2 ∧ m3 141 2 = g 141 2) ∧ (∀ x, 496 ≤ x → g' 141 x = m1 141 x) ∧ (gOk m3 0) ∧ (HO m3) ∧ (∀ f, 0 ≤ f → f < g 141 2 → g 141 (34 + 3 * f) ≤ g' 141 (34 + 3 * f) ∧ g' 141 (34 + 3 * f) ≤ g 141 (34 + 3 * f) + 648) ∧ (g' 140 24 = m3 140 24)
theorem GOk_of {g m1 m3 g' : AH} {x : Int} (hR : RO g) (hl : Logged g m1) (hG : gOk (rst (mShift m1 x)) 72) (hpn : PN 6 0 (rst (mShift m1 x)) m3) (hend : Endd m3 g') : GOk g m1 m3 g' := by
  obtain ⟨hT, r4, r8, r7, rs, rf, rl⟩ := hR
  obtain ⟨-, t2, n3, -, n2, -, -, -, -, b8⟩ := hT
  obtain ⟨lf, l8⟩ := Logged_f b8 hl
  obtain ⟨e1, e4, ef, el⟩ := hend
  have M : ∀ y, y ≠ 5 → y ≠ 6 → y ≠ 7 → y ≠ 8 → y < 496 → rst (mShift m1 x) 141 y = g 141 y := fun y a b c d e => by
    rw [rst_f (by omega) (by omega) (by decide) (by decide), mShift_f (by omega), lf _ _ (by omega)]
  have M8 : rst (mShift m1 x) 141 8 = m1 141 8 := by
    rw [rst_f (by omega) (by omega) (by decide) (by decide), mShift_f (by omega)]
  obtain ⟨o, k⟩ := PN_ok 6 0 _ _ 72 hpn (by decide) (by decide) hG (by decide) (by decide)
  have kl := PN_log 6 0 _ _ 72 hpn (by decide) (by decide) hG (by decide) (by decide)
  have m2 : rst (mShift m1 x) 141 2 = g 141 2 := M 2 (by decide) (by decide) (by decide) (by decide) (by decide)
  have m3' : rst (mShift m1 x) 141 3 = g 141 3 := M 3 (by decide) (by decide) (by decide) (by decide) (by decide)
  have m4' : rst (mShift m1 x) 141 4 = g 141 4 := M 4 (by decide) (by decide) (by decide) (by decide) (by decide)
  have k2 := k.2
  rw [m2] at k2
  have k3 : m3 141 3 = g 141 3 := by rw [k2 3 (by decide) (by decide) (by omega) (by decide), m3']
  have k22 : m3 141 2 = g 141 2 := by rw [k2 2 (by decide) (by decide) (by omega) (by decide), m2]
  have k4 : m3 141 4 = g 141 4 := by rw [k2 4 (by decide) (by decide) (by omega) (by decide), m4']
  rw [k3] at e1 el
  have hh : HO (rst (mShift m1 x)) := fun j j0 j1 => by
    rw [m3'] at j1
    refine (HOj_eq (M _ (by omega) (by omega) (by omega) (by omega) (by omega)) (M _ (by omega) (by omega) (by omega) (by omega) (by omega))).mpr ?_
    exact (rs j j0 j1).2
  obtain ⟨h1, h2⟩ := PN_HO 6 0 _ _ 72 hpn (by decide) (by decide) hG (by decide) (by decide) (by rw [m4']; exact r4.1) hh
  rw [m2] at h2
  refine ⟨fun y y0 y1 a b c => ?_, fun y a => e1 _ _ (by omega), ⟨by rw [e4, k4], k4⟩, ef, fun i p i0 i1 p0 p1 => el i p i0 i1 p0 (by omega), ?_, ⟨by rw [e1 _ _ (by omega), k3], k3⟩, ⟨by rw [e1 _ _ (by omega), k22], k22⟩, fun y y0 => ?_, ?_, h1, fun f f0 f1 => ?_, e1 _ _ (by omega)⟩
  · rw [e1 _ _ (by omega), k2 y y1 (by omega) (by omega) (by omega), M y (by omega) (by omega) (by omega) (by omega) (by omega)]
  · rw [e1 _ _ (by omega), k2 8 (by decide) (by decide) (by omega) (by decide), M8]
  · rw [e1 _ _ (by omega), kl y y0, rst_f (by omega) (by omega) (by decide) (by decide), mShift_f (by omega)]
  · exact o
  · have q := h2 f f0 f1
    rw [M (34 + 3 * f) (by omega) (by omega) (by omega) (by omega) (by omega)] at q
    rw [e1 _ _ (by omega)]
    omega
