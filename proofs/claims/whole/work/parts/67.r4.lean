/-! the class' sheet and the model's row: ships come, hulls sink -/
theorem L_came {fl : Prop} {h h' g g' : AH} {b : Int} (hB : b = 5 ∨ b = 15) (hb : bdOk g) (hf : 0 ≤ g 141 2 ∧ g 141 2 ≤ 4) (hn : g 141 3 ≤ 12) (h7 : 0 ≤ g 141 7) (hP : PR0 fl h b g) (hO : PO g) (hK : Stk h g) (hG : Gng h g) (hc : cCame h b (g 141 3) h') (hm : Came g (g 141 3) g') : PR0 fl h' b g' ∧ PO g' ∧ Stk h' g' := by
  obtain ⟨⟨d0, d1, d2, d3, d4, d5, d6, d8⟩, hS, hp6, hr, hq, hx⟩ := hP
  obtain ⟨cf, cs⟩ := hc
  obtain ⟨mf, ms⟩ := hm
  have E : ∀ x, x < 46 → g' 141 x = g 141 x := fun x a => mf _ _ (by omega) (by omega)
  have E0 := E 0 (by decide)
  have E1 := E 1 (by decide)
  have E2 := E 2 (by decide)
  have E3 := E 3 (by decide)
  have E7 := E 7 (by decide)
  have Em : ∀ i w, 0 ≤ w → w ≤ 24 → w ≠ 1 → w ≠ 2 → w ≠ 8 → g' 141 (46 + 25 * i + w) = g 141 (46 + 25 * i + w) := fun i w a c e f k => mf _ _ (by omega) (by omega)
  have Ec : ∀ i w, 0 ≤ w → w ≤ 10 → w ≠ 1 → w ≠ 2 → w ≠ 8 → h' (b + 2) (i * 11 + w) = h (b + 2) (i * 11 + w) := fun i w a c e f k => cf _ _ (by omega) (by omega)
  have EO : ∀ i, h' (b + 3) i = h (b + 3) i := fun i => cf _ _ (by omega) (by omega)
  have SH : ∀ i, 0 ≤ i → i < g 141 3 → (h' (b + 2) (i * 11 + 1) = g' 141 (46 + 25 * i + 1) ∧ h' (b + 2) (i * 11 + 2) = g' 141 (46 + 25 * i + 2) ∧ h' (b + 2) (i * 11 + 8) = g' 141 (46 + 25 * i + 8) ∧ h' 30 i = g' 153 i) ∧ (g 141 (46 + 25 * i + 10) = -1 → (0 ≤ g' 141 (46 + 25 * i + 1) ∧ g' 141 (46 + 25 * i + 1) < g 141 0) ∧ (0 ≤ g' 141 (46 + 25 * i + 2) ∧ g' 141 (46 + 25 * i + 2) < g 141 1)) ∧ (¬ g 141 (46 + 25 * i + 10) = -1 → g' 141 (46 + 25 * i + 1) = -1 ∧ g' 141 (46 + 25 * i + 2) = -1) := fun i i0 i1 => by
    obtain ⟨s1, s2, -, -, s5, -⟩ := hS i i0 i1
    obtain ⟨g1, g2, -⟩ := hG i i0 i1
    obtain ⟨-, o1, o2⟩ := hO i i0 i1
    obtain ⟨c1, c2⟩ := cs i i0 i1
    obtain ⟨m1, m2⟩ := ms i i0 i1
    obtain ⟨⟨b1, b2⟩, ⟨b3, b4⟩, -⟩ := hb
    rw [g1, s1 1 (by decide) (by decide), s1 2 (by decide) (by decide), s1 8 (by decide) (by decide), s5] at c1
    rw [g1, s1 8 (by decide) (by decide), s5] at c2
    by_cases z : g 149 i = 0
    · obtain ⟨x1, x2, x3, x4⟩ := c1 z
      obtain ⟨y1, y2, y3, y4⟩ := m1 z
      rw [x1, x2, x3, x4, y1, y2, y3, y4]
      exact ⟨⟨rfl, rfl, rfl, rfl⟩, o1, o2⟩
    · obtain ⟨x1, x2, x3, x4⟩ := c2 z
      obtain ⟨y1, y2, y3, y4⟩ := m2 z
      obtain ⟨t1, t2, t3, t4⟩ := g2 z
      rw [x1, x2, x3, x4, y1, y2, y3, y4, t4]
      clear c1 c2 m1 m2 g2 s1 s2 o1 o2
      exact ⟨⟨by omega, by omega, rfl, rfl⟩, fun _ => ⟨t2, t3⟩, fun q => absurd t1 q⟩
  refine ⟨⟨⟨?_, ?_, ?_, ?_, ?_, ?_, ?_, ?_⟩, fun i i0 i1 => ?_, fun f f0 f1 => ?_, fun k w k0 k1 w0 w1 => ?_, ?_, fun i j i0 ij jn => ?_⟩, fun i i0 i1 => ?_, fun i f i0 i1 f0 f1 => ?_⟩
  · rw [cf _ _ (by omega) (by omega), E 0 (by decide), d0]
  · rw [cf _ _ (by omega) (by omega), E 1 (by decide), d1]
  · rw [cf _ _ (by omega) (by omega), E 2 (by decide), d2]
  · rw [cf _ _ (by omega) (by omega), E 3 (by decide), d3]
  · rw [cf _ _ (by omega) (by omega), E 4 (by decide), d4]
  · rw [cf _ _ (by omega) (by omega), E 5 (by decide), d5]
  · rw [cf _ _ (by omega) (by omega), E 6 (by decide), d6]
  · rw [cf _ _ (by omega) (by omega), E 7 (by decide), d8]
  · rw [E3] at i1
    obtain ⟨s1, s2, s3, s4, s5, s6⟩ := hS i i0 i1
    obtain ⟨⟨t1, t2, t8, t30⟩, p1, p2⟩ := SH i i0 i1
    refine ⟨fun w w0 w1 => ?_, ?_, fun q => ?_, fun p p0 p1 => ?_, t30, ?_⟩
    · by_cases e3 : w = 1
      · rw [e3]; exact t1
      · by_cases e8 : w = 2
        · rw [e8]; exact t2
        · by_cases e9 : w = 8
          · rw [e9]; exact t8
          · rw [Ec i w w0 (by omega) e3 e8 e9, Em i w w0 (by omega) e3 e8 e9]
            exact s1 w w0 w1
    · rw [Em i 10 (by decide) (by decide) (by decide) (by decide) (by decide), t1]
      clear s1 s2 s3 s4 SH
      constructor
      · intro q
        have := p1 q
        omega
      · intro q
        by_cases z : g 141 (46 + 25 * i + 10) = -1
        · exact z
        · exact absurd (p2 z).1 q
    · rw [Em i 10 (by decide) (by decide) (by decide) (by decide) (by decide), Ec i 10 (by decide) (by decide) (by decide) (by decide) (by decide)]
      exact s3 q
    · rw [EO, Em i (11 + p) (by omega) (by omega) (by omega) (by omega) (by omega)]
      exact s4 p p0 p1
    · rw [cf _ _ (by omega) (by omega)]
      exact s6
  · rw [E2] at f1
    rw [cf _ _ (by omega) (by omega), E _ (by omega)]
    exact hp6 f f0 f1
  · rw [E7] at k1
    rw [cf _ _ (by omega) (by omega), mf _ _ (by omega) (by omega)]
    exact hr k w k0 k1 w0 w1
  · rw [cf _ _ (by omega) (by omega), mf _ _ (by omega) (by omega)]
    exact hq
  · rw [E3] at jn
    rw [cf _ _ (by omega) (by omega), cf _ _ (by omega) (by omega), mf _ _ (by omega) (by omega)]
    exact hx i j i0 ij jn
  · rw [E3] at i1
    obtain ⟨-, p1, p2⟩ := SH i i0 i1
    rw [Em i 0 (by decide) (by decide) (by decide) (by decide) (by decide), Em i 10 (by decide) (by decide) (by decide) (by decide) (by decide), E0, E1, E2]
    exact ⟨(hO i i0 i1).1, p1, p2⟩
  · rw [E3] at i1
    have k := hK i f i0 i1 f0 f1
    rw [cf _ _ (by omega) (by omega), k]
    unfold mHit
    rw [E3, mf 152 i (by omega) (by omega)]
    constructor
    · rintro ⟨j, j0, j1, j2, j3⟩
      refine ⟨j, j0, j1, j2, ?_⟩
      rw [Em j 0 (by decide) (by decide) (by decide) (by decide) (by decide)]
      exact j3
    · rintro ⟨j, j0, j1, j2, j3⟩
      rw [Em j 0 (by decide) (by decide) (by decide) (by decide) (by decide)] at j3
      exact ⟨j, j0, j1, j2, j3⟩
theorem L_sunk {fl : Prop} {h h' g g' : AH} {b i : Int} (hB : b = 5 ∨ b = 15) (hf : 0 ≤ g 141 2 ∧ g 141 2 ≤ 4) (hn : g 141 3 ≤ 12) (h4 : 0 ≤ g 141 4) (hi : 0 ≤ i ∧ i < g 141 3) (h7 : 0 ≤ g 141 7) (hP : PR0 fl h b g) (hO : PO g) (hK : Stk h g) (hc : cSunk h b i h') (hm : Sunk g i g') : PR0 fl h' b g' ∧ PO g' ∧ Stk h' g' := by
  obtain ⟨⟨d0, d1, d2, d3, d4, d5, d6, d8⟩, hS, hp6, hr, hq, hx⟩ := hP
  obtain ⟨cf, cp, c1, c2, c4, c10⟩ := hc
  obtain ⟨mf, mp, m1, m2, m4, m10⟩ := hm
  have E : ∀ x, x < 34 → g' 141 x = g 141 x := fun x a => mf _ _ (by omega)
  have E0 := E 0 (by decide)
  have E1 := E 1 (by decide)
  have E2 := E 2 (by decide)
  have E3 := E 3 (by decide)
  have E7 := E 7 (by decide)
  have Em : ∀ j w, 0 ≤ j → 0 ≤ w → w ≤ 24 → ¬ (j = i ∧ (w = 1 ∨ w = 2 ∨ w = 4 ∨ w = 10)) → g' 141 (46 + 25 * j + w) = g 141 (46 + 25 * j + w) := fun j w a c e f => mf _ _ (by omega)
  have Ec : ∀ j w, 0 ≤ w → w ≤ 10 → ¬ (j = i ∧ (w = 1 ∨ w = 2 ∨ w = 4 ∨ w = 10)) → h' (b + 2) (j * 11 + w) = h (b + 2) (j * 11 + w) := fun j w a c e => cf _ _ (by omega) (by omega)
  have EO : ∀ i, h' (b + 3) i = h (b + 3) i := fun i => cf _ _ (by omega) (by omega)
  have Ek : ∀ k x, k ≠ b + 2 → k ≠ b + 6 → h' k x = h k x := fun k x a c => cf _ _ (by omega) (by omega)
  have Gk : ∀ k x, k ≠ 141 → g' k x = g k x := fun k x a => mf _ _ (by omega)
  refine ⟨⟨⟨?_, ?_, ?_, ?_, ?_, ?_, ?_, ?_⟩, fun j j0 j1 => ?_, fun f f0 f1 => ?_, fun k w k0 k1 w0 w1 => ?_, ?_, fun j l j0 jl ln => ?_⟩, fun j j0 j1 => ?_, fun j f j0 j1 f0 f1 => ?_⟩
  · rw [Ek _ _ (by omega) (by omega), E 0 (by decide), d0]
  · rw [Ek _ _ (by omega) (by omega), E 1 (by decide), d1]
  · rw [Ek _ _ (by omega) (by omega), E 2 (by decide), d2]
  · rw [Ek _ _ (by omega) (by omega), E 3 (by decide), d3]
  · rw [Ek _ _ (by omega) (by omega), E 4 (by decide), d4]
  · rw [Ek _ _ (by omega) (by omega), E 5 (by decide), d5]
  · rw [Ek _ _ (by omega) (by omega), E 6 (by decide), d6]
  · rw [Ek _ _ (by omega) (by omega), E 7 (by decide), d8]
  · rw [E3] at j1
    obtain ⟨s1, s2, s3, s4, s5, s6⟩ := hS j j0 j1
    rw [EO, Gk 153 j (by decide), Ek 30 j (by omega) (by omega), Ek 31 _ (by omega) (by omega)]
    by_cases ji : j = i
    · subst ji
      rw [m10, c10, c1]
      refine ⟨fun w w0 w1 => ?_, ?_, fun _ => d4, fun p p0 p1 => ?_, s5, s6⟩
      · by_cases e1 : w = 1
        · rw [e1, c1, m1]
        · by_cases e2 : w = 2
          · rw [e2, c2, m2]
          · by_cases e4 : w = 4
            · rw [e4, c4, m4]
            · rw [Ec j w w0 (by omega) (by omega), Em j w j0 w0 (by omega) (by omega)]
              exact s1 w w0 w1
      · constructor
        · intro q; omega
        · intro q; exact absurd rfl q
      · rw [Em j (11 + p) j0 (by omega) (by omega) (by omega)]
        exact s4 p p0 p1
    · refine ⟨fun w w0 w1 => ?_, ?_, fun q => ?_, fun p p0 p1 => ?_, s5, s6⟩
      · rw [Ec j w w0 (by omega) (fun q => ji q.1), Em j w j0 w0 (by omega) (fun q => ji q.1)]
        exact s1 w w0 w1
      · rw [Em j 10 j0 (by decide) (by decide) (fun q => ji q.1), Ec j 1 (by decide) (by decide) (fun q => ji q.1)]
        exact s2
      · rw [Em j 10 j0 (by decide) (by decide) (fun q => ji q.1), Ec j 10 (by decide) (by decide) (fun q => ji q.1)]
        exact s3 q
      · rw [Em j (11 + p) j0 (by omega) (by omega) (fun q => ji q.1)]
        exact s4 p p0 p1
  · rw [E2] at f1
    obtain ⟨x1, x2⟩ := cp f f0 (by omega)
    obtain ⟨y1, y2⟩ := mp f f0 f1
    obtain ⟨s1, -⟩ := hS i hi.1 hi.2
    have k := hK i f hi.1 hi.2 f0 (by omega)
    rw [s1 0 (by decide) (by decide), s1 5 (by decide) (by decide), hp6 f f0 f1] at x1
    rw [s1 0 (by decide) (by decide), hp6 f f0 f1] at x2
    by_cases z : mHit g i f (g 141 3) ∧ ¬ f = g 141 (46 + 25 * i + 0)
    · rw [y1 z, x1 ⟨k.mpr z.1, z.2⟩]
    · rw [y2 z, x2 (fun q => z ⟨k.mp q.1, q.2⟩)]
  · rw [E7] at k1
    rw [Ek _ _ (by omega) (by omega), mf _ _ (by omega)]
    exact hr k w k0 k1 w0 w1
  · rw [Ek _ _ (by omega) (by omega), Gk _ _ (by decide)]
    exact hq
  · rw [E3] at ln
    rw [Ek _ _ (by omega) (by omega), Ek _ _ (by omega) (by omega), Gk _ _ (by decide)]
    exact hx j l j0 jl ln
  · rw [E3] at j1
    rw [E0, E1, E2, Em j 0 j0 (by decide) (by decide) (by omega)]
    have o := hO j j0 j1
    by_cases ji : j = i
    · subst ji
      rw [m1, m2, m10]
      exact ⟨o.1, fun q => by omega, fun _ => ⟨rfl, rfl⟩⟩
    · rw [Em j 10 j0 (by decide) (by decide) (fun q => ji q.1), Em j 1 j0 (by decide) (by decide) (fun q => ji q.1), Em j 2 j0 (by decide) (by decide) (fun q => ji q.1)]
      exact o
  · rw [E3] at j1
    rw [Ek 29 _ (by omega) (by omega), hK j f j0 j1 f0 f1]
    unfold mHit
    rw [E3, Gk 152 j (by decide)]
    constructor
    · rintro ⟨l, l0, l1, l2, l3⟩
      refine ⟨l, l0, l1, l2, ?_⟩
      rw [Em l 0 l0 (by decide) (by decide) (by omega)]
      exact l3
    · rintro ⟨l, l0, l1, l2, l3⟩
      rw [Em l 0 l0 (by decide) (by decide) (by omega)] at l3
      exact ⟨l, l0, l1, l2, l3⟩
