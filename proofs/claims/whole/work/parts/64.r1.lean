/-! the class' sheet and the model's row: pulses -/
def PR0 (fl : Prop) (h : AH) (b : Int) (g : AH) : Prop :=
  (h b 0 = g 141 0 ∧ h b 1 = g 141 1 ∧ h b 2 = g 141 2 ∧ h b 3 = g 141 3 ∧ h b 4 = g 141 4 ∧ h b 5 = g 141 5 ∧ h b 6 = g 141 6 ∧ h b 8 = g 141 7) ∧
  (∀ i, 0 ≤ i → i < g 141 3 → (∀ w, 0 ≤ w → w ≤ 9 → h (b + 2) (i * 11 + w) = g 141 (46 + 25 * i + w)) ∧ (g 141 (46 + 25 * i + 10) = -1 ↔ ¬ h (b + 2) (i * 11 + 1) = -1) ∧ (fl → h (b + 2) (i * 11 + 10) = g 141 (46 + 25 * i + 10)) ∧ (∀ p, 0 ≤ p → p ≤ 5 → cLt (h (b + 3) i) p = g 141 (46 + 25 * i + (11 + p))) ∧ h 30 i = g 153 i ∧ h 31 (i * 12 + i) = -1) ∧
  (∀ f, 0 ≤ f → f < g 141 2 → h (b + 6) f = g 141 (34 + 3 * f)) ∧
  (∀ k w, 0 ≤ k → k < g 141 7 → 0 ≤ w → w ≤ 4 → h (b + 5) (k * 5 + w) = g 141 (346 + 5 * k + w)) ∧
  h 25 6 = g 140 24 ∧ (∀ i j, 0 ≤ i → i < j → j < g 141 3 → h 31 (i * 12 + j) = g 154 (12 * i + j) ∧ h 31 (j * 12 + i) = g 154 (12 * i + j))
/-- where ships are -/
def PO (g : AH) : Prop := ∀ i, 0 ≤ i → i < g 141 3 → (0 ≤ g 141 (46 + 25 * i + 0) ∧ g 141 (46 + 25 * i + 0) < g 141 2) ∧ (g 141 (46 + 25 * i + 10) = -1 → (0 ≤ g 141 (46 + 25 * i + 1) ∧ g 141 (46 + 25 * i + 1) < g 141 0) ∧ (0 ≤ g 141 (46 + 25 * i + 2) ∧ g 141 (46 + 25 * i + 2) < g 141 1)) ∧ (¬ g 141 (46 + 25 * i + 10) = -1 → g 141 (46 + 25 * i + 1) = -1 ∧ g 141 (46 + 25 * i + 2) = -1)
def Stk (h g : AH) : Prop := ∀ i f, 0 ≤ i → i < g 141 3 → 0 ≤ f → f ≤ 3 → (bitP (h 29 i) f ↔ mHit g i f (g 141 3))
def Gng (h g : AH) : Prop := ∀ i, 0 ≤ i → i < g 141 3 → h 26 i = g 149 i ∧ (¬ g 149 i = 0 → g 141 (46 + 25 * i + 10) = -1 ∧ (0 ≤ g 150 i ∧ g 150 i < g 141 0) ∧ (0 ≤ g 151 i ∧ g 151 i < g 141 1) ∧ h 28 i = 100 * g 150 i + g 151 i) ∧ (g 141 (46 + 25 * i + 10) = -1 → h 27 i = 100 * g 141 (46 + 25 * i + 1) + g 141 (46 + 25 * i + 2)) ∧ (¬ g 141 (46 + 25 * i + 10) = -1 → h 27 i = -1)
theorem bit_0 {f : Int} (hf : 0 ≤ f ∧ f ≤ 11) : ¬ bitP 0 f := by
  rw [bit_iff hf, gb_0 hf]
  decide
theorem L_steer {fl : Prop} {h h' g g' : AH} {b p : Int} (hB : b = 5 ∨ b = 15) (hp : 0 ≤ p ∧ p ≤ 5) (hn : 0 ≤ g 141 3 ∧ g 141 3 ≤ 12) (hb : bdOk g) (hf : 0 ≤ g 141 2 ∧ g 141 2 ≤ 4) (h7 : 0 ≤ g 141 7 ∧ g 141 7 ≤ 30) (hP : PR0 fl h b g) (hO : PO g) (hc : cSteered h b p (g 141 3) h') (hm : Steered g p (g 141 3) g') : PR0 fl h' b g' ∧ PO g' ∧ Stk h' g' ∧ Gng h' g' := by
  obtain ⟨⟨d0, d1, d2, d3, d4, d5, d6, d8⟩, hS, hp6, hr, hq, hx⟩ := hP
  obtain ⟨cf, cs⟩ := hc
  obtain ⟨mf, ms⟩ := hm
  have E : ∀ x, x < 46 → g' 141 x = g 141 x := fun x a => mf _ _ (by omega) (by omega)
  have E0 := E 0 (by decide)
  have E1 := E 1 (by decide)
  have E2 := E 2 (by decide)
  have E3 := E 3 (by decide)
  have E7 := E 7 (by decide)
  have Em : ∀ i w, 0 ≤ w → w ≤ 24 → w ≠ 3 → w ≠ 8 → w ≠ 9 → g' 141 (46 + 25 * i + w) = g 141 (46 + 25 * i + w) := fun i w a c e f k => mf _ _ (by omega) (by omega)
  have Ec : ∀ i w, 0 ≤ w → w ≤ 10 → w ≠ 3 → w ≠ 8 → w ≠ 9 → h' (b + 2) (i * 11 + w) = h (b + 2) (i * 11 + w) := fun i w a c e f k => cf _ _ (by omega) (by omega)
  have EO : ∀ i, h' (b + 3) i = h (b + 3) i := fun i => cf _ _ (by omega) (by omega)
  -- what a ship does
  have SH : ∀ i, 0 ≤ i → i < g 141 3 → (h' (b + 2) (i * 11 + 3) = g' 141 (46 + 25 * i + 3) ∧ h' (b + 2) (i * 11 + 8) = g' 141 (46 + 25 * i + 8) ∧ h' (b + 2) (i * 11 + 9) = g' 141 (46 + 25 * i + 9)) ∧ h' 26 i = g' 149 i ∧ (¬ g' 149 i = 0 → g 141 (46 + 25 * i + 10) = -1 ∧ (0 ≤ g' 150 i ∧ g' 150 i < g 141 0) ∧ (0 ≤ g' 151 i ∧ g' 151 i < g 141 1) ∧ h' 28 i = 100 * g' 150 i + g' 151 i) ∧ (g 141 (46 + 25 * i + 10) = -1 → h' 27 i = 100 * g 141 (46 + 25 * i + 1) + g 141 (46 + 25 * i + 2)) ∧ (¬ g 141 (46 + 25 * i + 10) = -1 → h' 27 i = -1) ∧ h' 29 i = 0 ∧ g' 152 i = 0 := fun i i0 i1 => by
    obtain ⟨s1, s2, -, s4, -⟩ := hS i i0 i1
    obtain ⟨c1, c2, c3⟩ := cs i i0 i1
    obtain ⟨m1, m2, m3⟩ := ms i i0 i1
    by_cases fl : g 141 (46 + 25 * i + 10) = -1
    · have c1 := c1 (s2.mp fl)
      have m1 := m1 fl
      rw [s4 p hp.1 hp.2, s1 9 (by decide) (by decide), s1 7 (by decide) (by decide), s1 3 (by decide) (by decide), s1 8 (by decide) (by decide), s1 6 (by decide) (by decide), s1 1 (by decide) (by decide), s1 2 (by decide) (by decide), d5, d6, d0, d1] at c1
      obtain ⟨l, hl⟩ : ∃ l, l = g 141 (46 + 25 * i + (11 + p)) := ⟨_, rfl⟩
      obtain ⟨hd, hhd⟩ : ∃ hd, hd = gHd l (g 141 (46 + 25 * i + 9)) (g 141 (46 + 25 * i + 7)) (g 141 (46 + 25 * i + 3)) := ⟨_, rfl⟩
      obtain ⟨w, hw⟩ : ∃ w, w = gWay (g 141 (46 + 25 * i + 8)) (g 141 (46 + 25 * i + 6)) (g 141 6) hd (g 141 5) := ⟨_, rfl⟩
      obtain ⟨x1, x2, x3, x4, x5, x6, x7⟩ := c1 l hd w _ _ hl hhd hw rfl rfl
      obtain ⟨y1, y2, y4, y5, y6, y7⟩ := m1 l hd w hl hhd hw
      refine ⟨⟨by rw [x1, y1], ?_, by rw [x2, y2]⟩, ?_⟩
      · by_cases l4 : l = 4
        · rw [(x4 l4).1, (y4 l4).1]
        · by_cases w9 : w < 90
          · rw [(x5 l4 w9).1, (y5 l4 w9).1]
          · by_cases z : (0 ≤ g 141 (46 + 25 * i + 1) + tab1 hd ∧ g 141 (46 + 25 * i + 1) + tab1 hd < g 141 0 ∧ 0 ≤ g 141 (46 + 25 * i + 2) + tab2 hd ∧ g 141 (46 + 25 * i + 2) + tab2 hd < g 141 1)
            · rw [(x6 l4 (by omega) z).1, (y6 l4 (by omega) z).1]
            · rw [(x7 l4 (by omega) z).1, (y7 l4 (by omega) z).1]
      refine ⟨?_, fun q => ?_, fun _ => x3, fun q => absurd fl q, c3, m3⟩
      · by_cases l4 : l = 4
        · rw [(x4 l4).2, (y4 l4).2]
        · by_cases w9 : w < 90
          · rw [(x5 l4 w9).2, (y5 l4 w9).2]
          · by_cases z : (0 ≤ g 141 (46 + 25 * i + 1) + tab1 hd ∧ g 141 (46 + 25 * i + 1) + tab1 hd < g 141 0 ∧ 0 ≤ g 141 (46 + 25 * i + 2) + tab2 hd ∧ g 141 (46 + 25 * i + 2) + tab2 hd < g 141 1)
            · rw [(x6 l4 (by omega) z).2.1, (y6 l4 (by omega) z).2.1]
            · rw [(x7 l4 (by omega) z).2, (y7 l4 (by omega) z).2]
      · by_cases l4 : l = 4
        · exact absurd (y4 l4).2 q
        · by_cases w9 : w < 90
          · exact absurd (y5 l4 w9).2 q
          · by_cases z : (0 ≤ g 141 (46 + 25 * i + 1) + tab1 hd ∧ g 141 (46 + 25 * i + 1) + tab1 hd < g 141 0 ∧ 0 ≤ g 141 (46 + 25 * i + 2) + tab2 hd ∧ g 141 (46 + 25 * i + 2) + tab2 hd < g 141 1)
            · obtain ⟨u1, u2, u3, u4⟩ := y6 l4 (by omega) z
              obtain ⟨v1, v2, v3⟩ := x6 l4 (by omega) z
              exact ⟨fl, by omega, by omega, by omega⟩
            · exact absurd (y7 l4 (by omega) z).2 q
    · have nf : h (b + 2) (i * 11 + 1) = -1 := by
        by_cases z : h (b + 2) (i * 11 + 1) = -1
        · exact z
        · exact absurd (s2.mpr z) fl
      obtain ⟨x1, x2, x3, x4, x5⟩ := c2 nf
      obtain ⟨y1, y2, y3, y4⟩ := m2 fl
      refine ⟨⟨by rw [x1, y1]; exact s1 3 (by decide) (by decide), by rw [x2, y2]; exact s1 8 (by decide) (by decide), by rw [x3, y3]; exact s1 9 (by decide) (by decide)⟩, by rw [x4, y4], fun q => absurd y4 q, fun q => absurd q fl, fun _ => x5, c3, m3⟩
  refine ⟨⟨⟨?_, ?_, ?_, ?_, ?_, ?_, ?_, ?_⟩, fun i i0 i1 => ?_, fun f f0 f1 => ?_, fun k w k0 k1 w0 w1 => ?_, ?_, fun i j i0 ij jn => ?_⟩, fun i i0 i1 => ?_, fun i f i0 i1 f0 f1 => ?_, fun i i0 i1 => ?_⟩
  · rw [cf _ _ (by omega) (by omega), E 0 (by decide), d0]
  · rw [cf _ _ (by omega) (by omega), E 1 (by decide), d1]
  · rw [cf _ _ (by omega) (by omega), E 2 (by decide), d2]
  · rw [cf _ _ (by omega) (by omega), E 3 (by decide), d3]
  · rw [cf _ _ (by omega) (by omega), E 4 (by decide), d4]
  · rw [cf _ _ (by omega) (by omega), E 5 (by decide), d5]
  · rw [cf _ _ (by omega) (by omega), E 6 (by decide), d6]
  · rw [cf _ _ (by omega) (by omega), E 7 (by decide), d8]
  · rw [E3] at i1
    obtain ⟨s1, s2, s3, s4, s5, s6⟩ := hS i i0 i1
    obtain ⟨⟨t3, t8, t9⟩, -⟩ := SH i i0 i1
    refine ⟨fun w w0 w1 => ?_, ?_, fun q => ?_, fun p p0 p1 => ?_, ?_, ?_⟩
    · by_cases e3 : w = 3
      · rw [e3]; exact t3
      · by_cases e8 : w = 8
        · rw [e8]; exact t8
        · by_cases e9 : w = 9
          · rw [e9]; exact t9
          · rw [Ec i w w0 (by omega) e3 e8 e9, Em i w w0 (by omega) e3 e8 e9]
            exact s1 w w0 w1
    · rw [Em i 10 (by decide) (by decide) (by decide) (by decide) (by decide), Ec i 1 (by decide) (by decide) (by decide) (by decide) (by decide)]
      exact s2
    · rw [Em i 10 (by decide) (by decide) (by decide) (by decide) (by decide), Ec i 10 (by decide) (by decide) (by decide) (by decide) (by decide)]
      exact s3 q
    · rw [EO, Em i (11 + p) (by omega) (by omega) (by omega) (by omega) (by omega)]
      exact s4 p p0 p1
    · rw [cf _ _ (by omega) (by omega), mf _ _ (by omega) (by omega)]
      exact s5
    · rw [cf _ _ (by omega) (by omega)]
      exact s6
  · rw [E2] at f1
    rw [cf _ _ (by omega) (by omega), E _ (by omega)]
    exact hp6 f f0 f1
  · rw [E7] at k1
    rw [cf _ _ (by omega) (by omega), mf _ _ (by omega) (by omega)]
    exact hr k w k0 k1 w0 w1
  · rw [cf _ _ (by omega) (by omega), mf _ _ (by omega) (by omega)]
    exact hq
  · rw [E3] at jn
    rw [cf _ _ (by omega) (by omega), cf _ _ (by omega) (by omega), mf _ _ (by omega) (by omega)]
    exact hx i j i0 ij jn
  · rw [E3] at i1
    rw [Em i 0 (by decide) (by decide) (by decide) (by decide) (by decide), Em i 10 (by decide) (by decide) (by decide) (by decide) (by decide), Em i 1 (by decide) (by decide) (by decide) (by decide) (by decide), Em i 2 (by decide) (by decide) (by decide) (by decide) (by decide), E0, E1, E2]
    exact hO i i0 i1
  · rw [E3] at i1
    obtain ⟨-, -, -, -, -, t6, t7⟩ := SH i i0 i1
    rw [t6]
    constructor
    · intro q
      exact absurd q (bit_0 (by omega))
    · intro ⟨j, j0, j1, q, _⟩
      rw [E3] at j1
      rw [t7] at q
      exact absurd q (bit_0 (by omega))
  · rw [E3] at i1
    rw [Em i 10 (by decide) (by decide) (by decide) (by decide) (by decide), Em i 1 (by decide) (by decide) (by decide) (by decide) (by decide), Em i 2 (by decide) (by decide) (by decide) (by decide) (by decide), E0, E1]
    obtain ⟨-, t1, t2, t3, t4, -⟩ := SH i i0 i1
    exact ⟨t1, t2, t3, t4⟩
theorem L_clash {fl : Prop} {h g : AH} {b i j : Int} (hb : bdOk g) (hP : PR0 fl h b g) (hO : PO g) (hG : Gng h g) (hi : 0 ≤ i ∧ i < g 141 3) (hj : 0 ≤ j ∧ j < g 141 3) : cCl h i j ↔ mCl g i j := by
  obtain ⟨i1, i2, i3, i4⟩ := hG i hi.1 hi.2
  obtain ⟨j1, j2, j3, j4⟩ := hG j hj.1 hj.2
  obtain ⟨-, oi, -⟩ := hO i hi.1 hi.2
  obtain ⟨-, oj, -⟩ := hO j hj.1 hj.2
  obtain ⟨⟨b1, b2⟩, ⟨b3, b4⟩, -⟩ := hb
  unfold cCl mCl mG1 mGW
  rw [i1, j1]
  by_cases gi : g 149 i = 0
  · by_cases gj : g 149 j = 0
    · constructor
      · rintro (⟨⟨x, _⟩, _⟩ | ⟨_, ⟨x, _⟩ | ⟨x, _⟩⟩)
        · exact absurd gi x
        · exact absurd gi x
        · exact absurd gj x
      · rintro ⟨_, _, ⟨x, _⟩ | ⟨⟨x, _⟩, _⟩ | ⟨_, ⟨x, _⟩ | ⟨x, _⟩⟩⟩
        · exact absurd gi x
        · exact absurd gi x
        · exact absurd gi x
        · exact absurd gj x
    · obtain ⟨u1, u2, u3, u4⟩ := j2 gj
      have oj := oj u1
      clear j2 j3 j4 i2
      constructor
      · rintro (⟨⟨x, _⟩, _⟩ | ⟨_, ⟨x, _⟩ | ⟨_, x⟩⟩)
        · exact absurd gi x
        · exact absurd gi x
        · by_cases z : g 141 (46 + 25 * i + 10) = -1
          · have a1 := i3 z
            have a2 := oi z
            clear i3 i4 oi
            exact ⟨z, u1, Or.inr (Or.inr ⟨fun q => q.1 gi, Or.inr ⟨gj, by omega, by omega⟩⟩)⟩
          · have a1 := i4 z
            clear i3 i4 oi
            omega
      · rintro ⟨z, _, ⟨x, _⟩ | ⟨⟨x, _⟩, _⟩ | ⟨_, ⟨x, _⟩ | ⟨_, x1, x2⟩⟩⟩
        · exact absurd gi x
        · exact absurd gi x
        · exact absurd gi x
        · have a1 := i3 z
          have a2 := oi z
          clear i3 i4 oi
          exact Or.inr ⟨fun q => q.1 gi, Or.inr ⟨gj, by omega⟩⟩
  · obtain ⟨v1, v2, v3, v4⟩ := i2 gi
    have oi := oi v1
    have w1 := i3 v1
    clear i2 i3 i4
    by_cases gj : g 149 j = 0
    · clear j2
      constructor
      · rintro (⟨⟨_, x⟩, _⟩ | ⟨_, ⟨_, x⟩ | ⟨x, _⟩⟩)
        · exact absurd gj x
        · by_cases z : g 141 (46 + 25 * j + 10) = -1
          · have a1 := j3 z
            have a2 := oj z
            clear j3 j4 oj
            exact ⟨v1, z, Or.inr (Or.inr ⟨fun q => q.2 gj, Or.inl ⟨gi, by omega, by omega⟩⟩)⟩
          · have a1 := j4 z
            clear j3 j4 oj
            omega
        · exact absurd gj x
      · rintro ⟨_, z, ⟨_, x, _⟩ | ⟨⟨_, x⟩, _⟩ | ⟨_, ⟨_, x1, x2⟩ | ⟨x, _⟩⟩⟩
        · exact absurd gj x
        · exact absurd gj x
        · have a1 := j3 z
          have a2 := oj z
          clear j3 j4 oj
          exact Or.inr ⟨fun q => q.2 gj, Or.inl ⟨gi, by omega⟩⟩
        · exact absurd gj x
    · obtain ⟨u1, u2, u3, u4⟩ := j2 gj
      have oj := oj u1
      have w2 := j3 u1
      clear j2 j3 j4
      constructor
      · rintro (⟨_, q | q⟩ | q)
        · exact ⟨v1, u1, Or.inl ⟨gi, gj, by omega, by omega⟩⟩
        · exact ⟨v1, u1, Or.inr (Or.inl ⟨⟨gi, gj⟩, ⟨gi, by omega, by omega⟩, gj, by omega, by omega⟩)⟩
        · exact absurd ⟨gi, gj⟩ q.1
      · rintro ⟨_, _, ⟨_, _, x1, x2⟩ | ⟨_, ⟨_, x1, x2⟩, _, x3, x4⟩ | q⟩
        · exact Or.inl ⟨⟨gi, gj⟩, Or.inl (by omega)⟩
        · exact Or.inl ⟨⟨gi, gj⟩, Or.inr ⟨by omega, by omega⟩⟩
        · exact absurd ⟨gi, gj⟩ q.1
theorem L_fc {fl : Prop} {h g : AH} {b x : Int} (hb : bdOk g) (hP : PR0 fl h b g) (hO : PO g) (hG : Gng h g) : isFCc h b x ↔ isFC g x := by
  have e3 : h b 3 = g 141 3 := hP.1.2.2.2.1
  unfold isFCc isFC
  rw [e3]
  have C : ∀ i j, 0 ≤ i → i < j → j < g 141 3 → (cCl h i j ↔ mCl g i j) := fun i j a c d => L_clash hb hP hO hG ⟨a, by omega⟩ ⟨by omega, d⟩
  constructor
  · rintro (⟨i, j, i0, ij, jn, cl, ex, no⟩ | ⟨ex, no⟩)
    · exact Or.inl ⟨i, j, i0, ij, jn, (C i j i0 ij jn).mp cl, by omega, fun a c a0 ac cn q z => no a c a0 ac cn q ((C a c a0 ac cn).mpr z)⟩
    · exact Or.inr ⟨ex, fun a c a0 ac cn z => no a c a0 ac cn ((C a c a0 ac cn).mpr z)⟩
  · rintro (⟨i, j, i0, ij, jn, cl, ex, no⟩ | ⟨ex, no⟩)
    · exact Or.inl ⟨i, j, i0, ij, jn, (C i j i0 ij jn).mpr cl, by omega, fun a c a0 ac cn q z => no a c a0 ac cn q ((C a c a0 ac cn).mp z)⟩
    · exact Or.inr ⟨ex, fun a c a0 ac cn z => no a c a0 ac cn ((C a c a0 ac cn).mp z)⟩
