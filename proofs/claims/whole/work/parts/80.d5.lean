/-! a ship alone; the class: course -/
/-- ship i alone in g goes as in c -/
def LR (i : Int) (g c : AH) : Prop := (0 ≤ i ∧ i < g 141 3 ∧ g 141 3 ≤ 12) ∧ (g 141 0 = c 141 0 ∧ g 141 1 = c 141 1 ∧ g 141 5 = c 141 5 ∧ g 141 6 = c 141 6) ∧ (∀ w, 0 ≤ w → w ≤ 16 → w ≠ 0 → w ≠ 4 → w ≠ 5 → w ≠ 10 → g 141 (46 + 25 * i + w) = c 141 (46 + 25 * i + w)) ∧ g 141 (46 + 25 * i + 10) = -1 ∧ 1 ≤ g 141 (46 + 25 * i + 4) ∧ ∀ j, 0 ≤ j → j < g 141 3 → j ≠ i → ¬ g 141 (46 + 25 * j + 10) = -1
theorem SK_none : ∀ (m : Nat) (i : Int) (g g' : AH), SK m i g g' → (∀ j, i ≤ j → j < i + m → ¬ (g 141 (46 + 25 * j + 10) = -1 ∧ g 141 (46 + 25 * j + 4) ≤ 0)) → g' = g
  | 0, i, g, g', hs, _ => hs
  | m + 1, i, g, g', ⟨g1, ⟨c1, c2⟩, c3⟩, hn => by
    have e := c2 (hn i (by omega) (by omega))
    rw [e] at c3
    exact SK_none m (i + 1) g g' c3 (fun j a b => hn j (by omega) (by omega))
theorem RR_none {m : Nat} {p i : Int} {g g' : AH} (hn : g 141 3 ≤ 12) (ha : ∀ j, 0 ≤ j → j < g 141 3 → j ≠ i → ¬ g 141 (46 + 25 * j + 10) = -1) (hr : RR m p g g') : g' = g := by
  cases m with
  | zero => exact hr.1
  | succ m =>
    obtain ⟨u, v, u0, uv, vn, q1, q2⟩ := hr
    have cl := isFC_cl hn u0 uv vn q1
    by_cases e : u = i
    · exact absurd cl.2.1 (ha v (by omega) vn (by omega))
    · exact absurd cl.1 (ha u u0 (by omega) e)
theorem Lone {i p : Int} {g g' c c' : AH} (hp : 0 ≤ p ∧ p ≤ 5) (hL : LR i g c) (hm : PulseM g p g') (hc : CoS c i (c 141 (46 + 25 * i + (11 + p))) c') : LR i g' c' := by
  obtain ⟨⟨i0, i1, i2⟩, ⟨d0, d1, d5, d6⟩, hw, h10, h4, ha⟩ := hL
  obtain ⟨h1, h2, h3, m, ⟨f1, s1⟩, hr, ⟨f3, s3⟩, hsk⟩ := hm
  have E3 : h1 141 3 = g 141 3 := f1 _ _ (by omega) (by omega)
  have e2 : h2 = h1 := RR_none (i := i) (by rw [E3]; exact i2) (fun j j0 j1 ji => by
    rw [E3] at j1
    rw [f1 _ _ (by omega) (by omega)]
    exact ha j j0 j1 ji) hr
  rw [e2] at f3 s3
  have F : ∀ x, x < 46 → h3 141 x = g 141 x := fun x a => by rw [f3 _ _ (by omega) (by omega), f1 _ _ (by omega) (by omega)]
  have Fw : ∀ j w, 0 ≤ j → 0 ≤ w → w ≤ 24 → w ≠ 1 → w ≠ 2 → w ≠ 3 → w ≠ 8 → w ≠ 9 → h3 141 (46 + 25 * j + w) = g 141 (46 + 25 * j + w) := fun j w a b c d e f k l => by rw [f3 _ _ (by omega) (by omega), f1 _ _ (by omega) (by omega)]
  have e3 : g' = h3 := SK_none (g 141 3).toNat 0 h3 g' hsk (fun j j0 j1 q => by
    rw [Fw j 10 j0 (by decide) (by decide) (by decide) (by decide) (by decide) (by decide) (by decide), Fw j 4 j0 (by decide) (by decide) (by decide) (by decide) (by decide) (by decide) (by decide)] at q
    by_cases e : j = i
    · rw [e] at q
      omega
    · exact ha j j0 (by omega) e q.1)
  rw [e3]
  -- what the ship does
  obtain ⟨st, -, -⟩ := s1 i i0 i1
  have ca := s3 i i0 i1
  obtain ⟨c1, x, ⟨gf, g4, gn⟩, ec⟩ := hc
  obtain ⟨l, hl⟩ : ∃ l, l = c 141 (46 + 25 * i + (11 + p)) := ⟨_, rfl⟩
  have hl2 : l = g 141 (46 + 25 * i + (11 + p)) := by rw [hl]; exact (hw (11 + p) (by omega) (by omega) (by omega) (by omega) (by omega) (by omega)).symm
  rw [← hl] at gf g4 gn
  obtain ⟨hd, hhd⟩ : ∃ hd, hd = gHd l (g 141 (46 + 25 * i + 9)) (g 141 (46 + 25 * i + 7)) (g 141 (46 + 25 * i + 3)) := ⟨_, rfl⟩
  obtain ⟨w, hw9⟩ : ∃ w, w = gWay (g 141 (46 + 25 * i + 8)) (g 141 (46 + 25 * i + 6)) (g 141 6) hd (g 141 5) := ⟨_, rfl⟩
  obtain ⟨t1, t2, t4, t5, t6, t7⟩ := st h10 l hd w hl2 hhd hw9
  have w1 := hw 1 (by decide) (by decide) (by decide) (by decide) (by decide) (by decide)
  have w2 := hw 2 (by decide) (by decide) (by decide) (by decide) (by decide) (by decide)
  have w3 := hw 3 (by decide) (by decide) (by decide) (by decide) (by decide) (by decide)
  have w6 := hw 6 (by decide) (by decide) (by decide) (by decide) (by decide) (by decide)
  have w7 := hw 7 (by decide) (by decide) (by decide) (by decide) (by decide) (by decide)
  have w8 := hw 8 (by decide) (by decide) (by decide) (by decide) (by decide) (by decide)
  have w9 := hw 9 (by decide) (by decide) (by decide) (by decide) (by decide) (by decide)
  -- the other one
  have G3 : goH c i l 141 (46 + 25 * i + 3) = hd := by
    unfold goH
    rw [up_at, ← w9, ← w7, ← w3, hhd]
  have G9 : goH c i l 141 (46 + 25 * i + 9) = gSi l (g 141 (46 + 25 * i + 9)) (g 141 (46 + 25 * i + 7)) := by
    unfold goH
    rw [up_ne (by omega), up_at, ← w9, ← w7]
  have Gx : ∀ k y, ¬ (k = 141 ∧ (y = 46 + 25 * i + 3 ∨ y = 46 + 25 * i + 9)) → goH c i l k y = c k y := fun k y a => by
    unfold goH
    rw [up_ne (by omega), up_ne (by omega)]
  rw [Gx 141 (46 + 25 * i + 8) (by omega), Gx 141 (46 + 25 * i + 6) (by omega), Gx 141 6 (by omega), Gx 141 5 (by omega), Gx 141 (46 + 25 * i + 1) (by omega), Gx 141 (46 + 25 * i + 2) (by omega), Gx 141 0 (by omega), Gx 141 1 (by omega), G3, ← w8, ← w6, ← w1, ← w2, ← d6, ← d5, ← d0, ← d1] at gn
  have C : ∀ k y, ¬ (k = 141 ∧ (y = 46 + 25 * i + 1 ∨ y = 46 + 25 * i + 2 ∨ y = 46 + 25 * i + 3 ∨ y = 46 + 25 * i + 8 ∨ y = 46 + 25 * i + 9)) → ¬ (k = 150 ∧ y = i) → ¬ (k = 151 ∧ y = i) → c' k y = c k y := fun k y a b d => by
    rw [ec]
    split
    · rw [gf k y (by omega) b d, Gx k y (by omega)]
    · rw [up_ne (by omega), up_ne (by omega), up_ne (by omega), gf k y (by omega) b d, Gx k y (by omega)]
  have C3 : c' 141 (46 + 25 * i + 3) = hd := by
    rw [ec]
    split
    · rw [gf _ _ (by omega) (by omega) (by omega), G3]
    · rw [up_ne (by omega), up_ne (by omega), up_ne (by omega), gf _ _ (by omega) (by omega) (by omega), G3]
  have C9 : c' 141 (46 + 25 * i + 9) = gSi l (g 141 (46 + 25 * i + 9)) (g 141 (46 + 25 * i + 7)) := by
    rw [ec]
    split
    · rw [gf _ _ (by omega) (by omega) (by omega), G9]
    · rw [up_ne (by omega), up_ne (by omega), up_ne (by omega), gf _ _ (by omega) (by omega) (by omega), G9]
  have H3 : h3 141 (46 + 25 * i + 3) = hd := by rw [f3 _ _ (by omega) (by omega), t1]
  have H9 : h3 141 (46 + 25 * i + 9) = gSi l (g 141 (46 + 25 * i + 9)) (g 141 (46 + 25 * i + 7)) := by rw [f3 _ _ (by omega) (by omega), t2]
  have a1 : h1 141 (46 + 25 * i + 1) = g 141 (46 + 25 * i + 1) := f1 _ _ (by omega) (by omega)
  have a2 : h1 141 (46 + 25 * i + 2) = g 141 (46 + 25 * i + 2) := f1 _ _ (by omega) (by omega)
  have stay : ∀ y, h1 149 i = 0 → x = 0 → h1 141 (46 + 25 * i + 8) = y → c1 141 (46 + 25 * i + 8) = y → h3 141 (46 + 25 * i + 1) = c' 141 (46 + 25 * i + 1) ∧ h3 141 (46 + 25 * i + 2) = c' 141 (46 + 25 * i + 2) ∧ h3 141 (46 + 25 * i + 8) = c' 141 (46 + 25 * i + 8) := fun y z1 z2 z3 z4 => by
    obtain ⟨u1, u2, u3, -⟩ := ca.1 z1
    rw [ec, if_pos z2, u1, u2, u3, z3, z4, a1, a2, w1, w2, gf _ _ (by omega) (by omega) (by omega), gf _ _ (by omega) (by omega) (by omega), Gx _ _ (by omega), Gx _ _ (by omega)]
    exact ⟨rfl, rfl, rfl⟩
  have K : h3 141 (46 + 25 * i + 1) = c' 141 (46 + 25 * i + 1) ∧ h3 141 (46 + 25 * i + 2) = c' 141 (46 + 25 * i + 2) ∧ h3 141 (46 + 25 * i + 8) = c' 141 (46 + 25 * i + 8) := by
    by_cases l4 : l = 4
    · obtain ⟨v1, v2⟩ := g4 l4
      obtain ⟨v3, v4⟩ := t4 l4
      exact stay _ v4 v2 v3 (by rw [v1, Gx _ _ (by omega), ← w8])
    · obtain ⟨n1, n2⟩ := gn l4 w hw9
      by_cases w90 : w < 90
      · obtain ⟨v1, v2⟩ := n1 w90
        obtain ⟨v3, v4⟩ := t5 l4 w90
        exact stay _ v4 v1 v3 v2
      · obtain ⟨n3, n4, n5, n6⟩ := n2 (by omega)
        rw [n3, n4] at n5 n6
        by_cases hin : 0 ≤ g 141 (46 + 25 * i + 1) + tab1 hd ∧ g 141 (46 + 25 * i + 1) + tab1 hd < g 141 0 ∧ 0 ≤ g 141 (46 + 25 * i + 2) + tab2 hd ∧ g 141 (46 + 25 * i + 2) + tab2 hd < g 141 1
        · obtain ⟨v1, v2⟩ := n5 hin
          obtain ⟨v3, v4, v5, v6⟩ := t6 l4 (by omega) hin
          obtain ⟨u1, u2, u3, -⟩ := ca.2 (by omega)
          rw [ec, if_neg (by omega), u1, u2, u3, v3, v5, v6]
          simp (disch := omega) only [up_at, up_ne]
          rw [n3, n4, v2]
          exact ⟨rfl, rfl, rfl⟩
        · obtain ⟨v1, v2⟩ := n6 hin
          obtain ⟨v3, v4⟩ := t7 l4 (by omega) hin
          exact stay _ v4 v1 v3 v2
  refine ⟨⟨i0, by rw [F 3 (by decide)]; exact i1, by rw [F 3 (by decide)]; exact i2⟩, ⟨?_, ?_, ?_, ?_⟩, fun w q0 q1 q2 q3 q4 q5 => ?_, ?_, ?_, fun j j0 j1 ji => ?_⟩
  · rw [F 0 (by decide), C _ _ (by omega) (by omega) (by omega), d0]
  · rw [F 1 (by decide), C _ _ (by omega) (by omega) (by omega), d1]
  · rw [F 5 (by decide), C _ _ (by omega) (by omega) (by omega), d5]
  · rw [F 6 (by decide), C _ _ (by omega) (by omega) (by omega), d6]
  · by_cases z1 : w = 1
    · rw [z1]; exact K.1
    · by_cases z2 : w = 2
      · rw [z2]; exact K.2.1
      · by_cases z3 : w = 3
        · rw [z3, H3, C3]
        · by_cases z8 : w = 8
          · rw [z8]; exact K.2.2
          · by_cases z9 : w = 9
            · rw [z9, H9, C9]
            · rw [Fw i w i0 q0 (by omega) z1 z2 z3 z8 z9, C _ _ (by omega) (by omega) (by omega)]
              exact hw w q0 q1 q2 q3 q4 q5
  · rw [Fw i 10 i0 (by decide) (by decide) (by decide) (by decide) (by decide) (by decide) (by decide)]
    exact h10
  · rw [Fw i 4 i0 (by decide) (by decide) (by decide) (by decide) (by decide) (by decide) (by decide)]
    exact h4
  · rw [F 3 (by decide)] at j1
    rw [Fw j 10 j0 (by decide) (by decide) (by decide) (by decide) (by decide) (by decide) (by decide)]
    exact ha j j0 j1 ji
theorem Lone_N {i : Int} : ∀ (m : Nat) (p : Int) (g g' c c' : AH), 0 ≤ p → p + m ≤ 6 → LR i g c → PN m p g g' → CoN i m p c c' → LR i g' c'
  | 0, p, g, g', c, c', _, _, hL, hp, hc => by
    rw [show g' = g from hp, show c' = c from hc]
    exact hL
  | m + 1, p, g, g', c, c', p0, p1, hL, ⟨g1, a, b⟩, ⟨c1, d, e⟩ => Lone_N m (p + 1) g1 g' c1 c' (by omega) (by omega) (Lone ⟨p0, by omega⟩ hL a d) b e
