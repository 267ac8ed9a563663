/-! the model: what stays true through pulses -/
def gOk (h : AH) (c : Int) : Prop := bdOk h ∧ (∀ j, 0 ≤ j → j < h 141 3 → shOk h j ∧ ∀ p, 0 ≤ p → p ≤ 5 → 1 ≤ h 141 (46 + 25 * j + (11 + p)) ∧ h 141 (46 + 25 * j + (11 + p)) ≤ 4) ∧ rOk h c ∧ (∀ j, 0 ≤ j → j < h 141 3 → 0 ≤ h 153 j ∧ h 153 j + c ≤ 1000000) ∧ dOk h c
theorem gOk_pu {h : AH} {c p : Int} (hp : 0 ≤ p ∧ p ≤ 5) (hc : 12 ≤ c) (ho : gOk h c) : puOk h p := by
  obtain ⟨o1, o2, ⟨r1, r2, r3, r4⟩, o4, ⟨d1, d2, d3, d4⟩⟩ := ho
  refine ⟨o1, fun j j0 j1 => ⟨(o2 j j0 j1).1, (o2 j j0 j1).2 p hp.1 hp.2⟩, ⟨r1, r2, by omega, fun x x0 x1 => ?_⟩, fun j j0 j1 => ?_, d1, d2, d3, fun g g0 g1 => ?_⟩
  · obtain ⟨q1, q2, q3⟩ := r4 x x0 x1
    exact ⟨q1, by omega, q3⟩
  · have := o4 j j0 j1; omega
  · have := d4 g g0 g1; omega
theorem isFC_cl {h : AH} {i j : Int} (hn : h 141 3 ≤ 12) (i0 : 0 ≤ i) (ij : i < j) (jn : j < h 141 3) (hf : isFC h (12 * i + j)) : mCl h i j := by
  rcases hf with ⟨a, b, a0, ab, bn, cl, e, -⟩ | ⟨e, -⟩
  · have ea : a = i := by omega
    have eb : b = j := by omega
    rw [← ea, ← eb]
    exact cl
  · omega
theorem RR_ok : ∀ (m : Nat) (p : Int) (h h' : AH) (c : Int), RR m p h h' → rOk h c → (m : Int) ≤ cnt (h 149) 12 ∧ h' 141 3 = h 141 3 ∧ (∀ x, 0 ≤ x → x ≤ 11 → ¬ h' 149 x = 0 → ¬ h 149 x = 0) ∧ ((m : Int) ≤ c → rOk h' (c - m))
  | 0, p, h, h', c, hr, ho => by
    obtain ⟨rfl, -⟩ := hr
    refine ⟨(cnt_rg _ _).1, rfl, fun _ _ _ q => q, fun _ => ?_⟩
    rw [show c - ((0 : Nat) : Int) = c by omega]
    exact ho
  | m + 1, p, h, h', c, hr, ho => by
    obtain ⟨i, j, i0, ij, jn, hfc, hr⟩ := hr
    have hn := ho.1
    have cl := isFC_cl (by omega) i0 ij jn hfc
    have hc := cnt_st (p := p) i0 ij (by omega) cl
    have hR := rOk_st (p := p) (c := c - 1) i0 ij jn (by rw [show c - 1 + 1 = c by omega]; exact ho)
    have e3 : stH h i j p 141 3 = h 141 3 := stH_a ho.2.1.1 (by omega) (by omega) (by omega) (by omega) (by omega)
    obtain ⟨q1, q2, q3, q4⟩ := RR_ok m p _ h' (c - 1) hr hR
    refine ⟨by omega, by rw [q2, e3], fun x x0 x1 hx => ?_, fun hm => ?_⟩
    · have q := q3 x x0 x1 hx
      rw [stH_149] at q
      intro z
      by_cases ex : x = j
      · rw [if_pos ex] at q
        by_cases g : mG1 h i j
        · rw [ex] at z; exact g.2.1 z
        · rw [if_neg (fun y => g y.1)] at q; exact q rfl
      · rw [if_neg ex] at q
        by_cases ei : x = i
        · rw [if_pos ei] at q
          by_cases g : mG1 h i j
          · rw [ei] at z; exact g.1 z
          · rw [if_neg (fun y => g y.1)] at q; exact q rfl
        · rw [if_neg ei] at q
          exact q z
    · have := q4 (by omega)
      rwa [show c - 1 - (m : Int) = c - ((m + 1 : Nat) : Int) by omega] at this
theorem SK_ok : ∀ (m : Nat) (i : Int) (h h' : AH) (c : Int), SK m i h h' → 0 ≤ i → i + m = h 141 3 → dOk h c → (m : Int) ≤ c → dOk h' (c - m) ∧ (∀ k x, ¬ (k = 141 ∧ ((34 ≤ x ∧ x < 34 + 3 * h 141 2 ∧ (x - 34) % 3 = 0) ∨ (46 ≤ x ∧ x < 46 + 25 * h 141 3 ∧ ((x - 46) % 25 = 1 ∨ (x - 46) % 25 = 2 ∨ (x - 46) % 25 = 4 ∨ (x - 46) % 25 = 10)))) → h' k x = h k x) ∧ (∀ j, 0 ≤ j → j < h 141 3 → (h' 141 (46 + 25 * j + 1) = h 141 (46 + 25 * j + 1) ∧ h' 141 (46 + 25 * j + 2) = h 141 (46 + 25 * j + 2) ∧ h' 141 (46 + 25 * j + 4) = h 141 (46 + 25 * j + 4) ∧ h' 141 (46 + 25 * j + 10) = h 141 (46 + 25 * j + 10)) ∨ (h' 141 (46 + 25 * j + 1) = -1 ∧ h' 141 (46 + 25 * j + 2) = -1 ∧ h' 141 (46 + 25 * j + 4) = 0 ∧ h' 141 (46 + 25 * j + 10) = h 141 4))
  | 0, i, h, h', c, hs, i0, hi, ho, hc => by
    have e : h' = h := hs
    subst e
    rw [show c - ((0 : Nat) : Int) = c by omega]
    exact ⟨ho, fun _ _ _ => rfl, fun _ _ _ => Or.inl ⟨rfl, rfl, rfl, rfl⟩⟩
  | m + 1, i, h, h', c, hs, i0, hi, ho, hc => by
    obtain ⟨h1, ⟨s1, s2⟩, hs⟩ := hs
    have hm : dOk h (c - 1) := ⟨ho.1, ho.2.1, ho.2.2.1, fun g g0 g1 => by have := ho.2.2.2 g g0 g1; omega⟩
    by_cases sk : h 141 (46 + 25 * i + 10) = -1 ∧ h 141 (46 + 25 * i + 4) ≤ 0
    · have su := s1 sk
      obtain ⟨d1, e3⟩ := dOk_sunk (m := c - 1) ⟨i0, by omega⟩ (by rw [show c - 1 + 1 = c by omega]; exact ho) su
      have hn := ho.2.1
      have e2 : h1 141 2 = h 141 2 := su.1 _ _ (by omega)
      have e4 : h1 141 4 = h 141 4 := su.1 _ _ (by have := ho.1; omega)
      obtain ⟨q1, q2, q3⟩ := SK_ok m (i + 1) h1 h' (c - 1) hs (by omega) (by omega) d1 (by omega)
      have hf := ho.1
      refine ⟨?_, fun k x a => ?_, fun j j0 j1 => ?_⟩
      · rwa [show c - 1 - (m : Int) = c - ((m + 1 : Nat) : Int) by omega] at q1
      · rw [q2 k x (by rw [e2, e3]; exact a), su.1 k x (by omega)]
      · have r := q3 j j0 (by omega)
        rw [e4] at r
        by_cases ej : j = i
        · obtain ⟨t1, t2, t3, t4⟩ := su.2.2
          right
          rw [ej] at r ⊢
          rcases r with ⟨r1, r2, r3, r4⟩ | r
          · exact ⟨by rw [r1, t1], by rw [r2, t2], by rw [r3, t3], by rw [r4, t4]⟩
          · exact r
        · rw [su.1 141 (46 + 25 * j + 1) (by omega), su.1 141 (46 + 25 * j + 2) (by omega), su.1 141 (46 + 25 * j + 4) (by omega), su.1 141 (46 + 25 * j + 10) (by omega)] at r
          exact r
    · have e := s2 sk
      subst e
      obtain ⟨q1, q2, q3⟩ := SK_ok m (i + 1) h1 h' (c - 1) hs (by omega) (by omega) hm (by omega)
      refine ⟨?_, q2, q3⟩
      rwa [show c - 1 - (m : Int) = c - ((m + 1 : Nat) : Int) by omega] at q1
/-- what a pulse keeps -/
def puK (h h' : AH) : Prop := (∀ k x, k ≠ 140 → k ≠ 141 → ¬ (149 ≤ k ∧ k ≤ 154) → h' k x = h k x) ∧ (∀ x, x < 346 → x ≠ 7 → ¬ (34 ≤ x ∧ x < 34 + 3 * h 141 2 ∧ (x - 34) % 3 = 0) → ¬ (46 ≤ x ∧ ((x - 46) % 25 = 1 ∨ (x - 46) % 25 = 2 ∨ (x - 46) % 25 = 3 ∨ (x - 46) % 25 = 4 ∨ (x - 46) % 25 = 8 ∨ (x - 46) % 25 = 9 ∨ (x - 46) % 25 = 10)) → h' 141 x = h 141 x)
theorem PulseM_ok {h h' : AH} {c p : Int} (hc : 12 ≤ c ∧ c ≤ 1000) (ho : gOk h c) (hP : PulseM h p h') (hp : 0 ≤ p ∧ p ≤ 5) : gOk h' (c - 12) ∧ puK h h' := by
  obtain ⟨h1, h2, h3, m, ⟨f1, st⟩, hrr, ⟨c1, cp⟩, hsk⟩ := hP
  obtain ⟨ob, os, orr, om, od⟩ := ho
  have on := orr.1
  have of := od.1
  have e3 : h1 141 3 = h 141 3 := f1 _ _ (by omega) (by omega)
  have e7 : h1 141 7 = h 141 7 := f1 _ _ (by omega) (by omega)
  have r1 : rOk h1 c := by
    obtain ⟨o1, o2, o3, o4⟩ := orr
    unfold rOk
    rw [e3, e7, f1 140 24 (by omega) (by omega)]
    refine ⟨o1, o2, o3, fun x x0 x1 => ?_⟩
    obtain ⟨q1, q2, q3⟩ := o4 x x0 x1
    rw [f1 141 (46 + 25 * x + 4) (by omega) (by omega), f1 141 (46 + 25 * x + 5) (by omega) (by omega)]
    exact ⟨(StP_rg (os x x0 x1).1 ob (st x x0 x1)).1, q2, q3⟩
  obtain ⟨k1, k2, k3⟩ := RR_keep m p h1 h2 hrr (by have := orr.2.1; omega) (by omega)
  obtain ⟨m1, e32, gm, r2⟩ := RR_ok m p h1 h2 c hrr r1
  have m12 := (cnt_rg (h1 149) 12).2
  have r2 := r2 (by omega)
  have e33 : h3 141 3 = h 141 3 := by rw [c1 141 3 (by omega) (by omega), e32, e3]
  have g23 : ∀ x, x < 346 → x ≠ 7 → ¬ (46 ≤ x ∧ ((x - 46) % 25 = 1 ∨ (x - 46) % 25 = 2 ∨ (x - 46) % 25 = 3 ∨ (x - 46) % 25 = 4 ∨ (x - 46) % 25 = 8 ∨ (x - 46) % 25 = 9)) → h3 141 x = h 141 x := fun x a b c => by
    rw [c1 141 x (by omega) (by omega), k2 x a b (by omega), f1 141 x (by omega) (by omega)]
  have e23 : h3 141 2 = h 141 2 := g23 2 (by decide) (by decide) (by decide)
  have d3 : dOk h3 c := by
    obtain ⟨o1, o2, o3, o4⟩ := od
    unfold dOk
    rw [e33, e23]
    refine ⟨o1, o2, fun x x0 x1 => ?_, fun g g0 g1 => ?_⟩
    · rw [g23 _ (by omega) (by omega) (by omega)]
      exact o3 x x0 x1
    · rw [g23 _ (by omega) (by omega) (by omega)]
      exact o4 g g0 g1
  obtain ⟨d4, sf, sp⟩ := SK_ok (h 141 3).toNat 0 h3 h' c hsk (by decide) (by omega) d3 (by omega)
  rw [e23, e33] at sf
  rw [e33] at sp
  have e34 : h' 141 3 = h 141 3 := by rw [sf 141 3 (by omega), e33]
  have keep : puK h h' := by
    refine ⟨fun k x a b c => ?_, fun x a b c d => ?_⟩
    · rw [sf k x (by omega), c1 k x (by omega) (by omega), k1 k x a b (by omega) (by omega) (by omega), f1 k x (by omega) (by omega)]
    · rw [sf 141 x (by omega)]
      exact g23 x a b (by omega)
  have e153 : ∀ j, 0 ≤ j → j < h 141 3 → h' 153 j = h 153 j ∨ h' 153 j = h 153 j + 1 := fun j j0 j1 => by
    rw [sf 153 j (by omega)]
    have b1 : h2 153 j = h 153 j := by rw [k1 153 j (by decide) (by decide) (by decide) (by decide) (by decide), f1 153 j (by omega) (by omega)]
    obtain ⟨q1, q2⟩ := cp j j0 (by omega)
    by_cases g : h2 149 j = 0
    · left; rw [(q1 g).2.2.2, b1]
    · right; rw [(q2 g).2.2.2, b1]
  refine ⟨⟨?_, fun j j0 j1 => ⟨?_, fun q q0 q1 => ?_⟩, ?_, fun j j0 j1 => ?_, ?_⟩, keep⟩
  · unfold bdOk
    rw [keep.2 0 (by decide) (by decide) (by omega) (by decide), keep.2 1 (by decide) (by decide) (by omega) (by decide), keep.2 5 (by decide) (by decide) (by omega) (by decide), keep.2 6 (by decide) (by decide) (by omega) (by decide)]
    exact ob
  · rw [e34] at j1
    obtain ⟨s1, s2, s3, s6, s7, s8, s9⟩ := (os j j0 j1).1
    obtain ⟨g3, g8, g9⟩ := StP_rg (os j j0 j1).1 ob (st j j0 j1)
    have hb := ob
    obtain ⟨b0, b1, -, -⟩ := hb
    have w3 : h' 141 (46 + 25 * j + 3) = h1 141 (46 + 25 * j + 3) := by rw [sf 141 (46 + 25 * j + 3) (by omega), c1 141 (46 + 25 * j + 3) (by omega) (by omega), k2 (46 + 25 * j + 3) (by omega) (by omega) (by omega)]
    have w9 : h' 141 (46 + 25 * j + 9) = h1 141 (46 + 25 * j + 9) := by rw [sf 141 (46 + 25 * j + 9) (by omega), c1 141 (46 + 25 * j + 9) (by omega) (by omega), k2 (46 + 25 * j + 9) (by omega) (by omega) (by omega)]
    have w6 : h' 141 (46 + 25 * j + 6) = h 141 (46 + 25 * j + 6) := keep.2 (46 + 25 * j + 6) (by omega) (by omega) (by omega) (by omega)
    have w7 : h' 141 (46 + 25 * j + 7) = h 141 (46 + 25 * j + 7) := keep.2 (46 + 25 * j + 7) (by omega) (by omega) (by omega) (by omega)
    have w8 : h' 141 (46 + 25 * j + 8) = h3 141 (46 + 25 * j + 8) := sf 141 (46 + 25 * j + 8) (by omega)
    have y8 : 0 ≤ h2 141 (46 + 25 * j + 8) ∧ h2 141 (46 + 25 * j + 8) ≤ 180 := by
      rcases k3 j j0 (by omega) with e | e
      · rw [e]; exact g8
      · rw [e]; omega
    obtain ⟨q1, q2⟩ := cp j j0 (by omega)
    have z8 : 0 ≤ h3 141 (46 + 25 * j + 8) ∧ h3 141 (46 + 25 * j + 8) ≤ 180 := by
      by_cases g : h2 149 j = 0
      · rw [(q1 g).2.2.1]; exact y8
      · rw [(q2 g).2.2.1]; unfold mx; split <;> omega
    have u1 : h2 141 (46 + 25 * j + 1) = h 141 (46 + 25 * j + 1) := by rw [k2 _ (by omega) (by omega) (by omega), f1 _ _ (by omega) (by omega)]
    have u2 : h2 141 (46 + 25 * j + 2) = h 141 (46 + 25 * j + 2) := by rw [k2 _ (by omega) (by omega) (by omega), f1 _ _ (by omega) (by omega)]
    have z12 : (-1 ≤ h3 141 (46 + 25 * j + 1) ∧ h3 141 (46 + 25 * j + 1) ≤ 30) ∧ (-1 ≤ h3 141 (46 + 25 * j + 2) ∧ h3 141 (46 + 25 * j + 2) ≤ 30) := by
      by_cases g : h2 149 j = 0
      · rw [(q1 g).1, (q1 g).2.1, u1, u2]; exact ⟨s1, s2⟩
      · have g1 := gm j j0 (by omega) g
        have e50 : h2 150 j = h1 150 j := k1 150 j (by decide) (by decide) (by decide) (by decide) (by decide)
        have e51 : h2 151 j = h1 151 j := k1 151 j (by decide) (by decide) (by decide) (by decide) (by decide)
        rw [(q2 g).1, (q2 g).2.1, e50, e51]
        obtain ⟨t1, t2, -⟩ := st j j0 j1
        by_cases a : h 141 (46 + 25 * j + 10) = -1
        · obtain ⟨-, -, v3, v4, v5, v6⟩ := t1 a _ _ _ rfl rfl rfl
          by_cases l4 : h 141 (46 + 25 * j + (11 + p)) = 4
          · exact absurd (v3 l4).2 g1
          · generalize gWay _ _ _ _ _ = w at *
            by_cases hw : w < 90
            · exact absurd (v4 l4 hw).2 g1
            · generalize gHd _ _ _ _ = hd at *
              by_cases hin : (0 ≤ h 141 (46 + 25 * j + 1) + tab1 hd ∧ h 141 (46 + 25 * j + 1) + tab1 hd < h 141 0 ∧ 0 ≤ h 141 (46 + 25 * j + 2) + tab2 hd ∧ h 141 (46 + 25 * j + 2) + tab2 hd < h 141 1)
              · obtain ⟨-, -, x1, x2⟩ := v5 l4 (by omega) hin
                rw [x1, x2]
                omega
              · exact absurd (v6 l4 (by omega) hin).2 g1
        · exact absurd (t2 a).2.2.2 g1
    unfold shOk
    rw [w3, w6, w7, w8, w9]
    rcases sp j j0 j1 with ⟨p1, p2, -, -⟩ | ⟨p1, p2, -, -⟩
    · rw [p1, p2]; exact ⟨z12.1, z12.2, g3, s6, s7, z8, g9⟩
    · rw [p1, p2]; exact ⟨by omega, by omega, g3, s6, s7, z8, g9⟩
  · rw [e34] at j1
    rw [keep.2 (46 + 25 * j + (11 + q)) (by omega) (by omega) (by omega) (by omega)]
    exact (os j j0 j1).2 q q0 q1
  · obtain ⟨o1, o2, o3, o4⟩ := r2
    unfold rOk
    have e24 : h' 140 24 = h2 140 24 := by rw [sf 140 24 (by omega), c1 140 24 (by omega) (by omega)]
    have e77 : h' 141 7 = h2 141 7 := by rw [sf 141 7 (by omega), c1 141 7 (by omega) (by omega)]
    rw [e34, e24, e77]
    refine ⟨on, o2, by omega, fun x x0 x1 => ?_⟩
    obtain ⟨q1, q2, q3⟩ := o4 x x0 (by omega)
    rw [sf 141 (46 + 25 * x + 3) (by omega), sf 141 (46 + 25 * x + 5) (by omega), c1 141 (46 + 25 * x + 3) (by omega) (by omega), c1 141 (46 + 25 * x + 5) (by omega) (by omega)]
    refine ⟨q1, ?_, q3⟩
    have h4 : h3 141 (46 + 25 * x + 4) = h2 141 (46 + 25 * x + 4) := c1 141 _ (by omega) (by omega)
    rcases sp x x0 x1 with ⟨-, -, p1, -⟩ | ⟨-, -, p1, -⟩
    · rw [p1, h4]; omega
    · rw [p1]
      have := orr.2.2.2 x x0 x1
      have := orr.2.2.1
      omega
  · rw [e34] at j1
    have q := om j j0 j1
    rcases e153 j j0 j1 with e | e
    · rw [e]; omega
    · rw [e]; omega
  · exact ⟨d4.1, d4.2.1, d4.2.2.1, fun g g0 g1 => by have := d4.2.2.2 g g0 g1; omega⟩
