/-! a turn: the log on both sides -/
theorem st6_log {h : AH} {i j p li lj x : Int} (h7 : 0 ≤ h 141 7 ∧ h 141 7 ≤ 30) (hx : 496 ≤ x) : st6 h i j p li lj 141 x = h 141 x := by
  unfold st6
  by_cases z : h 141 7 = 30
  · rw [if_pos z, up_ne (by omega)]
  · rw [if_neg z, up_ne (by omega), up_ne (by omega), up_ne (by omega), up_ne (by omega), up_ne (by omega), up_ne (by omega), up_ne (by omega)]
theorem stH_log {h : AH} {i j p x : Int} (h7 : 0 ≤ h 141 7 ∧ h 141 7 ≤ 30) (hi : 0 ≤ i ∧ i ≤ 11) (hj : 0 ≤ j ∧ j ≤ 11) (hx : 496 ≤ x) : stH h i j p 141 x = h 141 x := by
  unfold stH
  rw [st6_log ?_ hx, st5_f (by decide), st4_f (by decide), st3_f (by decide), st2_f (by decide), st1_f (by omega)]
  rw [st5_f (by decide), st4_f (by decide), st3_f (by decide), st2_f (by decide), st1_f (by omega)]
  exact h7
theorem RR_log : ∀ (m : Nat) (p : Int) (h h' : AH) (c : Int), RR m p h h' → rOk h c → ∀ x, 496 ≤ x → h' 141 x = h 141 x
  | 0, p, h, h', c, hr, _, x, _ => by
    obtain ⟨rfl, -⟩ := hr
    rfl
  | m + 1, p, h, h', c, hr, ho, x, hx => by
    obtain ⟨i, j, i0, ij, jn, hfc, hr⟩ := hr
    have hn := ho.1
    have hR := rOk_st (p := p) (c := c - 1) i0 ij jn (by rw [show c - 1 + 1 = c by omega]; exact ho)
    rw [RR_log m p _ h' (c - 1) hr hR x hx]
    exact stH_log ho.2.1 (by omega) (by omega) hx
theorem SK_log : ∀ (m : Nat) (i : Int) (h h' : AH), SK m i h h' → 0 ≤ i → i + m ≤ 12 → h 141 2 ≤ 4 → ∀ x, 496 ≤ x → h' 141 x = h 141 x
  | 0, i, h, h', hs, _, _, _, x, _ => by
    rw [show h' = h from hs]
  | m + 1, i, h, h', hs, i0, hi, hf, x, hx => by
    obtain ⟨h1, ⟨s1, s2⟩, hs⟩ := hs
    by_cases sk : h 141 (46 + 25 * i + 10) = -1 ∧ h 141 (46 + 25 * i + 4) ≤ 0
    · have su := (s1 sk).1
      rw [SK_log m (i + 1) h1 h' hs (by omega) (by omega) (by rw [su 141 2 (by omega)]; exact hf) x hx, su 141 x (by omega)]
    · rw [s2 sk] at hs
      exact SK_log m (i + 1) h h' hs (by omega) (by omega) hf x hx
theorem PulseM_log {h h' : AH} {c p : Int} (ho : gOk h c) (hP : PulseM h p h') : ∀ x, 496 ≤ x → h' 141 x = h 141 x := by
  obtain ⟨h1, h2, h3, m, ⟨f1, st⟩, hrr, ⟨c1, cp⟩, hsk⟩ := hP
  obtain ⟨ob, os, orr, om, od⟩ := ho
  have on := orr.1
  have o7 := orr.2.1
  have of := od.1
  have e3 : h1 141 3 = h 141 3 := f1 _ _ (by omega) (by omega)
  have e7 : h1 141 7 = h 141 7 := f1 _ _ (by omega) (by omega)
  have r1 : rOk h1 c := by
    obtain ⟨o1, o2, o3, o4⟩ := orr
    unfold rOk
    rw [e3, e7, f1 140 24 (by omega) (by omega)]
    refine ⟨o1, o2, o3, fun x x0 x1 => ?_⟩
    obtain ⟨q1, q2, q3⟩ := o4 x x0 x1
    rw [f1 141 (46 + 25 * x + 4) (by omega) (by omega), f1 141 (46 + 25 * x + 5) (by omega) (by omega)]
    exact ⟨(StP_rg (os x x0 x1).1 ob (st x x0 x1)).1, q2, q3⟩
  obtain ⟨k1, k2, k3⟩ := RR_keep m p h1 h2 hrr (by omega) (by omega)
  have e23 : h2 141 3 = h 141 3 := by rw [k2 3 (by decide) (by decide) (by decide), e3]
  have e22 : h2 141 2 = h 141 2 := by rw [k2 2 (by decide) (by decide) (by decide), f1 _ _ (by omega) (by omega)]
  have e33 : h3 141 3 = h 141 3 := by rw [c1 141 3 (by omega) (by omega), e23]
  have e32 : h3 141 2 = h 141 2 := by rw [c1 141 2 (by omega) (by omega), e22]
  intro x hx
  have sf := SK_log (h 141 3).toNat 0 h3 h' hsk (by decide) (by omega) (by omega) x hx
  rw [sf, c1 141 x (by omega) (by omega), RR_log m p h1 h2 c hrr r1 x hx, f1 141 x (by omega) (by omega)]
theorem PN_log : ∀ (m : Nat) (p : Int) (h h' : AH) (c : Int), PN m p h h' → 0 ≤ p → p + m ≤ 6 → gOk h c → 12 * (m : Int) ≤ c → c ≤ 1000 → ∀ x, 496 ≤ x → h' 141 x = h 141 x
  | 0, p, h, h', c, hp, _, _, ho, _, _, x, _ => by
    rw [show h' = h from hp]
  | m + 1, p, h, h', c, hp, p0, p6, ho, hc, hc2, x, hx => by
    obtain ⟨g, hg, hp⟩ := hp
    obtain ⟨o1, k1⟩ := PulseM_ok ⟨by omega, hc2⟩ ho hg ⟨p0, by omega⟩
    rw [PN_log m (p + 1) g h' (c - 12) hp (by omega) (by omega) o1 (by omega) (by omega) x hx]
    exact PulseM_log ho hg x hx
/-- the model's log behind a turn, of which m1 is the one that is logged -/
theorem Logged_at {g m1 : AH} (h8 : 0 ≤ g 141 8 ∧ g 141 8 ≤ 10) (hn : 0 ≤ g 141 3 ∧ g 141 3 ≤ 12) (hf : 0 ≤ g 141 2 ∧ g 141 2 ≤ 4) (hl : Logged g m1) {t y : Int} (ht : g 141 4 + 1 - m1 141 8 ≤ t ∧ t ≤ g 141 4) (hy : 0 ≤ y ∧ y < 4 + 6 * g 141 3) : m1 141 (496 + 76 * (t - (g 141 4 + 1 - m1 141 8)) + y) = (if t = g 141 4 then lgV g y else g 141 (logA g t + y)) ∧ (t ≠ g 141 4 → isLg g t) := by
  rcases hl with ⟨q, l1, l2, l3⟩ | ⟨q, l1, l2, l3⟩
  · rw [l2]
    refine ⟨?_, fun z => by unfold isLg; omega⟩
    by_cases z : t = g 141 4
    · rw [if_pos z, ← l3 y hy.1 hy.2]
      congr 1
      omega
    · rw [if_neg z, l1 _ _ (by omega)]
      unfold logA
      congr 1
      omega
  · have e8 : up (shl g 1180) 141 8 9 141 8 = 9 := up_at _ _ _ _
    have U : ∀ x, x < 496 → x ≠ 8 → up (shl g 1180) 141 8 9 141 x = g 141 x := fun x a c => by
      rw [up_ne (by omega)]
      unfold shl
      rw [if_neg (by omega)]
    have e3 := U 3 (by decide) (by decide)
    have e2 := U 2 (by decide) (by decide)
    rw [e8] at l1 l2 l3
    rw [e3] at l3
    rw [l2]
    refine ⟨?_, fun z => by unfold isLg; omega⟩
    by_cases z : t = g 141 4
    · rw [if_pos z, show 496 + 76 * (t - (g 141 4 + 1 - (9 + 1))) + y = 496 + 76 * 9 + y by omega, l3 y hy.1 hy.2]
      have r : y < 4 ∨ (0 ≤ (y - 4) / 6 ∧ (y - 4) / 6 ≤ 11 ∧ 0 ≤ (y - 4) % 6 ∧ (y - 4) % 6 ≤ 5) := by omega
      unfold lgV mSN
      rcases r with r | r
      · rw [if_pos r, if_pos r, e2, U (34 + 3 * y + 1) (by omega) (by omega), U (34 + 3 * y + 2) (by omega) (by omega)]
      · by_cases r2 : y < 4
        · rw [if_pos r2, if_pos r2, e2, U (34 + 3 * y + 1) (by omega) (by omega), U (34 + 3 * y + 2) (by omega) (by omega)]
        · rw [if_neg r2, if_neg r2, U (46 + 25 * ((y - 4) / 6) + 10) (by omega) (by omega), U (46 + 25 * ((y - 4) / 6) + (11 + (y - 4) % 6)) (by omega) (by omega)]
    · rw [if_neg z, l1 _ _ (by omega), up_ne (by omega)]
      unfold shl logA
      rw [if_pos (by omega)]
      congr 1
      omega
