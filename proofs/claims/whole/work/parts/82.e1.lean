/-! the relation of a sheet, moved: to a row of the same numbers, to a sheet of the same numbers -/
theorem encN_eq {c d : Int → Int} : ∀ n : Nat, (∀ k : Int, 0 ≤ k → k < n → c k = d k) → encN c n = encN d n
  | 0, _ => rfl
  | n + 1, e => by
    have q := e n (by omega) (by omega)
    show (if c n = 0 then encN c n else encN c n * 32 + c n - 96) = if d n = 0 then encN d n else encN d n * 32 + d n - 96
    rw [encN_eq n (fun k a b => e k a (by omega)), q]
theorem nmOk_eq {c d : Int → Int} (e : ∀ k : Int, 0 ≤ k → k < 8 → c k = d k) (q : nmOk c) : nmOk d := by
  obtain ⟨L, l1, l8, a, b⟩ := q
  refine ⟨L, l1, l8, fun k k0 k1 => ?_, fun k k0 k1 => ?_⟩
  · rw [← e k k0 (by omega)]
    exact a k k0 k1
  · rw [← e k (by omega) k1]
    exact b k k0 k1
theorem SX_eqr {h g g1 : AH} {b : Int} (e : ∀ x, 0 ≤ x → x < 1256 → g1 141 x = g 141 x) (hR : RO g) (hS : SX h b g) : SX h b g1 := by
  obtain ⟨⟨-, -, t3, -, t2, -, t9, -⟩, r4, r8, r7, -⟩ := hR
  obtain ⟨⟨s1, s2⟩, s3, s4, s5, s6, s7⟩ := hS
  have e3 := e 3 (by decide) (by decide)
  have e2 := e 2 (by decide) (by decide)
  have e4 := e 4 (by decide) (by decide)
  have e7 := e 7 (by decide) (by decide)
  have e8 := e 8 (by decide) (by decide)
  have e9 := e 9 (by decide) (by decide)
  have b8 : 0 ≤ g 141 8 ∧ g 141 8 ≤ 10 := by rw [r8]; split <;> omega
  have eL : ∀ t, logA g1 t = logA g t := fun t => by unfold logA; rw [e4, e8]
  refine ⟨⟨by rw [e9]; exact s1, by rw [e7]; exact s2⟩, fun i i0 i1 => ?_, fun s w a c d f => ?_, fun k w a c d f => ?_, fun f f0 f1 => ?_, fun t ht => ?_⟩
  · rw [e3] at i1
    rw [s3 i i0 i1]
    exact encN_eq 8 (fun k a c => (e _ (by omega) (by omega)).symm)
  · rw [e9] at c
    rw [e _ (by omega) (by omega)]
    exact s4 s w a c d f
  · rw [e7] at c
    rw [e _ (by omega) (by omega)]
    exact s5 k w a c d f
  · rw [e2] at f1
    rw [s6 f f0 f1]
    unfold mSN
    rw [e _ (by omega) (by omega), e _ (by omega) (by omega)]
  · unfold isLg at ht
    rw [e4, e8] at ht
    have ha : 496 ≤ logA g t ∧ logA g t ≤ 1180 := by unfold logA; omega
    obtain ⟨q1, q2⟩ := s7 t ht
    rw [eL]
    refine ⟨fun i i0 i1 => ?_, fun f f0 f1 => ?_⟩
    · rw [e3] at i1
      obtain ⟨q3, q4⟩ := q1 i i0 i1
      refine ⟨fun p p0 p1 => ?_, ?_⟩
      · rw [e _ (by omega) (by omega)]
        exact q3 p p0 p1
      · rw [e _ (by omega) (by omega)]
        exact q4
    · rw [e2] at f1
      rw [e _ (by omega) (by omega)]
      exact q2 f f0 f1
theorem RO_eqr {g g1 : AH} (e : ∀ x, 0 ≤ x → x < 1256 → g1 141 x = g 141 x) (hR : RO g) : RO g1 := by
  have hR2 := hR
  obtain ⟨hT, r4, r8, r7, rs, rf, rl⟩ := hR2
  obtain ⟨-, -, t3, -, t2, -, t9, -⟩ := hT
  have e3 := e 3 (by decide) (by decide)
  have e2 := e 2 (by decide) (by decide)
  have e4 := e 4 (by decide) (by decide)
  have e7 := e 7 (by decide) (by decide)
  have e8 := e 8 (by decide) (by decide)
  have b8 : 0 ≤ g 141 8 ∧ g 141 8 ≤ 10 := by rw [r8]; split <;> omega
  have eL : ∀ t, logA g1 t = logA g t := fun t => by unfold logA; rw [e4, e8]
  refine ⟨tOk_eqr e hR.1, by rw [e4]; exact r4, by rw [e8, e4]; exact r8, by rw [e7]; exact r7, fun i i0 i1 => ?_, fun f f0 f1 => ?_, fun t ht => ?_⟩
  · rw [e3] at i1
    obtain ⟨a, c⟩ := rs i i0 i1
    rw [e _ (by omega) (by omega), e (46 + 25 * i + 4) (by omega) (by omega)]
    exact ⟨nmOk_eq (fun k k0 k1 => (e _ (by omega) (by omega)).symm) a, c⟩
  · rw [e2] at f1
    rw [e _ (by omega) (by omega), e _ (by omega) (by omega), e _ (by omega) (by omega), e4]
    exact rf f f0 f1
  · unfold isLg at ht
    rw [e4, e8] at ht
    have ha : 496 ≤ logA g t ∧ logA g t ≤ 1180 := by unfold logA; omega
    obtain ⟨q1, q2⟩ := rl t ht
    rw [eL]
    refine ⟨fun i p i0 i1 p0 p1 => ?_, fun f f0 f1 => ?_⟩
    · rw [e3] at i1
      rw [e _ (by omega) (by omega), e _ (by omega) (by omega)]
      exact q1 i p i0 i1 p0 p1
    · rw [e2] at f1
      rw [e _ (by omega) (by omega)]
      exact q2 f f0 f1
theorem SR_eqr {h g g1 : AH} {b : Int} (e : ∀ x, 0 ≤ x → x < 1256 → g1 141 x = g 141 x) (hS : SR h b g) : SR h b g1 := by
  obtain ⟨a, c, d, f⟩ := hS
  have hT := f.1
  obtain ⟨-, -, t3, -, t2, -⟩ := hT
  exact ⟨PS0_row t3.2 t2.2 (fun x p q _ => e x p (by omega)) a, PO_row t3.2 (fun x p q _ _ _ => e x p (by omega)) c, SX_eqr e f d, RO_eqr e f⟩
theorem SX_eqh {h h' g : AH} {b b' : Int} (e : shEq h b h' b') (hR : RO g) (hS : SX h b g) : SX h' b' g := by
  obtain ⟨⟨-, -, t3, -, t2, -, t9, -⟩, r4, r8, r7, -⟩ := hR
  obtain ⟨⟨s1, s2⟩, s3, s4, s5, s6, s7⟩ := hS
  obtain ⟨e0, e1, e2, e3, e4, e5, e6, e7, e8, e9⟩ := e
  have b8 : 0 ≤ g 141 8 ∧ g 141 8 ≤ 10 := by rw [r8]; split <;> omega
  refine ⟨⟨by rw [e0 7 (by decide) (by decide)]; exact s1, by rw [e0 8 (by decide) (by decide)]; exact s2⟩, fun i i0 i1 => ?_, fun s w a c d f => ?_, fun k w a c d f => ?_, fun f f0 f1 => ?_, fun t ht => ?_⟩
  · rw [e1 i i0 (by omega)]
    exact s3 i i0 i1
  · rw [e4 _ (by omega) (by omega)]
    exact s4 s w a c d f
  · rw [e5 _ (by omega) (by omega)]
    exact s5 k w a c d f
  · rw [e7 _ f0 (by omega)]
    exact s6 f f0 f1
  · have m : 0 ≤ t % 10 ∧ t % 10 ≤ 9 := by omega
    obtain ⟨q1, q2⟩ := s7 t ht
    refine ⟨fun i i0 i1 => ?_, fun f f0 f1 => ?_⟩
    · rw [e8 _ (by omega) (by omega)]
      exact q1 i i0 i1
    · rw [e9 _ (by omega) (by omega)]
      exact q2 f f0 f1
theorem SR_eqh {h h' g : AH} {b b' : Int} (e : shEq h b h' b') (hS : SR h b g) : SR h' b' g := by
  obtain ⟨a, c, d, f⟩ := hS
  have hT := f.1
  obtain ⟨-, -, t3, -, t2, -⟩ := hT
  exact ⟨PS_eq t3.2 t2.2 e a, c, SX_eqh e f d, f⟩
theorem shEq_sm {h h' : AH} {b : Int} (f : ∀ k x, b ≤ k → k < b + 10 → h' k x = h k x) : shEq h b h' b := ⟨fun x _ _ => f _ _ (by omega) (by omega), fun x _ _ => f _ _ (by omega) (by omega), fun x _ _ => f _ _ (by omega) (by omega), fun x _ _ => f _ _ (by omega) (by omega), fun x _ _ => f _ _ (by omega) (by omega), fun x _ _ => f _ _ (by omega) (by omega), fun x _ _ => f _ _ (by omega) (by omega), fun x _ _ => f _ _ (by omega) (by omega), fun x _ _ => f _ _ (by omega) (by omega), fun x _ _ => f _ _ (by omega) (by omega)⟩
/-- sheet and row are moved at once -/
theorem SR_mv {h g h' g' : AH} {b b' : Int} (e : shEq h b h' b') (r : ∀ x, 0 ≤ x → x < 1256 → g' 141 x = g 141 x) (hS : SR h b g) : SR h' b' g' := SR_eqr r (SR_eqh e hS)
