/-! the relation of a sheet, moved: to a row of the same numbers, to a sheet of the same numbers -/
theorem encN_eq {c d : Int → Int} : ∀ n : Nat, (∀ k : Int, 0 ≤ k → k < n → c k = d k) → encN c n = encN d n
  | 0, _ => rfl
  | n + 1, e => by
    have q := e n (by omega) (by omega)
    show (if c n = 0 then encN c n else encN c n * 32 + c n - 96) = if d n = 0 then encN d n else encN d n * 32 + d n - 96
    rw [encN_eq n (fun k a b => e k a (by omega)), q]
theorem nmOk_eq {c d : Int → Int} (e : ∀ k : Int, 0 ≤ k → k < 8 → c k = d k) (q : nmOk c) : nmOk d := by
  obtain ⟨L, l1, l8, a, b⟩ := q
  refine ⟨L, l1, l8, fun k k0 k1 => ?_, fun k k0 k1 => ?_⟩
  · rw [← e k k0 (by omega)]
    exact a k k0 k1
  · rw [← e k (by omega) k1]
    exact b k k0 k1
theorem SX_eqr {h g g1 : AH} {b : Int} (e : ∀ x, 0 ≤ x ∧ x < 1256 ∧ x ≠ 5 ∧ x ≠ 6 → g1 141 x = g 141 x) (hR : RO g) (hS : SX h b g) : SX h b g1 := by
  obtain ⟨⟨-, -, t3, -, t2, -, t9, -⟩, r4, r8, r7, -⟩ := hR
  obtain ⟨⟨s1, s2⟩, s3, s4, s5, s6, s7⟩ := hS
  have e3 := e 3 (by decide)
  have e2 := e 2 (by decide)
  have e4 := e 4 (by decide)
  have e7 := e 7 (by decide)
  have e8 := e 8 (by decide)
  have e9 := e 9 (by decide)
  have b8 : 0 ≤ g 141 8 ∧ g 141 8 ≤ 10 := by rw [r8]; split <;> omega
  have eL : ∀ t, logA g1 t = logA g t := fun t => by unfold logA; rw [e4, e8]
  refine ⟨⟨by rw [e9]; exact s1, by rw [e7]; exact s2⟩, fun i i0 i1 => ?_, fun s w a c d f => ?_, fun k w a c d f => ?_, fun f f0 f1 => ?_, fun t ht => ?_⟩
  · rw [e3] at i1
    rw [s3 i i0 i1]
    exact encN_eq 8 (fun k a c => (e _ (by omega)).symm)
  · rw [e9] at c
    rw [e _ (by omega)]
    exact s4 s w a c d f
  · rw [e7] at c
    rw [e _ (by omega)]
    exact s5 k w a c d f
  · rw [e2] at f1
    rw [s6 f f0 f1]
    unfold mSN
    rw [e _ (by omega), e _ (by omega)]
  · unfold isLg at ht
    rw [e4, e8] at ht
    have ha : 496 ≤ logA g t ∧ logA g t ≤ 1180 := by unfold logA; omega
    obtain ⟨q1, q2⟩ := s7 t ht
    rw [eL]
    refine ⟨fun i i0 i1 => ?_, fun f f0 f1 => ?_⟩
    · rw [e3] at i1
      obtain ⟨q3, q4⟩ := q1 i i0 i1
      refine ⟨fun p p0 p1 => ?_, ?_⟩
      · rw [e _ (by omega)]
        exact q3 p p0 p1
      · rw [e _ (by omega)]
        exact q4
    · rw [e2] at f1
      rw [e _ (by omega)]
      exact q2 f f0 f1
theorem RO_eqr {g g1 : AH} (e : ∀ x, 0 ≤ x ∧ x < 1256 ∧ x ≠ 5 ∧ x ≠ 6 → g1 141 x = g 141 x) (hT1 : tOk g1) (hR : RO g) : RO g1 := by
  have hR2 := hR
  obtain ⟨hT, r4, r8, r7, rs, rf, rl⟩ := hR2
  obtain ⟨-, -, t3, -, t2, -, t9, -⟩ := hT
  have e3 := e 3 (by decide)
  have e2 := e 2 (by decide)
  have e4 := e 4 (by decide)
  have e7 := e 7 (by decide)
  have e8 := e 8 (by decide)
  have b8 : 0 ≤ g 141 8 ∧ g 141 8 ≤ 10 := by rw [r8]; split <;> omega
  have eL : ∀ t, logA g1 t = logA g t := fun t => by unfold logA; rw [e4, e8]
  refine ⟨hT1, by rw [e4]; exact r4, by rw [e8, e4]; exact r8, by rw [e7]; exact r7, fun i i0 i1 => ?_, fun f f0 f1 => ?_, fun t ht => ?_⟩
  · rw [e3] at i1
    obtain ⟨a, c⟩ := rs i i0 i1
    rw [e _ (by omega), e (46 + 25 * i + 4) (by omega)]
    exact ⟨nmOk_eq (fun k k0 k1 => (e _ (by omega)).symm) a, c⟩
  · rw [e2] at f1
    rw [e _ (by omega), e _ (by omega), e _ (by omega), e4]
    exact rf f f0 f1
  · unfold isLg at ht
    rw [e4, e8] at ht
    have ha : 496 ≤ logA g t ∧ logA g t ≤ 1180 := by unfold logA; omega
    obtain ⟨q1, q2⟩ := rl t ht
    rw [eL]
    refine ⟨fun i p i0 i1 p0 p1 => ?_, fun f f0 f1 => ?_⟩
    · rw [e3] at i1
      rw [e _ (by omega), e _ (by omega)]
      exact q1 i p i0 i1 p0 p1
    · rw [e2] at f1
      rw [e _ (by omega)]
      exact q2 f f0 f1
theorem SR_eqr {h g g1 : AH} {b : Int} (e : ∀ x, 0 ≤ x → x < 1256 → g1 141 x = g 141 x) (hS : SR h b g) : SR h b g1 := by
  obtain ⟨a, c, d, f⟩ := hS
  have hT := f.1
  obtain ⟨-, -, t3, -, t2, -⟩ := hT
  exact ⟨PS0_row t3.2 t2.2 (fun x p q _ => e x p (by omega)) a, PO_row t3.2 (fun x p q _ _ _ => e x p (by omega)) c, SX_eqr (fun x p => e x p.1 p.2.1) f d, RO_eqr (fun x p => e x p.1 p.2.1) (tOk_eqr e f.1) f⟩
/-- all of a sheet that SX speaks of -/
def shX (h : AH) (b : Int) (h' : AH) (b' : Int) : Prop := (h' b' 7 = h b 7 ∧ h' b' 8 = h b 8) ∧ (∀ x, 0 ≤ x → x < 12 → h' (b' + 1) x = h (b + 1) x) ∧ (∀ x, 0 ≤ x → x < 24 → h' (b' + 4) x = h (b + 4) x) ∧ (∀ x, 0 ≤ x → x < 150 → h' (b' + 5) x = h (b + 5) x) ∧ (∀ x, 0 ≤ x → x < 4 → h' (b' + 7) x = h (b + 7) x) ∧ (∀ x, 0 ≤ x → x < 120 → h' (b' + 8) x = h (b + 8) x) ∧ (∀ x, 0 ≤ x → x < 40 → h' (b' + 9) x = h (b + 9) x)
theorem shX_of {h h' : AH} {b b' : Int} (e : shEq h b h' b') : shX h b h' b' := by
  obtain ⟨e0, e1, e2, e3, e4, e5, e6, e7, e8, e9⟩ := e
  exact ⟨⟨e0 7 (by decide) (by decide), e0 8 (by decide) (by decide)⟩, e1, e4, e5, e7, e8, e9⟩
theorem SX_eqh {h h' g : AH} {b b' : Int} (e : shX h b h' b') (hR : RO g) (hS : SX h b g) : SX h' b' g := by
  obtain ⟨⟨-, -, t3, -, t2, -, t9, -⟩, r4, r8, r7, -⟩ := hR
  obtain ⟨⟨s1, s2⟩, s3, s4, s5, s6, s7⟩ := hS
  obtain ⟨⟨e07, e08⟩, e1, e4, e5, e7, e8, e9⟩ := e
  have b8 : 0 ≤ g 141 8 ∧ g 141 8 ≤ 10 := by rw [r8]; split <;> omega
  refine ⟨⟨by rw [e07]; exact s1, by rw [e08]; exact s2⟩, fun i i0 i1 => ?_, fun s w a c d f => ?_, fun k w a c d f => ?_, fun f f0 f1 => ?_, fun t ht => ?_⟩
  · rw [e1 i i0 (by omega)]
    exact s3 i i0 i1
  · rw [e4 _ (by omega) (by omega)]
    exact s4 s w a c d f
  · rw [e5 _ (by omega) (by omega)]
    exact s5 k w a c d f
  · rw [e7 _ f0 (by omega)]
    exact s6 f f0 f1
  · have m : 0 ≤ t % 10 ∧ t % 10 ≤ 9 := by omega
    obtain ⟨q1, q2⟩ := s7 t ht
    refine ⟨fun i i0 i1 => ?_, fun f f0 f1 => ?_⟩
    · rw [e8 _ (by omega) (by omega)]
      exact q1 i i0 i1
    · rw [e9 _ (by omega) (by omega)]
      exact q2 f f0 f1
theorem SR_eqh {h h' g : AH} {b b' : Int} (e : shEq h b h' b') (hS : SR h b g) : SR h' b' g := by
  obtain ⟨a, c, d, f⟩ := hS
  have hT := f.1
  obtain ⟨-, -, t3, -, t2, -⟩ := hT
  exact ⟨PS_eq t3.2 t2.2 e a, c, SX_eqh (shX_of e) f d, f⟩
theorem shEq_sm {h h' : AH} {b : Int} (f : ∀ k x, b ≤ k → k < b + 10 → h' k x = h k x) : shEq h b h' b := ⟨fun x _ _ => f _ _ (by omega) (by omega), fun x _ _ => f _ _ (by omega) (by omega), fun x _ _ => f _ _ (by omega) (by omega), fun x _ _ => f _ _ (by omega) (by omega), fun x _ _ => f _ _ (by omega) (by omega), fun x _ _ => f _ _ (by omega) (by omega), fun x _ _ => f _ _ (by omega) (by omega), fun x _ _ => f _ _ (by omega) (by omega), fun x _ _ => f _ _ (by omega) (by omega), fun x _ _ => f _ _ (by omega) (by omega)⟩
/-- sheet and row are moved at once -/
theorem SR_mv {h g h' g' : AH} {b b' : Int} (e : shEq h b h' b') (r : ∀ x, 0 ≤ x → x < 1256 → g' 141 x = g 141 x) (hS : SR h b g) : SR h' b' g' := SR_eqr r (SR_eqh e hS)
theorem PS_wind2 {h g : AH} {b d f : Int} (hP : PS0 True h b g) (hn : g 141 3 ≤ 12) (hf : g 141 2 ≤ 4) : PS0 True (up (up h b 5 d) b 6 f) b (up (up g 141 5 d) 141 6 f) := by
  obtain ⟨⟨d0, d1, d2, d3, d4, d5, d6⟩, hS, hp⟩ := hP
  have M : ∀ y, y ≠ 5 → y ≠ 6 → up (up g 141 5 d) 141 6 f 141 y = g 141 y := fun y a c => by rw [up_ne (by omega), up_ne (by omega)]
  have C : ∀ k y, ¬ (k = b ∧ (y = 5 ∨ y = 6)) → up (up h b 5 d) b 6 f k y = h k y := fun k y a => by rw [up_ne (by omega), up_ne (by omega)]
  refine ⟨⟨?_, ?_, ?_, ?_, ?_, ?_, ?_⟩, fun i i0 i1 => ?_, fun f f0 f1 => ?_⟩
  · rw [C _ _ (by omega), M _ (by decide) (by decide), d0]
  · rw [C _ _ (by omega), M _ (by decide) (by decide), d1]
  · rw [C _ _ (by omega), M _ (by decide) (by decide), d2]
  · rw [C _ _ (by omega), M _ (by decide) (by decide), d3]
  · rw [C _ _ (by omega), M _ (by decide) (by decide), d4]
  · rw [up_ne (by omega), up_at, up_ne (by omega), up_at]
  · rw [up_at, up_at]
  · rw [M _ (by decide) (by decide)] at i1
    obtain ⟨s1, s2, s3, s4⟩ := hS i i0 i1
    refine ⟨fun w w0 w1 => ?_, ?_, fun q => ?_, fun p p0 p1 => ?_⟩
    · rw [C _ _ (by omega), M _ (by omega) (by omega)]
      exact s1 w w0 w1
    · rw [C _ _ (by omega), M _ (by omega) (by omega)]
      exact s2
    · rw [C _ _ (by omega), M _ (by omega) (by omega)]
      exact s3 q
    · rw [C _ _ (by omega), M _ (by omega) (by omega)]
      exact s4 p p0 p1
  · rw [M _ (by decide) (by decide)] at f1
    rw [C _ _ (by omega), M _ (by omega) (by omega)]
    exact hp f f0 f1
theorem tOk_w2 {g : AH} {d f : Int} (hd : 0 ≤ d ∧ d ≤ 7) (hf : 0 ≤ f ∧ f ≤ 9) (hT : tOk g) : tOk (up (up g 141 5 d) 141 6 f) := by
  obtain ⟨⟨t1, t2, -, -⟩, t3, t4, t5, t6, t7, t8, t9, t10, t11⟩ := hT
  have M : ∀ y, y ≠ 5 → y ≠ 6 → up (up g 141 5 d) 141 6 f 141 y = g 141 y := fun y a c => by rw [up_ne (by omega), up_ne (by omega)]
  have e3 := M 3 (by decide) (by decide)
  have e2 := M 2 (by decide) (by decide)
  have e9 := M 9 (by decide) (by decide)
  unfold tOk bdOk shOk
  rw [e3, e2, e9, M 4 (by decide) (by decide), M 8 (by decide) (by decide), M 0 (by decide) (by decide), M 1 (by decide) (by decide)]
  refine ⟨⟨t1, t2, by rw [up_ne (by omega), up_at]; exact hd, by rw [up_at]; exact hf⟩, fun j j0 j1 => ⟨?_, fun p p0 p1 => ?_⟩, t4, fun x x0 x1 => ?_, t6, fun q q0 q1 => ?_, t8, fun s s0 s1 => ?_, t10, t11⟩
  · rw [M (46 + 25 * j + 1) (by omega) (by omega), M (46 + 25 * j + 2) (by omega) (by omega), M (46 + 25 * j + 3) (by omega) (by omega), M (46 + 25 * j + 6) (by omega) (by omega), M (46 + 25 * j + 7) (by omega) (by omega), M (46 + 25 * j + 8) (by omega) (by omega), M (46 + 25 * j + 9) (by omega) (by omega)]
    exact (t3 j j0 j1).1
  · rw [M _ (by omega) (by omega)]
    exact (t3 j j0 j1).2 p p0 p1
  · rw [M _ (by omega) (by omega), M _ (by omega) (by omega)]
    exact t5 x x0 x1
  · rw [M _ (by omega) (by omega)]
    exact t7 q q0 q1
  · rw [M _ (by omega) (by omega), M _ (by omega) (by omega)]
    exact t9 s s0 s1
theorem SR_w2 {h g : AH} {d f : Int} (hd : 0 ≤ d ∧ d ≤ 7) (hf : 0 ≤ f ∧ f ≤ 9) (hS : SR h 5 g) : SR (up (up h 5 5 d) 5 6 f) 5 (up (up g 141 5 d) 141 6 f) := by
  obtain ⟨a, c, s, r⟩ := hS
  have hT := r.1
  obtain ⟨-, -, t3, -, t2, -⟩ := hT
  have M : ∀ y, y ≠ 5 → y ≠ 6 → up (up g 141 5 d) 141 6 f 141 y = g 141 y := fun y a c => by rw [up_ne (by omega), up_ne (by omega)]
  have C : ∀ k y, ¬ (k = 5 ∧ (y = 5 ∨ y = 6)) → up (up h 5 5 d) 5 6 f k y = h k y := fun k y a => by rw [up_ne (by omega), up_ne (by omega)]
  refine ⟨PS_wind2 a t3.2 t2.2, PO_row t3.2 (fun x _ _ _ p q => M x p q) c, ?_, ?_⟩
  · refine SX_eqh (h := h) (b := 5) ⟨⟨C _ _ (by omega), C _ _ (by omega)⟩, fun x _ _ => C _ _ (by omega), fun x _ _ => C _ _ (by omega), fun x _ _ => C _ _ (by omega), fun x _ _ => C _ _ (by omega), fun x _ _ => C _ _ (by omega), fun x _ _ => C _ _ (by omega)⟩ ?_ ?_
    · exact RO_eqr (fun x p => M x p.2.2.1 p.2.2.2) (tOk_w2 hd hf r.1) r
    · exact SX_eqr (fun x p => M x p.2.2.1 p.2.2.2) r s
  · exact RO_eqr (fun x p => M x p.2.2.1 p.2.2.2) (tOk_w2 hd hf r.1) r
