/-! the class: load() -/
theorem SR_load {h : AH} {R : Int → Int} (hL : LdS h R) : SR h 15 (fun _ => R) := by
  obtain ⟨⟨⟨r0, r0'⟩, ⟨r1, r1'⟩, ⟨r2, r2'⟩, ⟨r3, r3'⟩, rS, -⟩, t2, ⟨⟨s7, s7'⟩, sS⟩, ⟨q4, q8⟩, ⟨q5, q5'⟩, ⟨q6, q6'⟩, z18, z21, ⟨R4, R7, R8⟩, Rz⟩ := hL
  have nL : ∀ t, ¬ isLg (fun _ => R) t := fun t q => by
    unfold isLg at q
    dsimp only at q
    omega
  refine ⟨⟨⟨r0, r1, r2, r3, by rw [q4]; exact R4.symm, q5, q6⟩, fun i i0 i1 => ?_, fun f f0 f1 => ?_⟩, fun i i0 i1 => ?_, ⟨⟨s7, by rw [q8]; exact R7.symm⟩, fun i i0 i1 => ?_, fun s w s0 s1 w0 w1 => ?_, fun k w k0 k1 => ?_, fun f f0 f1 => ?_, fun t ht => absurd ht (nL t)⟩, ⟨⟨r0', r1', by dsimp only; omega, by dsimp only; omega⟩, fun j j0 j1 => ?_, r3', fun x x0 x1 => ?_, r2', fun g g0 g1 => ?_, s7', fun s s0 s1 => (sS s s0 s1).2, by dsimp only; omega, by dsimp only; omega⟩, by dsimp only; omega, ?_, by dsimp only; omega, fun i i0 i1 => ?_, fun f f0 f1 => ?_, fun t ht => absurd ht (nL t)⟩
  · dsimp only at i1 ⊢
    obtain ⟨⟨o1, -⟩, -, p1, -, -, ⟨-, -, p10⟩, pl, -, -⟩ := rS i i0 i1
    refine ⟨fun w w0 w1 => o1 w w0 (by omega), ⟨fun _ q => ?_, fun _ => p10⟩, fun _ => o1 10 (by decide) (by decide), fun p a b => ?_⟩
    · have e := o1 1 (by decide) (by decide)
      have q' : h 17 (i * 11 + 1) = -1 := q
      omega
    · rw [pl p a b, show h (15 + 3) i = 37449 from z18 i i0 (by omega)]
      exact cLt_a ⟨a, b⟩
  · dsimp only at f1 ⊢
    rw [Rz _ (by omega) (by omega)]
    exact (z21 f f0 (by omega)).1
  · dsimp only at i1 ⊢
    obtain ⟨-, p0, p1, p2, -, ⟨-, -, p10⟩, -⟩ := rS i i0 i1
    exact ⟨p0, fun _ => ⟨p1, p2⟩, fun q => absurd p10 q⟩
  · dsimp only at i1 ⊢
    exact (rS i i0 i1).2.2.2.2.2.2.2.1
  · dsimp only at s1 ⊢
    exact (sS s s0 s1).1 w w0 w1
  · dsimp only at k1
    omega
  · dsimp only at f1
    have e : mSN (fun _ => R) f = -1 := by
      unfold mSN
      exact if_neg (by
        dsimp only
        rw [Rz (34 + 3 * f + 1) (by omega) (by omega)]
        decide)
    rw [e]
    exact (z21 f f0 (by omega)).2
  · dsimp only at j1
    obtain ⟨⟨-, o4, o5, o6, o7⟩, p0, p1, p2, p3, ⟨p8, p9, p10⟩, pl, -, -⟩ := rS j j0 j1
    refine ⟨⟨by dsimp only; omega, by dsimp only; omega, p3, by dsimp only; omega, o7, by dsimp only; omega, by dsimp only; omega⟩, fun p a b => ?_⟩
    dsimp only
    rw [pl p a b]
    decide
  · dsimp only at x1 ⊢
    obtain ⟨⟨-, o4, o5, o6, o7⟩, -⟩ := rS x x0 x1
    omega
  · dsimp only at g1 ⊢
    rw [Rz _ (by omega) (by omega)]
    decide
  · show R 8 = if R 4 < 10 then R 4 else 10
    rw [if_pos (by omega), R4, R8]
  · dsimp only at i1 ⊢
    obtain ⟨⟨-, o4, -⟩, -, -, -, -, ⟨-, -, p10⟩, -, -, pn⟩ := rS i i0 i1
    exact ⟨pn, fun _ => o4, fun q => absurd p10 q⟩
  · dsimp only at f1 ⊢
    rw [Rz (34 + 3 * f + 1) (by omega) (by omega), Rz (34 + 3 * f) (by omega) (by omega), R4]
    exact ⟨Or.inl rfl, fun q => absurd q (by decide), by decide, by decide⟩
/-- no two ships of a row have a name -/
def UN (g : AH) : Prop := ∀ i j, 0 ≤ i → i < j → j < g 141 3 → ¬ encN (fun k => g 141 (46 + 25 * i + (17 + k))) 8 = encN (fun k => g 141 (46 + 25 * j + (17 + k))) 8
theorem UN_load {h : AH} {R : Int → Int} (hL : LdS h R) : UN (fun _ => R) := by
  obtain ⟨⟨-, -, -, r3, rS, -, ru⟩, -⟩ := hL
  intro i j i0 ij jn
  dsimp only at jn ⊢
  rw [← (rS i i0 (by omega)).2.2.2.2.2.2.2.1, ← (rS j (by omega) jn).2.2.2.2.2.2.2.1]
  exact ru i j i0 ij jn
theorem UN_eqr {g g1 : AH} (n : g 141 3 ≤ 12) (e3 : g1 141 3 = g 141 3) (e : ∀ i k, 0 ≤ i → i < g 141 3 → 0 ≤ k → k < 8 → g1 141 (46 + 25 * i + (17 + k)) = g 141 (46 + 25 * i + (17 + k))) (hU : UN g) : UN g1 := by
  intro i j i0 ij jn
  rw [e3] at jn
  have a := encN_eq (c := fun k => g1 141 (46 + 25 * i + (17 + k))) (d := fun k => g 141 (46 + 25 * i + (17 + k))) 8 (fun k a b => e i k i0 (by omega) a (by omega))
  have b := encN_eq (c := fun k => g1 141 (46 + 25 * j + (17 + k))) (d := fun k => g 141 (46 + 25 * j + (17 + k))) 8 (fun k a b => e j k (by omega) jn a (by omega))
  rw [a, b]
  exact hU i j i0 ij jn
theorem cx_load {S : Int → Int} {L : Int} {r N : Int → Int} {h : AH} {K : AO → Nat → AH → Prop} (hT : TxS S L) (hx : cTx S L h) (hr : ∀ x, 0 ≤ x → x < 1256 → x ≠ 6 → r x = 0) (h6 : r 6 = 5) (n1 : 0 ≤ h 32 1 ∧ h 32 1 ≤ 7) (n2 : 0 ≤ h 32 2 ∧ h 32 2 ≤ 8)
  (kE : ¬ (LDe S r N).2.1 = 0 → ∀ h', GF h h' → CFl (LDe S r N) h' → K (.inl (some (0, (LDe S r N).2.1))) 159 (up h' 2 1 0))
  (kS : (LDe S r N).2.1 = 0 → ∀ h0 h1 h', GF h h0 → h0 2 3 = -1 → cKept (up h0 2 1 0) h1 → shFr h1 5 h' → SR h' 5 (fun _ => (LD S r N).1) → UN (fun _ => (LD S r N).1) → K (.inl (some (0, (LD S r N).1 3))) 159 h') : AC mX8_load 11 0 0 159 [(2, 0)] h K := by
  refine ac_of (ls := [(2, 0), (9, 0)]) pn_X8 rfl (Nat.le_of_ble_eq_true rfl) rfl ?_
  refine a_al0 (by decide) dX8_load_0 ?_
  refine aw_getR (r := 1) 0 rfl dX8_load_1 fl_X8_10 at_0 rfl rfl ?_
  refine a_al0 (by decide) dX8_load_4 ?_
  refine aw_getR (r := 15) 3 rfl dX8_load_5 fl_X8_28 at_0 rfl rfl ?_
  refine aw_callV 10 0 0 dX8_load_8 yw_X0_readSheet ml_X8_97 in_X0_readSheet se_X0_readSheet (ci := 0) rfl at_1 (as := [_]) rfl rfl ⟨by decide, by decide, by decide, Nat.le_of_ble_eq_true rfl⟩ ?_
  refine ac_readSheet (N := N) hT hx hr h6 (fun q h0 g0 hL e3 => ?_) (fun q h0 g0 fl => ?_)
  · have m1 : up h0 2 1 0 32 1 = h 32 1 := by rw [up_ne (by omega), g0 32 1 (by omega) (by decide) (by omega)]
    have m2 : up h0 2 1 0 32 2 = h 32 2 := by rw [up_ne (by omega), g0 32 2 (by omega) (by decide) (by omega)]
    refine am_ci ?_
    refine a_is1 rfl rfl dX8_load_11 ?_
    refine a_al0 (by decide) dX8_load_12 ?_
    refine aw_getR (r := 2) 1 rfl dX8_load_13 fl_X8_20 at_0 rfl rfl ?_
    refine aw_iconst dX8_load_16 (by decide) ?_
    refine aw_put 1 dX8_load_17 fp_X8_82 at_2 rfl ?_
    refine a_il1 dX8_load_20 ?_
    refine aw_if_ne 32 dX8_load_21 (by decide) (fun c21 => ?_) (fun c21 => ?_)
    · refine a_al0 (by decide) dX8_load_32 ?_
      refine aw_getR (r := 32) 5 rfl dX8_load_33 fl_X8_41 at_0 rfl rfl ?_
      try simp (disch := omega) only [up_at, up_ne]
      refine a_al0 (by decide) dX8_load_36 ?_
      refine aw_getR (r := 5) 2 rfl dX8_load_37 fl_X8_24 at_0 rfl rfl ?_
      try simp (disch := omega) only [up_at, up_ne]
      refine aw_callV 4 0 0 dX8_load_40 yw_X1_keep ml_X8_104 in_X1_keep se_X1_keep (ci := 1) rfl at_32 (as := [_]) rfl rfl ⟨by decide, by decide, by decide, Nat.le_of_ble_eq_true rfl⟩ ?_
      refine ac_keep (h := up h0 2 1 0) (by rw [m1]; exact n1) (by rw [m2]; exact n2) (fun h1 k1 => ?_)
      have S0 := SR_load hL
      have S1 : SR h1 15 (fun _ => (LD S r N).1) := SR_eqh (shEq_sm (fun k x a b => by
        rw [k1.1 k x (by rw [m1]; omega) (by omega), up_ne (by omega)])) S0
      refine am_cv ?_
      refine a_al0 (by decide) dX8_load_43 ?_
      refine aw_getR (r := 5) 2 rfl dX8_load_44 fl_X8_24 at_0 rfl rfl ?_
      try simp (disch := omega) only [up_at, up_ne]
      refine a_al0 (by decide) dX8_load_47 ?_
      refine aw_getR (r := 15) 3 rfl dX8_load_48 fl_X8_28 at_0 rfl rfl ?_
      try simp (disch := omega) only [up_at, up_ne]
      refine aw_callV 2 0 0 dX8_load_51 yw_X3_copyFrom ml_X8_108 in_X3_copyFrom se_X3_copyFrom (ci := 2) rfl at_5 (as := [_]) rfl rfl ⟨by decide, by decide, by decide, Nat.le_of_ble_eq_true rfl⟩ ?_
      refine ac_copyFrom sh_5 sh_15 (by decide) (fun h2 f2 e2 => ?_)
      have S2 := SR_eqh e2 S1
      have k9 := kS q h0 h1 h2 g0 e3 k1 f2 S2 (UN_load hL)
      have e53 : h2 5 3 = (LD S r N).1 3 := S2.1.1.2.2.2.1
      rw [← e53] at k9
      refine am_cv ?_
      refine a_al0 (by decide) dX8_load_54 ?_
      refine aw_getR (r := 5) 2 rfl dX8_load_55 fl_X8_24 at_0 rfl rfl ?_
      try simp (disch := omega) only [up_at, up_ne]
      refine aw_get 3 dX8_load_58 fl_X8_111 at_5 rfl ?_
      try simp (disch := omega) only [up_at, up_ne]
      refine aw_iret dX8_load_61 rfl ?_
      exact k9
    · exfalso
      omega
  · have k9 := kE q h0 g0 fl
    rw [← fl.1] at k9
    refine am_ci ?_
    refine a_is1 rfl rfl dX8_load_11 ?_
    refine a_al0 (by decide) dX8_load_12 ?_
    refine aw_getR (r := 2) 1 rfl dX8_load_13 fl_X8_20 at_0 rfl rfl ?_
    refine aw_iconst dX8_load_16 (by decide) ?_
    refine aw_put 1 dX8_load_17 fp_X8_82 at_2 rfl ?_
    refine a_il1 dX8_load_20 ?_
    refine aw_if_ne 32 dX8_load_21 (by decide) (fun c21 => ?_) (fun c21 => ?_)
    · exfalso
      omega
    · refine a_al0 (by decide) dX8_load_24 ?_
      refine aw_getR (r := 2) 1 rfl dX8_load_25 fl_X8_20 at_0 rfl rfl ?_
      try simp (disch := omega) only [up_at, up_ne]
      refine aw_get 2 dX8_load_28 fl_X8_101 at_2 rfl ?_
      try simp (disch := omega) only [up_at, up_ne]
      refine aw_iret dX8_load_31 rfl ?_
      exact k9
