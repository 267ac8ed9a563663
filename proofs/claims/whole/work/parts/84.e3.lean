/-! changes of the class but a turn: seals, undo, slots -/
/-- a row's numbers but those of seals -/
def nSl (x : Int) : Prop := x < 34 ∨ 46 ≤ x ∨ (x - 34) % 3 = 0
theorem SR_sl {h g h' g' : AH} {f s : Int} (hf : 0 ≤ f ∧ f < g 141 2) (hs : 0 ≤ s) (hS : SR h 5 g) (C : ∀ k x, ¬ (k = 12 ∧ x = f) → h' k x = h k x) (C1 : h' 12 f = s) (M : ∀ x, ¬ (x = 34 + 3 * f + 1 ∨ x = 34 + 3 * f + 2) → g' 141 x = g 141 x) (M1 : g' 141 (34 + 3 * f + 1) = 1) (M2 : g' 141 (34 + 3 * f + 2) = s) : SR h' 5 g' := by
  obtain ⟨⟨⟨d0, d1, d2, d3, d4, d5, d6⟩, hP, hp⟩, hO, ⟨⟨x1, x2⟩, x3, x4, x5, x6, x7⟩, hT, r4, r8, r7, rs, rf, rl⟩ := hS
  obtain ⟨⟨t1, t2, t3, t3b⟩, t4, t5, t6, t7, t8, t9, t10, t11⟩ := hT
  have b8 : 0 ≤ g 141 8 ∧ g 141 8 ≤ 10 := by rw [r8]; split <;> omega
  have e0 : g' 141 0 = g 141 0 := M _ (by omega)
  have e1 : g' 141 1 = g 141 1 := M _ (by omega)
  have e2 : g' 141 2 = g 141 2 := M _ (by omega)
  have e3 : g' 141 3 = g 141 3 := M _ (by omega)
  have e4 : g' 141 4 = g 141 4 := M _ (by omega)
  have e5 : g' 141 5 = g 141 5 := M _ (by omega)
  have e6 : g' 141 6 = g 141 6 := M _ (by omega)
  have e7 : g' 141 7 = g 141 7 := M _ (by omega)
  have e8 : g' 141 8 = g 141 8 := M _ (by omega)
  have e9 : g' 141 9 = g 141 9 := M _ (by omega)
  have eL : ∀ t, logA g' t = logA g t := fun t => by unfold logA; rw [e4, e8]
  have eI : ∀ t, isLg g' t → isLg g t := fun t q => by unfold isLg at q ⊢; rw [e4, e8] at q; exact q
  have aL : ∀ t, isLg g t → 496 ≤ logA g t ∧ logA g t ≤ 1180 := fun t q => by unfold isLg at q; unfold logA; omega
  have S : ∀ i w, 0 ≤ i → 0 ≤ w → g' 141 (46 + 25 * i + w) = g 141 (46 + 25 * i + w) := fun i w a c => M _ (by omega)
  refine ⟨⟨⟨?_, ?_, ?_, ?_, ?_, ?_, ?_⟩, fun i i0 i1 => ?_, fun q q0 q1 => ?_⟩, fun i i0 i1 => ?_, ⟨⟨?_, ?_⟩, fun i i0 i1 => ?_, fun q w a c d f => ?_, fun k w a c d f => ?_, fun q q0 q1 => ?_, fun t ht => ?_⟩, ?_, ?_, ?_, ?_, fun i i0 i1 => ?_, fun q q0 q1 => ?_, fun t ht => ?_⟩
  · rw [C _ _ (by omega), e0, d0]
  · rw [C _ _ (by omega), e1, d1]
  · rw [C _ _ (by omega), e2, d2]
  · rw [C _ _ (by omega), e3, d3]
  · rw [C _ _ (by omega), e4, d4]
  · rw [C _ _ (by omega), e5, d5]
  · rw [C _ _ (by omega), e6, d6]
  · rw [e3] at i1
    obtain ⟨s1, s2, s3, s4⟩ := hP i i0 i1
    refine ⟨fun w w0 w1 => ?_, ?_, fun q => ?_, fun p p0 p1 => ?_⟩
    · rw [C _ _ (by omega), S i w i0 w0]
      exact s1 w w0 w1
    · rw [C _ _ (by omega), S i 10 i0 (by decide)]
      exact s2
    · rw [C _ _ (by omega), S i 10 i0 (by decide)]
      exact s3 q
    · rw [C _ _ (by omega), S i _ i0 (by omega)]
      exact s4 p p0 p1
  · rw [e2] at q1
    rw [C _ _ (by omega), M _ (by omega)]
    exact hp q q0 q1
  · rw [e3] at i1
    rw [S i 0 i0 (by decide), S i 10 i0 (by decide), S i 1 i0 (by decide), S i 2 i0 (by decide), e0, e1, e2]
    exact hO i i0 i1
  · rw [C _ _ (by omega), e9]; exact x1
  · rw [C _ _ (by omega), e7]; exact x2
  · rw [e3] at i1
    rw [C _ _ (by omega), x3 i i0 i1]
    exact encN_eq 8 (fun k a c => (S i _ i0 (by omega)).symm)
  · rw [e9] at c
    rw [C _ _ (by omega), M _ (by omega)]
    exact x4 q w a c d f
  · rw [e7] at c
    rw [C _ _ (by omega), M _ (by omega)]
    exact x5 k w a c d f
  · rw [e2] at q1
    by_cases z : q = f
    · unfold mSN
      rw [z, M1, M2, if_pos rfl]
      exact C1
    · rw [C _ _ (by omega), x6 q q0 q1]
      unfold mSN
      rw [M _ (by omega), M _ (by omega)]
  · have ht := eI t ht
    have ha := aL t ht
    obtain ⟨q1, q2⟩ := x7 t ht
    rw [eL]
    refine ⟨fun i i0 i1 => ?_, fun f f0 f1 => ?_⟩
    · rw [e3] at i1
      obtain ⟨q3, q4⟩ := q1 i i0 i1
      refine ⟨fun p p0 p1 => ?_, ?_⟩
      · rw [C _ _ (by omega), M _ (by omega)]
        exact q3 p p0 p1
      · rw [C _ _ (by omega), M _ (by omega)]
        exact q4
    · rw [e2] at f1
      rw [C _ _ (by omega), M _ (by omega)]
      exact q2 f f0 f1
  · unfold tOk bdOk shOk
    rw [e0, e1, e2, e3, e4, e5, e6, e8, e9]
    refine ⟨⟨t1, t2, t3, t3b⟩, fun j j0 j1 => ⟨?_, fun p p0 p1 => ?_⟩, t5, fun x x0 x1 => ?_, t7, fun q q0 q1 => ?_, t9, fun s s0 s1 => ?_, t11⟩
    · rw [S j 1 j0 (by decide), S j 2 j0 (by decide), S j 3 j0 (by decide), S j 6 j0 (by decide), S j 7 j0 (by decide), S j 8 j0 (by decide), S j 9 j0 (by decide)]
      exact (t4 j j0 j1).1
    · rw [S j _ j0 (by omega)]
      exact (t4 j j0 j1).2 p p0 p1
    · rw [S x 4 x0 (by decide), S x 5 x0 (by decide)]
      exact t6 x x0 x1
    · rw [M _ (by omega)]
      exact t8 q q0 q1
    · rw [M _ (by omega), M _ (by omega)]
      exact t10 s s0 s1
  · rw [e4]; exact r4
  · rw [e8, e4]; exact r8
  · rw [e7]; exact r7
  · rw [e3] at i1
    obtain ⟨a, c⟩ := rs i i0 i1
    rw [S i 10 i0 (by decide), S i 4 i0 (by decide)]
    exact ⟨nmOk_eq (fun k k0 k1 => (S i _ i0 (by omega)).symm) a, c⟩
  · rw [e2] at q1
    obtain ⟨a, c, d, e⟩ := rf q q0 q1
    rw [e4, M (34 + 3 * q) (by omega)]
    by_cases z : q = f
    · rw [z, M1, M2]
      rw [z] at d e
      exact ⟨Or.inr rfl, fun _ => hs, d, e⟩
    · rw [M (34 + 3 * q + 1) (by omega), M (34 + 3 * q + 2) (by omega)]
      exact ⟨a, c, d, e⟩
  · have ht := eI t ht
    have ha := aL t ht
    obtain ⟨q1, q2⟩ := rl t ht
    rw [eL]
    refine ⟨fun i p i0 i1 p0 p1 => ?_, fun f f0 f1 => ?_⟩
    · rw [e3] at i1
      rw [M _ (by omega), M _ (by omega)]
      exact q1 i p i0 i1 p0 p1
    · rw [e2] at f1
      rw [M _ (by omega)]
      exact q2 f f0 f1
theorem cx_seal {f y : Int} {h : AH} {K : AO → Nat → AH → Prop} (hS : SR h 5 h) (hH : HI h) (k1 : ¬ (0 ≤ f ∧ f < h 141 2) → K (.inr xI) 159 h) (k2 : 0 ≤ f ∧ f < h 141 2 → ¬ (0 ≤ y ∧ y ≤ 999999) → K (.inr xA) 159 h) (k3 : 0 ≤ f ∧ f < h 141 2 → 0 ≤ y ∧ y ≤ 999999 → h 141 (34 + 3 * f + 1) = 1 → K (.inr xS) 159 h) (k0 : 0 ≤ f ∧ f < h 141 2 → 0 ≤ y ∧ y ≤ 999999 → ¬ h 141 (34 + 3 * f + 1) = 1 → ∀ h1, cKept h h1 → K (.inl (some (0, slN h f (h 141 3).toNat y))) 159 (up h1 12 f (slN h f (h 141 3).toNat y))) : AC mX8_seal 7 2 12 159 [(2, 0), (0, f), (0, y)] h K := by
  obtain ⟨-, -, d2, d3, d4, -⟩ := hS.1.1
  have n2 := hS.2.2.2.1.2.2.2.2.1
  have n3 := hS.2.2.2.1.2.2.1
  have r4 := hS.2.2.2.2.1
  have x6 := hS.2.2.1.2.2.2.2.1
  have rf := hS.2.2.2.2.2.2.2.2.1
  have se : 0 ≤ f → f < h 141 2 → (h 12 f = -1 ↔ ¬ h 141 (34 + 3 * f + 1) = 1) := fun a c => by
    obtain ⟨e1, e2, -⟩ := rf f a c
    rw [show h 12 f = mSN h f from x6 f a c]
    unfold mSN
    by_cases z : h 141 (34 + 3 * f + 1) = 1
    · have := e2 z
      rw [if_pos z]
      exact ⟨fun q => by omega, fun q => absurd z q⟩
    · rw [if_neg z]
      exact ⟨fun _ => z, fun _ => rfl⟩
  refine ac_of (ls := [(2, 0), (0, f), (0, y)]) pn_X8 rfl (Nat.le_of_ble_eq_true rfl) rfl ?_
  refine a_al0 (by decide) dX8_seal_0 ?_
  refine a_il1 dX8_seal_1 ?_
  refine aw_callV 6 1 6 dX8_seal_2 yw_X8_needFleet ml_X8_156 in_X8_needFleet se_X8_needFleet (ci := 7) rfl at_0 (as := [_]) rfl rfl ⟨by decide, by decide, by decide, Nat.le_of_ble_eq_true rfl⟩ ?_
  refine ac_needFleet (fun q => ?_) (fun q => ?_)
  · rw [d2] at q
    refine am_cv ?_
    refine a_il2 dX8_seal_5 ?_
    refine aw_callS 1 0 0 dX8_seal_6 yw_X8_isKey ml_X8_238 sm_X8_isKey (as := [_]) rfl rfl ⟨by decide, by decide, by decide, Nat.le_of_ble_eq_true rfl⟩ ?_
    refine ac_isKey (fun q2 => ?_) (fun q2 => ?_)
    · refine am_ci ?_
      refine aw_if_ne_y 23 dX8_seal_9 (by decide) (by decide) ?_
      refine a_al0 (by decide) dX8_seal_23 ?_
      refine aw_getR (r := 5) 2 rfl dX8_seal_24 fl_X8_24 at_0 rfl rfl ?_
      try simp (disch := omega) only [up_at, up_ne]
      refine a_il1 dX8_seal_27 ?_
      refine aw_callV 1 0 0 dX8_seal_28 yw_X3_hasSealed ml_X8_169 in_X3_hasSealed se_X3_hasSealed (ci := 2) rfl at_5 (as := [_]) rfl rfl ⟨by decide, by decide, by decide, Nat.le_of_ble_eq_true rfl⟩ ?_
      refine ac_hasSealed (Or.inl rfl) (by omega) (fun q3 => ?_) (fun q3 => ?_)
      · refine am_ci ?_
        refine aw_if_eq_n 45 dX8_seal_31 (by decide) (by decide) ?_
        refine aw_throwW (i := 25) rfl rfl dX8_seal_34 dX8_seal_37 dX8_seal_38 dX8_seal_41 dX8_seal_44 tw_IllegalStateException rfl ⟨rfl, rfl⟩ ⟨by decide, by decide, by decide, rfl⟩ ?_
        have q4 : ¬ h 12 f = -1 := q3
        exact k3 q q2 (by have := se q.1 q.2; omega)
      · have ns : ¬ h 141 (34 + 3 * f + 1) = 1 := (se q.1 q.2).mp q3
        refine am_ci ?_
        refine aw_if_eq_y 45 dX8_seal_31 (by decide) (by decide) ?_
        refine a_al0 (by decide) dX8_seal_45 ?_
        refine aw_getR (r := 32) 5 rfl dX8_seal_46 fl_X8_41 at_0 rfl rfl ?_
        try simp (disch := omega) only [up_at, up_ne]
        refine a_al0 (by decide) dX8_seal_49 ?_
        refine aw_getR (r := 5) 2 rfl dX8_seal_50 fl_X8_24 at_0 rfl rfl ?_
        try simp (disch := omega) only [up_at, up_ne]
        refine aw_callV 4 0 0 dX8_seal_53 yw_X1_keep ml_X8_104 in_X1_keep se_X1_keep (ci := 1) rfl at_32 (as := [_]) rfl rfl ⟨by decide, by decide, by decide, Nat.le_of_ble_eq_true rfl⟩ ?_
        refine ac_keep hH.1 hH.2.1 (fun h1 qk => ?_)
        have fr : ∀ k x, 5 ≤ k → k < 15 → h1 k x = h k x := fun k x a c => qk.1 k x (by have := hH.1; omega) (by omega)
        have S1 := SR_up hS fr
        have by1 := SR_byN (f := f) (y := y) S1 (h 141 3).toNat (by omega)
        have d31 : h1 5 3 = h 141 3 := by rw [fr _ _ (by decide) (by decide), d3]
        have d41 : h1 5 4 = h 141 4 := by rw [fr _ _ (by decide) (by decide), d4]
        have k9 := k0 q q2 ns h1 qk
        refine am_cv ?_
        refine a_al0 (by decide) dX8_seal_56 ?_
        refine aw_getR (r := 5) 2 rfl dX8_seal_57 fl_X8_24 at_0 rfl rfl ?_
        try simp (disch := omega) only [up_at, up_ne]
        refine aw_getR (r := 12) 15 rfl dX8_seal_60 fl_X8_294 at_5 rfl rfl ?_
        try simp (disch := omega) only [up_at, up_ne]
        refine a_il1 dX8_seal_63 ?_
        refine a_al0 (by decide) dX8_seal_64 ?_
        refine aw_getR (r := 5) 2 rfl dX8_seal_65 fl_X8_24 at_0 rfl rfl ?_
        try simp (disch := omega) only [up_at, up_ne]
        refine a_al0 (by decide) dX8_seal_68 ?_
        refine aw_getR (r := 5) 2 rfl dX8_seal_69 fl_X8_24 at_0 rfl rfl ?_
        try simp (disch := omega) only [up_at, up_ne]
        refine aw_get 4 dX8_seal_72 fl_X8_117 at_5 rfl ?_
        try simp (disch := omega) only [up_at, up_ne]
        refine a_il1 dX8_seal_75 ?_
        refine a_il2 dX8_seal_76 ?_
        refine aw_callV 4 0 0 dX8_seal_77 yw_X3_sealBy ml_X8_241 in_X3_sealBy se_X3_sealBy (ci := 2) rfl at_5 (as := [_, _, _]) rfl rfl ⟨by decide, by decide, by decide, Nat.le_of_ble_eq_true rfl⟩ ?_
        refine ac_sealBy (Or.inl rfl) (by rw [d31]; exact n3) (by rw [d41]; omega) q2 ?_
        rw [d31, d41, by1]
        refine am_ci ?_
        try simp (disch := omega) only [up_at, up_ne]
        refine aw_iast dX8_seal_80 ar_12 (by omega) ?_
        refine a_al0 (by decide) dX8_seal_81 ?_
        refine aw_getR (r := 5) 2 rfl dX8_seal_82 fl_X8_24 at_0 rfl rfl ?_
        try simp (disch := omega) only [up_at, up_ne]
        refine aw_getR (r := 12) 15 rfl dX8_seal_85 fl_X8_294 at_5 rfl rfl ?_
        try simp (disch := omega) only [up_at, up_ne]
        refine a_il1 dX8_seal_88 ?_
        refine aw_iald dX8_seal_89 ar_12 (by omega) ?_
        try simp (disch := omega) only [up_at, up_ne]
        refine aw_iret dX8_seal_90 rfl ?_
        exact k9
    · refine am_ci ?_
      refine aw_if_ne_n 23 dX8_seal_9 (by decide) (by decide) ?_
      refine aw_throwW (i := 26) rfl rfl dX8_seal_12 dX8_seal_15 dX8_seal_16 dX8_seal_19 dX8_seal_22 tw_IllegalArgumentException rfl ⟨rfl, rfl⟩ ⟨by decide, by decide, by decide, rfl⟩ ?_
      exact k2 q q2
  · rw [d2] at q
    exact am_cx rfl (k1 q)
theorem cx_undo {h : AH} {K : AO → Nat → AH → Prop} (hH : HI h) (k1 : h 140 6 = 0 → K (.inr xS) 159 h) (k0 : 0 < h 140 6 → ∀ h', cBack h h' → K (.inl (some (0, h 140 6 - 1))) 159 h') : AC mX8_undo 6 1 6 159 [(2, 0)] h K := by
  obtain ⟨n1, n2, n6, -⟩ := hH
  refine ac_of (ls := [(2, 0)]) pn_X8 rfl (Nat.le_of_ble_eq_true rfl) rfl ?_
  refine a_al0 (by decide) dX8_undo_0 ?_
  refine aw_getR (r := 32) 5 rfl dX8_undo_1 fl_X8_41 at_0 rfl rfl ?_
  refine aw_get 2 dX8_undo_4 fl_X8_316 at_32 rfl ?_
  refine aw_if_ne 21 dX8_undo_7 (by decide) (fun c7 => ?_) (fun c7 => ?_)
  · refine a_al0 (by decide) dX8_undo_21 ?_
    refine aw_getR (r := 32) 5 rfl dX8_undo_22 fl_X8_41 at_0 rfl rfl ?_
    refine a_al0 (by decide) dX8_undo_25 ?_
    refine aw_getR (r := 5) 2 rfl dX8_undo_26 fl_X8_24 at_0 rfl rfl ?_
    refine aw_callV 4 0 0 dX8_undo_29 yw_X1_bringBack ml_X8_321 in_X1_bringBack se_X1_bringBack (ci := 1) rfl at_32 (as := [_]) rfl rfl ⟨by decide, by decide, by decide, Nat.le_of_ble_eq_true rfl⟩ ?_
    refine ac_bringBack n1 (by omega) (fun h' q => ?_)
    have k9 := k0 (by omega) h' q
    rw [n6, ← q.2.2.2] at k9
    refine am_cv ?_
    refine a_al0 (by decide) dX8_undo_32 ?_
    refine aw_getR (r := 32) 5 rfl dX8_undo_33 fl_X8_41 at_0 rfl rfl ?_
    try simp (disch := omega) only [up_at, up_ne]
    refine aw_get 2 dX8_undo_36 fl_X8_316 at_32 rfl ?_
    try simp (disch := omega) only [up_at, up_ne]
    refine aw_iret dX8_undo_39 rfl ?_
    exact k9
  · refine aw_throwW (i := 31) rfl rfl dX8_undo_10 dX8_undo_13 dX8_undo_14 dX8_undo_17 dX8_undo_20 tw_IllegalStateException rfl ⟨rfl, rfl⟩ ⟨by decide, by decide, by decide, rfl⟩ ?_
    exact k1 (by omega)
theorem cx_save {s : Int} {h : AH} {K : AO → Nat → AH → Prop} (k1 : ¬ (0 ≤ s ∧ s ≤ 1) → K (.inr xI) 159 h) (k0 : 0 ≤ s ∧ s ≤ 1 → ∀ h1, shFr h (117 + 10 * s) h1 → shEq h 5 h1 (117 + 10 * s) → K (.inl none) 159 (up h1 137 s 1)) : AC mX8_save 7 1 6 159 [(2, 0), (0, s)] h K := by
  refine ac_of (ls := [(2, 0), (0, s)]) pn_X8 rfl (Nat.le_of_ble_eq_true rfl) rfl ?_
  refine a_il1 dX8_save_0 ?_
  refine aw_callS 6 1 6 dX8_save_1 yw_X8_needSlot ml_X8_324 sm_X8_needSlot (as := [_]) rfl rfl ⟨by decide, by decide, by decide, Nat.le_of_ble_eq_true rfl⟩ ?_
  refine ac_needSlot (fun q => ?_) (fun q => ?_)
  · refine am_cv ?_
    refine a_al0 (by decide) dX8_save_4 ?_
    refine aw_getR (r := 115) 6 rfl dX8_save_5 fl_X8_50 at_0 rfl rfl ?_
    try simp (disch := omega) only [up_at, up_ne]
    refine a_il1 dX8_save_8 ?_
    refine a_al0 (by decide) dX8_save_9 ?_
    refine aw_getR (r := 5) 2 rfl dX8_save_10 fl_X8_24 at_0 rfl rfl ?_
    try simp (disch := omega) only [up_at, up_ne]
    refine aw_callV 3 0 0 dX8_save_13 yw_X4_put ml_X8_327 in_X4_put se_X4_put (ci := 3) rfl at_115 (as := [_, _]) rfl rfl ⟨by decide, by decide, by decide, Nat.le_of_ble_eq_true rfl⟩ ?_
    refine ac_putS q (Or.inl rfl) (fun h1 fr eq => ?_)
    have k9 := k0 q h1 fr eq
    refine am_cv ?_
    refine a_al0 (by decide) dX8_save_16 ?_
    refine aw_getR (r := 137) 7 rfl dX8_save_17 fl_X8_54 at_0 rfl rfl ?_
    try simp (disch := omega) only [up_at, up_ne]
    refine a_il1 dX8_save_20 ?_
    refine aw_iconst dX8_save_21 (by decide) ?_
    refine aw_zast dX8_save_22 ar_137 (by omega) (by omega) ?_
    refine aw_vret dX8_save_23 rfl ?_
    exact k9
  · exact am_cx rfl (k1 q)
theorem cx_restore {s : Int} {h : AH} {K : AO → Nat → AH → Prop} (hH : HI h) (hV : SV h) (k1 : ¬ (0 ≤ s ∧ s ≤ 1) → K (.inr xI) 159 h) (k2 : 0 ≤ s ∧ s ≤ 1 → h 146 s = 0 → K (.inr xS) 159 h) (k0 : 0 ≤ s ∧ s ≤ 1 → ¬ h 146 s = 0 → ∀ h1 h', cKept h h1 → shFr h1 5 h' → shEq h1 (117 + 10 * s) h' 5 → K (.inl (some (0, h' 5 4))) 159 h') : AC mX8_restore 7 2 12 159 [(2, 0), (0, s)] h K := by
  refine ac_of (ls := [(2, 0), (0, s)]) pn_X8 rfl (Nat.le_of_ble_eq_true rfl) rfl ?_
  refine a_il1 dX8_restore_0 ?_
  refine aw_callS 6 1 6 dX8_restore_1 yw_X8_needSlot ml_X8_324 sm_X8_needSlot (as := [_]) rfl rfl ⟨by decide, by decide, by decide, Nat.le_of_ble_eq_true rfl⟩ ?_
  refine ac_needSlot (fun q => ?_) (fun q => ?_)
  · have e := (hV s q.1 q.2).1
    refine am_cv ?_
    refine a_al0 (by decide) dX8_restore_4 ?_
    refine aw_getR (r := 137) 7 rfl dX8_restore_5 fl_X8_54 at_0 rfl rfl ?_
    try simp (disch := omega) only [up_at, up_ne]
    refine a_il1 dX8_restore_8 ?_
    refine aw_zald dX8_restore_9 ar_137 (by omega) ?_
    try simp (disch := omega) only [up_at, up_ne]
    refine aw_if_ne 24 dX8_restore_10 (by decide) (fun c10 => ?_) (fun c10 => ?_)
    · refine a_al0 (by decide) dX8_restore_24 ?_
      refine aw_getR (r := 32) 5 rfl dX8_restore_25 fl_X8_41 at_0 rfl rfl ?_
      try simp (disch := omega) only [up_at, up_ne]
      refine a_al0 (by decide) dX8_restore_28 ?_
      refine aw_getR (r := 5) 2 rfl dX8_restore_29 fl_X8_24 at_0 rfl rfl ?_
      try simp (disch := omega) only [up_at, up_ne]
      refine aw_callV 4 0 0 dX8_restore_32 yw_X1_keep ml_X8_104 in_X1_keep se_X1_keep (ci := 1) rfl at_32 (as := [_]) rfl rfl ⟨by decide, by decide, by decide, Nat.le_of_ble_eq_true rfl⟩ ?_
      refine ac_keep hH.1 hH.2.1 (fun h1 qk => ?_)
      refine am_cv ?_
      refine a_al0 (by decide) dX8_restore_35 ?_
      refine aw_getR (r := 115) 6 rfl dX8_restore_36 fl_X8_50 at_0 rfl rfl ?_
      try simp (disch := omega) only [up_at, up_ne]
      refine a_il1 dX8_restore_39 ?_
      refine a_al0 (by decide) dX8_restore_40 ?_
      refine aw_getR (r := 5) 2 rfl dX8_restore_41 fl_X8_24 at_0 rfl rfl ?_
      try simp (disch := omega) only [up_at, up_ne]
      refine aw_callV 3 0 0 dX8_restore_44 yw_X4_take ml_X8_333 in_X4_take se_X4_take (ci := 3) rfl at_115 (as := [_, _]) rfl rfl ⟨by decide, by decide, by decide, Nat.le_of_ble_eq_true rfl⟩ ?_
      refine ac_takeS q (Or.inl rfl) (fun h' fr eq => ?_)
      have k9 := k0 q (fun z => by have := e.mpr z; omega) h1 h' qk fr eq
      refine am_cv ?_
      refine a_al0 (by decide) dX8_restore_47 ?_
      refine aw_getR (r := 5) 2 rfl dX8_restore_48 fl_X8_24 at_0 rfl rfl ?_
      try simp (disch := omega) only [up_at, up_ne]
      refine aw_get 4 dX8_restore_51 fl_X8_117 at_5 rfl ?_
      try simp (disch := omega) only [up_at, up_ne]
      refine aw_iret dX8_restore_54 rfl ?_
      exact k9
    · refine aw_throwW (i := 33) rfl rfl dX8_restore_13 dX8_restore_16 dX8_restore_17 dX8_restore_20 dX8_restore_23 tw_IllegalStateException rfl ⟨rfl, rfl⟩ ⟨by decide, by decide, by decide, rfl⟩ ?_
      exact k2 q (e.mp (by omega))
  · exact am_cx rfl (k1 q)
