/-! the class: pace, spares, the best wind -/
theorem cx_pace {f : Int} {h : AH} {K : AO → Nat → AH → Prop} (hS : SR h 5 h) (k1 : ¬ (0 ≤ f ∧ f < h 141 2) → K (.inr xI) 159 h) (k0 : 0 ≤ f ∧ f < h 141 2 → ∀ h' c m, DrF h h' → (0 ≤ c ∧ c ≤ 72) → (0 ≤ m ∧ m ≤ 12) → (∀ g', Runs (h 141) 1 g' → c = sumN (ifN (fSail h f) (g' 153)) (h 141 3).toNat ∧ m = sumN (ifN (fSail h f) (fun _ => 1)) (h 141 3).toNat) → K (.inl (some (3, paceV c m))) 159 h') : AC mX8_pace 7 1 6 159 [(2, 0), (0, f)] h K := by
  have d2 := hS.1.1.2.2.1
  have d3 := hS.1.1.2.2.2.1
  have n3 := hS.2.2.2.1.2.2.1
  refine ac_of (ls := [(2, 0), (0, f), (9, 0), (9, 0), (9, 0)]) pn_X8 rfl (Nat.le_of_ble_eq_true rfl) rfl ?_
  refine a_al0 (by decide) dX8_pace_0 ?_
  refine a_il1 dX8_pace_1 ?_
  refine aw_callV 6 1 6 dX8_pace_2 yw_X8_needFleet ml_X8_156 in_X8_needFleet se_X8_needFleet (ci := 7) rfl at_0 (as := [_]) rfl rfl ⟨by decide, by decide, by decide, Nat.le_of_ble_eq_true rfl⟩ ?_
  refine ac_needFleet (fun q => ?_) (fun q => ?_)
  · rw [d2] at q
    refine am_cv ?_
    refine a_al0 (by decide) dX8_pace_5 ?_
    refine aw_callV 6 0 0 dX8_pace_6 yw_X8_runDraft ml_X8_248 in_X8_runDraft se_X8_runDraft (ci := 7) rfl at_0 (as := []) rfl rfl ⟨by decide, by decide, by decide, Nat.le_of_ble_eq_true rfl⟩ ?_
    refine ac_runDraft hS (fun h' hf hd hr6 => ?_)
    have k := k0 q h'
    have hdf : DrF h h' := hf
    have e5 : ∀ i w, h' (5 + 2) (i * 11 + w) = h (5 + 2) (i * 11 + w) := fun i w => hf _ _ (by omega)
    have e53 : h' 5 3 = h 141 3 := by rw [hf 5 3 (by omega), d3]
    have efl : ∀ i, 0 ≤ i → i < h 141 3 → (cFl h' 5 f i ↔ fSail h f i) := fun i a b => by
      have := SR_fl (f := f) hS ⟨a, b⟩
      unfold cFl at this ⊢
      rw [e5, e5]
      exact this
    refine am_cv ?_
    refine aw_iconst dX8_pace_9 (by decide) ?_
    refine a_is2 rfl rfl dX8_pace_10 ?_
    refine aw_iconst dX8_pace_11 (by decide) ?_
    refine a_is3 rfl rfl dX8_pace_12 ?_
    refine aw_iconst dX8_pace_13 (by decide) ?_
    refine a_is4 rfl rfl dX8_pace_14 ?_
    refine aw_loop (fun q : Int × Int × Int => 0 ≤ q.1 ∧ q.1 ≤ h 141 3 ∧ q.2.1 = sumN (ifN (fSail h f) (h' 30)) q.1.toNat ∧ q.2.2 = sumN (ifN (fSail h f) (fun _ => 1)) q.1.toNat ∧ (0 ≤ q.2.1 ∧ q.2.1 ≤ 6 * q.1) ∧ (0 ≤ q.2.2 ∧ q.2.2 ≤ q.1)) (fun q => (h 141 3 - q.1).toNat) (fun q => AW mX8_pace 7 0 0 K 159 16 [(2, 0), (0, f), (0, q.2.1), (0, q.2.2), (0, q.1)] [] h') (fun q hq ih => ?_) (0, 0, 0) ⟨by dsimp only; omega, n3.1, rfl, rfl, by decide, by decide⟩
    obtain ⟨i, c, m⟩ := q
    obtain ⟨i0, i1, ec, em, rc, rm⟩ := hq
    dsimp only at i0 i1 ec em rc rm ih ⊢
    have es := sumN_s (ifN (fSail h f) (h' 30)) i0
    have et := sumN_s (ifN (fSail h f) (fun _ => 1)) i0
    refine a_il4 dX8_pace_16 ?_
    refine a_al0 (by decide) dX8_pace_18 ?_
    refine aw_getR (r := 5) 2 rfl dX8_pace_19 fl_X8_24 at_0 rfl rfl ?_
    try simp (disch := omega) only [up_at, up_ne]
    refine aw_get 3 dX8_pace_22 fl_X8_111 at_5 rfl ?_
    try simp (disch := omega) only [up_at, up_ne]
    refine aw_icmp_ge 63 dX8_pace_25 (by decide) (fun c25 => ?_) (fun c25 => ?_)
    · have ei : i = h 141 3 := by omega
      rw [ei] at ec em
      have k' := k c m hdf (by omega) (by omega) (fun g' hr => ⟨by
        rw [ec]
        refine sumN_eq _ (fun j a b => ?_)
        unfold ifN
        rw [((hd g' hr).2.2.1 j a (by omega)).1], em⟩)
      unfold paceV at k'
      refine a_il3 dX8_pace_63 ?_
      refine aw_if_ne 71 dX8_pace_64 (by decide) (fun c64 => ?_) (fun c64 => ?_)
      · rw [if_neg (by assumption)] at k'
        refine a_il2 dX8_pace_71 ?_
        refine aw_i2f dX8_pace_72 ?_
        refine a_il3 dX8_pace_73 ?_
        refine aw_i2f dX8_pace_74 ?_
        refine aw_fdiv dX8_pace_75 ?_ ?_
        · exact fd_ok (by omega) (by omega)
        · refine aw_fret dX8_pace_76 rfl ?_
          exact k'
      · rw [if_pos (by assumption)] at k'
        refine aw_fconst0 dX8_pace_67 ?_
        refine aw_goto 76 dX8_pace_68 (by decide) ?_
        refine aw_fret dX8_pace_76 rfl ?_
        exact k'
    · have il : i < h 141 3 := by omega
      have r6 := hr6 i i0 il
      have ef := efl i i0 il
      refine a_al0 (by decide) dX8_pace_28 ?_
      refine aw_getR (r := 5) 2 rfl dX8_pace_29 fl_X8_24 at_0 rfl rfl ?_
      try simp (disch := omega) only [up_at, up_ne]
      refine a_il1 dX8_pace_32 ?_
      refine a_il4 dX8_pace_33 ?_
      refine aw_callV 3 0 0 dX8_pace_35 yw_X3_isFloatingIn ml_X8_277 in_X3_isFloatingIn se_X3_isFloatingIn (ci := 2) rfl at_5 (as := [_, _]) rfl rfl ⟨by decide, by decide, by decide, Nat.le_of_ble_eq_true rfl⟩ ?_
      refine ac_isFloatingIn (Or.inl rfl) (by omega) (fun q1 => ?_) (fun q1 => ?_)
      · have e1 : ifN (fSail h f) (h' 30) i = h' 30 i := if_pos (ef.mp q1)
        have e2 : ifN (fSail h f) (fun _ => 1) i = 1 := if_pos (ef.mp q1)
        rw [e1] at es
        rw [e2] at et
        refine am_ci ?_
        refine aw_if_eq_n 57 dX8_pace_38 (by decide) (by decide) ?_
        refine a_il2 dX8_pace_41 ?_
        refine a_al0 (by decide) dX8_pace_42 ?_
        refine aw_getR (r := 25) 4 rfl dX8_pace_43 fl_X8_34 at_0 rfl rfl ?_
        try simp (disch := omega) only [up_at, up_ne]
        refine aw_getR (r := 30) 4 rfl dX8_pace_46 fl_X8_280 at_25 rfl rfl ?_
        try simp (disch := omega) only [up_at, up_ne]
        refine a_il4 dX8_pace_49 ?_
        refine aw_iald dX8_pace_51 ar_30 (by omega) ?_
        try simp (disch := omega) only [up_at, up_ne]
        refine aw_iaddR (by omega) dX8_pace_52 ?_
        refine a_is2 rfl rfl dX8_pace_53 ?_
        refine a_iiR3 (by omega) rfl rfl dX8_pace_54 ?_
        refine a_iiR4 (by omega) rfl rfl dX8_pace_57 ?_
        refine aw_goto 16 dX8_pace_60 (by decide) ?_
        exact ih (i + 1, c + h' 30 i, m + 1) ⟨by dsimp only; omega, by dsimp only; omega, by dsimp only; omega, by dsimp only; omega, by dsimp only; omega, by dsimp only; omega⟩ (by dsimp only; omega)
      · have e1 : ifN (fSail h f) (h' 30) i = 0 := if_neg (fun x => q1 (ef.mpr x))
        have e2 : ifN (fSail h f) (fun _ => 1) i = 0 := if_neg (fun x => q1 (ef.mpr x))
        rw [e1] at es
        rw [e2] at et
        refine am_ci ?_
        refine aw_if_eq_y 57 dX8_pace_38 (by decide) (by decide) ?_
        refine a_iiR4 (by omega) rfl rfl dX8_pace_57 ?_
        refine aw_goto 16 dX8_pace_60 (by decide) ?_
        exact ih (i + 1, c, m) ⟨by dsimp only; omega, by dsimp only; omega, by dsimp only; omega, by dsimp only; omega, by dsimp only; omega, by dsimp only; omega⟩ (by dsimp only; omega)
  · rw [d2] at q
    exact am_cx rfl (k1 q)
