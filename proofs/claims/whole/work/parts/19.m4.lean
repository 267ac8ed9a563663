/-! the model: what is kept -/
theorem ac_begins {h : AH} {K : AO → Nat → AH → Prop} (k : K (.inl none) 159 (up (fillH h 141 1256 0) 141 6 5)) : AC mX9_begins 1 0 0 159 [(2, 140)] h K := by
  refine ac_of (ls := [(2, 140), (9, 0)]) pn_X9 rfl (Nat.le_of_ble_eq_true rfl) rfl ?_
  refine aw_iconst dX9_begins_0 (by decide) ?_
  refine a_is1 rfl rfl dX9_begins_1 ?_
  have H := aw_loop (fun i : Int => 0 ≤ i ∧ i ≤ 1256) (fun i => (1256 - i).toNat) (fun i => AW mX9_begins 1 0 0 K 159 2 [(2, 140), (0, i)] [] (fillH h 141 i 0)) (fun i hi ih => ?_) 0 ⟨by omega, by omega⟩
  · rw [fillH_0] at H
    exact H
  · refine a_il1 dX9_begins_2 ?_
    refine aw_sipush dX9_begins_3 (by decide) ?_
    refine aw_icmp_ge 22 dX9_begins_6 (by decide) (fun c6 => ?_) (fun c6 => ?_)
    · refine a_al0 (by decide) dX9_begins_22 ?_
      refine aw_getR (r := 141) 0 rfl dX9_begins_23 fl_X9_7 at_140 rfl rfl ?_
      refine aw_bipush dX9_begins_26 (by decide) ?_
      refine aw_iconst dX9_begins_28 (by decide) ?_
      refine aw_iast dX9_begins_29 ar_141 (by omega) ?_
      refine aw_vret dX9_begins_30 rfl ?_
      rw [show i = 1256 by omega]
      exact k
    · refine a_al0 (by decide) dX9_begins_9 ?_
      refine aw_getR (r := 141) 0 rfl dX9_begins_10 fl_X9_7 at_140 rfl rfl ?_
      refine a_il1 dX9_begins_13 ?_
      refine aw_iconst dX9_begins_14 (by decide) ?_
      refine aw_iast dX9_begins_15 ar_141 (by omega) ?_
      refine a_iiR1 (by omega) rfl rfl dX9_begins_16 ?_
      refine aw_goto 2 dX9_begins_19 (by decide) ?_
      rw [fillH_s h hi.1]
      exact ih (i + 1) ⟨by omega, by omega⟩ (by omega)
def shf (h : AH) (i : Int) : AH := fun k j => if k = 144 ∧ 0 ≤ j ∧ j < i then h 144 (j + 1256) else h k j
theorem shf_0 (h : AH) : shf h 0 = h := by
  funext k j
  unfold shf
  rw [if_neg (by omega)]
theorem shf_s (h : AH) {i : Int} (hi : 0 ≤ i) : up (shf h i) 144 i (shf h i 144 (i + 1256)) = shf h (i + 1) := by
  have e : shf h i 144 (i + 1256) = h 144 (i + 1256) := by unfold shf; rw [if_neg (by omega)]
  rw [e]
  funext k j
  unfold up shf
  by_cases h1 : k = 144 ∧ j = i
  · rw [if_pos h1, if_pos (by omega), h1.2]
  · rw [if_neg h1]
    by_cases h2 : k = 144 ∧ 0 ≤ j ∧ j < i
    · rw [if_pos h2, if_pos (by omega)]
    · rw [if_neg h2, if_neg (by omega)]
theorem kp_tail {r : Int} {lr : Nat} {v : AV} {h : AH} {K : AO → Nat → AH → Prop} (hr : am_ar 159 r 100 lr) (hne : 144 ≠ r) (hl : 1256 ≤ lr ∧ lr ≤ 20000) (hk : 0 ≤ h 140 6 ∧ h 140 6 ≤ 7) (k : K (.inl none) 159 (up (cpy h 144 (1256 * h 140 6) r 0 1256) 140 6 (h 140 6 + 1))) : AW mX9_keeps 2 0 0 K 159 50 [(2, 140), (2, r), v] [] h := by
  refine a_al0 (by decide) dX9_keeps_50 ?_
  refine aw_getR (r := 144) 3 rfl dX9_keeps_51 fl_X9_19 at_140 rfl rfl ?_
  refine aw_sipush dX9_keeps_54 (by decide) ?_
  refine a_al0 (by decide) dX9_keeps_57 ?_
  refine aw_get 6 dX9_keeps_58 fl_X9_69 at_140 rfl ?_
  refine aw_imulR (by omega) dX9_keeps_61 ?_
  refine a_al1 (am_sa_rg hr) dX9_keeps_62 ?_
  refine aw_iconst dX9_keeps_63 (by decide) ?_
  refine aw_callS 1 0 0 dX9_keeps_64 yw_X9_copies ml_X9_72 sm_X9_copies (as := [_, _, _, _]) rfl rfl ⟨by decide, by decide, by decide, Nat.le_of_ble_eq_true rfl⟩ ?_
  refine ac_copies ar_144 hr hne (by omega) (by omega) (by omega) ?_
  have e : cpy h 144 (1256 * h 140 6) r 0 1256 140 6 = h 140 6 := by unfold cpy; rw [if_neg (by omega)]
  refine am_cv ?_
  refine a_al0 (by decide) dX9_keeps_67 ?_
  refine aw_dup dX9_keeps_68 rfl ?_
  refine aw_get 6 dX9_keeps_69 fl_X9_69 at_140 rfl ?_
  try simp (disch := omega) only [up_at, up_ne]
  refine aw_iconst dX9_keeps_72 (by decide) ?_
  refine aw_iaddR (by omega) dX9_keeps_73 ?_
  refine aw_put 6 dX9_keeps_74 fp_X9_69 at_140 rfl ?_
  refine aw_vret dX9_keeps_77 rfl ?_
  rw [e]
  exact k
/-- what is kept behind keeps(r) -/
def Kept (h : AH) (r : Int) (h' : AH) : Prop :=
  (∀ k j, k ≠ 144 → ¬ (k = 140 ∧ j = 6) → h' k j = h k j) ∧ h' 140 6 = (if h 140 6 = 8 then 8 else h 140 6 + 1) ∧
  ∀ e j, 0 ≤ e → e < h' 140 6 → 0 ≤ j → j < 1256 → h' 144 (1256 * e + j) = if e = h' 140 6 - 1 then h r j else h 144 (1256 * (if h 140 6 = 8 then e + 1 else e) + j)
theorem kept_a {h : AH} {r : Int} (hr : r ≠ 144) (hk : 0 ≤ h 140 6 ∧ h 140 6 ≤ 7) : Kept h r (up (cpy h 144 (1256 * h 140 6) r 0 1256) 140 6 (h 140 6 + 1)) := by
  refine ⟨fun k j h1 h2 => ?_, ?_, fun e j h1 h2 h3 h4 => ?_⟩
  · rw [up_ne h2]
    unfold cpy
    rw [if_neg (by omega)]
  · rw [up_at, if_neg (by omega)]
  · rw [up_at] at h2 ⊢
    rw [up_ne (by omega), if_neg (show ¬ h 140 6 = 8 by omega)]
    unfold cpy
    by_cases q : e = h 140 6 + 1 - 1
    · rw [if_pos q, if_pos (by omega)]
      congr 1
      omega
    · rw [if_neg q, if_neg (by omega)]
theorem kept_b {h : AH} {r : Int} (hr : r ≠ 144) (hr2 : r ≠ 140) (hk : h 140 6 = 8) : Kept h r (up (cpy (up (shf h 8792) 140 6 7) 144 (1256 * 7) r 0 1256) 140 6 8) := by
  have e0 : ∀ j, up (shf h 8792) 140 6 7 r j = h r j := fun j => by
    rw [up_ne (by omega)]
    unfold shf
    rw [if_neg (by omega)]
  refine ⟨fun k j h1 h2 => ?_, ?_, fun e j h1 h2 h3 h4 => ?_⟩
  · rw [up_ne h2]
    unfold cpy
    rw [if_neg (by omega), up_ne h2]
    unfold shf
    rw [if_neg (by omega)]
  · rw [up_at, if_pos hk]
  · rw [up_at] at h2 ⊢
    rw [up_ne (by omega), if_pos hk]
    unfold cpy
    by_cases q : e = 8 - 1
    · rw [if_pos q, if_pos (by omega), e0]
      congr 1
      omega
    · rw [if_neg q, if_neg (by omega), up_ne (by omega)]
      unfold shf
      rw [if_pos (by omega)]
      congr 1
      omega
theorem ac_keeps {r : Int} {lr : Nat} {h : AH} {K : AO → Nat → AH → Prop} (hr : am_ar 159 r 100 lr) (hne : r ≠ 144) (hl : 1256 ≤ lr ∧ lr ≤ 20000) (hk : 0 ≤ h 140 6 ∧ h 140 6 ≤ 8) (k : ∀ h', Kept h r h' → K (.inl none) 159 h') : AC mX9_keeps 2 0 0 159 [(2, 140), (2, r)] h K := by
  have hr140 : r ≠ 140 := by
    intro q
    have h9 := hr.2.2.2
    rw [q] at h9
    have h10 : (8 : Nat) = 100 := congrArg Prod.fst h9
    omega
  refine ac_of (ls := [(2, 140), (2, r), (9, 0)]) pn_X9 rfl (Nat.le_of_ble_eq_true rfl) rfl ?_
  refine a_al0 (by decide) dX9_keeps_0 ?_
  refine aw_get 6 dX9_keeps_1 fl_X9_69 at_140 rfl ?_
  refine aw_bipush dX9_keeps_4 (by decide) ?_
  refine aw_icmp_ne 50 dX9_keeps_6 (by decide) (fun c6 => ?_) (fun c6 => ?_)
  · skip
    exact kp_tail hr (fun q => hne q.symm) hl (by omega) (k _ (kept_a hne (by omega)))
  · refine aw_iconst dX9_keeps_9 (by decide) ?_
    refine a_is2 rfl rfl dX9_keeps_10 ?_
    have H := aw_loop (fun i : Int => 0 ≤ i ∧ i ≤ 8792) (fun i => (8792 - i).toNat) (fun i => AW mX9_keeps 2 0 0 K 159 11 [(2, 140), (2, r), (0, i)] [] (shf h i)) (fun i hi ih => ?_) 0 ⟨by omega, by omega⟩
    · rw [shf_0] at H
      exact H
    · have e8 : shf h i 140 6 = 8 := by unfold shf; rw [if_neg (by omega)]; omega
      refine a_il2 dX9_keeps_11 ?_
      refine aw_sipush dX9_keeps_12 (by decide) ?_
      refine aw_icmp_ge 40 dX9_keeps_15 (by decide) (fun c15 => ?_) (fun c15 => ?_)
      · refine a_al0 (by decide) dX9_keeps_40 ?_
        refine aw_dup dX9_keeps_41 rfl ?_
        refine aw_get 6 dX9_keeps_42 fl_X9_69 at_140 rfl ?_
        refine aw_iconst dX9_keeps_45 (by decide) ?_
        refine aw_isubR (by omega) dX9_keeps_46 ?_
        refine aw_put 6 dX9_keeps_47 fp_X9_69 at_140 rfl ?_
        have hi8 : i = 8792 := by omega
        rw [e8]
        refine kp_tail hr (fun q => hne q.symm) hl (by rw [up_at]; omega) ?_
        rw [up_at, hi8]
        exact k _ (kept_b hne hr140 (by omega))
      · refine a_al0 (by decide) dX9_keeps_18 ?_
        refine aw_getR (r := 144) 3 rfl dX9_keeps_19 fl_X9_19 at_140 rfl rfl ?_
        refine a_il2 dX9_keeps_22 ?_
        refine a_al0 (by decide) dX9_keeps_23 ?_
        refine aw_getR (r := 144) 3 rfl dX9_keeps_24 fl_X9_19 at_140 rfl rfl ?_
        refine a_il2 dX9_keeps_27 ?_
        refine aw_sipush dX9_keeps_28 (by decide) ?_
        refine aw_iaddR (by omega) dX9_keeps_31 ?_
        refine aw_iald dX9_keeps_32 ar_144 (by omega) ?_
        refine aw_iast dX9_keeps_33 ar_144 (by omega) ?_
        refine a_iiR2 (by omega) rfl rfl dX9_keeps_34 ?_
        refine aw_goto 11 dX9_keeps_37 (by decide) ?_
        rw [shf_s h hi.1]
        exact ih (i + 1) ⟨by omega, by omega⟩ (by omega)
theorem ac_undo {h : AH} {K : AO → Nat → AH → Prop} (hk : 0 ≤ h 140 6 ∧ h 140 6 ≤ 8) (k1 : h 140 6 = 0 → K (.inl (some (0, 0))) 159 (up h 140 7 1)) (k0 : 0 < h 140 6 → K (.inl (some (0, h 140 6 - 1))) 159 (cpy (up (up h 140 7 0) 140 6 (h 140 6 - 1)) 141 0 144 (1256 * (h 140 6 - 1)) 1256)) : AC mX9_undo 3 0 0 159 [(2, 140)] h K := by
  refine ac_of (ls := [(2, 140)]) pn_X9 rfl (Nat.le_of_ble_eq_true rfl) rfl ?_
  refine a_al0 (by decide) dX9_undo_0 ?_
  refine a_al0 (by decide) dX9_undo_1 ?_
  refine aw_get 6 dX9_undo_2 fl_X9_69 at_140 rfl ?_
  refine aw_if_ne 12 dX9_undo_5 (by decide) (fun c5 => ?_) (fun c5 => ?_)
  · refine aw_iconst dX9_undo_12 (by decide) ?_
    refine aw_put 7 dX9_undo_13 fp_X9_66 at_140 rfl ?_
    refine a_al0 (by decide) dX9_undo_16 ?_
    refine aw_get 7 dX9_undo_17 fl_X9_66 at_140 rfl ?_
    try simp (disch := omega) only [up_at, up_ne]
    refine aw_if_le 25 dX9_undo_20 (by decide) (fun c20 => ?_) (fun c20 => ?_)
    · refine a_al0 (by decide) dX9_undo_25 ?_
      refine aw_dup dX9_undo_26 rfl ?_
      refine aw_get 6 dX9_undo_27 fl_X9_69 at_140 rfl ?_
      try simp (disch := omega) only [up_at, up_ne]
      refine aw_iconst dX9_undo_30 (by decide) ?_
      refine aw_isubR (by omega) dX9_undo_31 ?_
      refine aw_put 6 dX9_undo_32 fp_X9_69 at_140 rfl ?_
      refine a_al0 (by decide) dX9_undo_35 ?_
      refine aw_getR (r := 141) 0 rfl dX9_undo_36 fl_X9_7 at_140 rfl rfl ?_
      try simp (disch := omega) only [up_at, up_ne]
      refine aw_iconst dX9_undo_39 (by decide) ?_
      refine a_al0 (by decide) dX9_undo_40 ?_
      refine aw_getR (r := 144) 3 rfl dX9_undo_41 fl_X9_19 at_140 rfl rfl ?_
      try simp (disch := omega) only [up_at, up_ne]
      refine aw_sipush dX9_undo_44 (by decide) ?_
      refine a_al0 (by decide) dX9_undo_47 ?_
      refine aw_get 6 dX9_undo_48 fl_X9_69 at_140 rfl ?_
      try simp (disch := omega) only [up_at, up_ne]
      refine aw_imulR (by omega) dX9_undo_51 ?_
      refine aw_callS 1 0 0 dX9_undo_52 yw_X9_copies ml_X9_72 sm_X9_copies (as := [_, _, _, _]) rfl rfl ⟨by decide, by decide, by decide, Nat.le_of_ble_eq_true rfl⟩ ?_
      have e : cpy (up (up h 140 7 0) 140 6 (h 140 6 - 1)) 141 0 144 (1256 * (h 140 6 - 1)) 1256 140 6 = h 140 6 - 1 := by unfold cpy; rw [if_neg (by omega), up_at]
      refine ac_copies ar_141 ar_144 (by decide) (by omega) (by omega) (by omega) ?_
      refine am_cv ?_
      refine a_al0 (by decide) dX9_undo_55 ?_
      refine aw_get 6 dX9_undo_56 fl_X9_69 at_140 rfl ?_
      try simp (disch := omega) only [up_at, up_ne]
      refine aw_iret dX9_undo_59 rfl ?_
      rw [e]
      exact k0 (by omega)
    · exfalso; omega
  · refine aw_iconst dX9_undo_8 (by decide) ?_
    refine aw_goto 13 dX9_undo_9 (by decide) ?_
    refine aw_put 7 dX9_undo_13 fp_X9_66 at_140 rfl ?_
    refine a_al0 (by decide) dX9_undo_16 ?_
    refine aw_get 7 dX9_undo_17 fl_X9_66 at_140 rfl ?_
    try simp (disch := omega) only [up_at, up_ne]
    refine aw_if_le 25 dX9_undo_20 (by decide) (fun c20 => ?_) (fun c20 => ?_)
    · exfalso; omega
    · refine aw_iconst dX9_undo_23 (by decide) ?_
      refine aw_iret dX9_undo_24 rfl ?_
      exact k1 (by omega)
