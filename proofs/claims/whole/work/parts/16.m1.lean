/-! the model's small methods -/
theorem ac_isIn {v lo hi : Int} {h : AH} {K : AO → Nat → AH → Prop} (k1 : lo ≤ v ∧ v ≤ hi → K (.inl (some (0, 1))) 159 h) (k0 : ¬ (lo ≤ v ∧ v ≤ hi) → K (.inl (some (0, 0))) 159 h) : AC mX9_isIn 1 0 0 159 [(0, v), (0, lo), (0, hi)] h K := by
  refine ac_of (ls := [(0, v), (0, lo), (0, hi)]) pn_X9 rfl (Nat.le_of_ble_eq_true rfl) rfl ?_
  refine a_il0 dX9_isIn_0 ?_
  refine a_il1 dX9_isIn_1 ?_
  refine aw_icmp_lt 14 dX9_isIn_2 (by decide) (fun c2 => ?_) (fun c2 => ?_)
  · refine aw_iconst dX9_isIn_14 (by decide) ?_
    refine aw_zret dX9_isIn_15 rfl (by omega) ?_
    exact k0 (by omega)
  · refine a_il0 dX9_isIn_5 ?_
    refine a_il2 dX9_isIn_6 ?_
    refine aw_icmp_gt 14 dX9_isIn_7 (by decide) (fun c7 => ?_) (fun c7 => ?_)
    · refine aw_iconst dX9_isIn_14 (by decide) ?_
      refine aw_zret dX9_isIn_15 rfl (by omega) ?_
      exact k0 (by omega)
    · refine aw_iconst dX9_isIn_10 (by decide) ?_
      refine aw_goto 15 dX9_isIn_11 (by decide) ?_
      refine aw_zret dX9_isIn_15 rfl (by omega) ?_
      exact k1 (by omega)
theorem ac_of_ {i w : Int} {h : AH} {K : AO → Nat → AH → Prop} (hi : 0 ≤ i ∧ i ≤ 40) (hw : 0 ≤ w ∧ w ≤ 25) (k : K (.inl (some (0, h 141 (46 + 25 * i + w)))) 159 h) : AC mX9_of 1 0 0 159 [(2, 140), (0, i), (0, w)] h K := by
  refine ac_of (ls := [(2, 140), (0, i), (0, w)]) pn_X9 rfl (Nat.le_of_ble_eq_true rfl) rfl ?_
  refine a_al0 (by decide) dX9_of_0 ?_
  refine aw_getR (r := 141) 0 rfl dX9_of_1 fl_X9_7 at_140 rfl rfl ?_
  refine aw_bipush dX9_of_4 (by decide) ?_
  refine aw_bipush dX9_of_6 (by decide) ?_
  refine a_il1 dX9_of_8 ?_
  refine aw_imulR (by omega) dX9_of_9 ?_
  refine aw_iaddR (by omega) dX9_of_10 ?_
  refine a_il2 dX9_of_11 ?_
  refine aw_iaddR (by omega) dX9_of_12 ?_
  refine aw_iald dX9_of_13 ar_141 (by omega) ?_
  refine aw_iret dX9_of_14 rfl ?_
  exact k
theorem ac_sets {i w v : Int} {h : AH} {K : AO → Nat → AH → Prop} (hi : 0 ≤ i ∧ i ≤ 40) (hw : 0 ≤ w ∧ w ≤ 25) (k : K (.inl none) 159 (up h 141 (46 + 25 * i + w) v)) : AC mX9_sets 1 0 0 159 [(2, 140), (0, i), (0, w), (0, v)] h K := by
  refine ac_of (ls := [(2, 140), (0, i), (0, w), (0, v)]) pn_X9 rfl (Nat.le_of_ble_eq_true rfl) rfl ?_
  refine a_al0 (by decide) dX9_sets_0 ?_
  refine aw_getR (r := 141) 0 rfl dX9_sets_1 fl_X9_7 at_140 rfl rfl ?_
  refine aw_bipush dX9_sets_4 (by decide) ?_
  refine aw_bipush dX9_sets_6 (by decide) ?_
  refine a_il1 dX9_sets_8 ?_
  refine aw_imulR (by omega) dX9_sets_9 ?_
  refine aw_iaddR (by omega) dX9_sets_10 ?_
  refine a_il2 dX9_sets_11 ?_
  refine aw_iaddR (by omega) dX9_sets_12 ?_
  refine a_il3 dX9_sets_13 ?_
  refine aw_iast dX9_sets_14 ar_141 (by omega) ?_
  refine aw_vret dX9_sets_15 rfl ?_
  exact k
theorem ac_isShip {i : Int} {h : AH} {K : AO → Nat → AH → Prop} (hr : 0 ≤ h 141 3) (k1 : 0 ≤ i ∧ i < h 141 3 → K (.inl (some (0, 1))) 159 h) (k0 : ¬ (0 ≤ i ∧ i < h 141 3) → K (.inl (some (0, 0))) 159 h) : AC mX9_isShip 2 0 0 159 [(2, 140), (0, i)] h K := by
  refine ac_inv (fun _ hI => ?_)
  have hr2 := inv_a hI 3 (by decide)
  refine ac_of (ls := [(2, 140), (0, i)]) pn_X9 rfl (Nat.le_of_ble_eq_true rfl) rfl ?_
  refine a_il1 dX9_isShip_0 ?_
  refine aw_iconst dX9_isShip_1 (by decide) ?_
  refine a_al0 (by decide) dX9_isShip_2 ?_
  refine aw_getR (r := 141) 0 rfl dX9_isShip_3 fl_X9_7 at_140 rfl rfl ?_
  refine aw_iconst dX9_isShip_6 (by decide) ?_
  refine aw_iald dX9_isShip_7 ar_141 (by omega) ?_
  refine aw_iconst dX9_isShip_8 (by decide) ?_
  refine aw_isubR (by omega) dX9_isShip_9 ?_
  refine aw_callS 1 0 0 dX9_isShip_10 yw_X9_isIn ml_X9_76 sm_X9_isIn (as := [_, _, _]) rfl rfl ⟨by decide, by decide, by decide, Nat.le_of_ble_eq_true rfl⟩ ?_
  refine ac_isIn (fun q => ?_) (fun q => ?_)
  · refine am_ci ?_
    refine aw_zret dX9_isShip_13 rfl (by omega) ?_
    exact k1 (by omega)
  · refine am_ci ?_
    refine aw_zret dX9_isShip_13 rfl (by omega) ?_
    exact k0 (by omega)
theorem ac_isFleet {f : Int} {h : AH} {K : AO → Nat → AH → Prop} (hr : 0 ≤ h 141 2) (k1 : 0 ≤ f ∧ f < h 141 2 → K (.inl (some (0, 1))) 159 h) (k0 : ¬ (0 ≤ f ∧ f < h 141 2) → K (.inl (some (0, 0))) 159 h) : AC mX9_isFleet 2 0 0 159 [(2, 140), (0, f)] h K := by
  refine ac_inv (fun _ hI => ?_)
  have hr2 := inv_a hI 2 (by decide)
  refine ac_of (ls := [(2, 140), (0, f)]) pn_X9 rfl (Nat.le_of_ble_eq_true rfl) rfl ?_
  refine a_il1 dX9_isFleet_0 ?_
  refine aw_iconst dX9_isFleet_1 (by decide) ?_
  refine a_al0 (by decide) dX9_isFleet_2 ?_
  refine aw_getR (r := 141) 0 rfl dX9_isFleet_3 fl_X9_7 at_140 rfl rfl ?_
  refine aw_iconst dX9_isFleet_6 (by decide) ?_
  refine aw_iald dX9_isFleet_7 ar_141 (by omega) ?_
  refine aw_iconst dX9_isFleet_8 (by decide) ?_
  refine aw_isubR (by omega) dX9_isFleet_9 ?_
  refine aw_callS 1 0 0 dX9_isFleet_10 yw_X9_isIn ml_X9_76 sm_X9_isIn (as := [_, _, _]) rfl rfl ⟨by decide, by decide, by decide, Nat.le_of_ble_eq_true rfl⟩ ?_
  refine ac_isIn (fun q => ?_) (fun q => ?_)
  · refine am_ci ?_
    refine aw_zret dX9_isFleet_13 rfl (by omega) ?_
    exact k1 (by omega)
  · refine am_ci ?_
    refine aw_zret dX9_isFleet_13 rfl (by omega) ?_
    exact k0 (by omega)
theorem ac_sails {i : Int} {h : AH} {K : AO → Nat → AH → Prop} (hi : 0 ≤ i ∧ i ≤ 40) (k1 : h 141 (46 + 25 * i + 10) = -1 → K (.inl (some (0, 1))) 159 h) (k0 : ¬ h 141 (46 + 25 * i + 10) = -1 → K (.inl (some (0, 0))) 159 h) : AC mX9_sails 2 0 0 159 [(2, 140), (0, i)] h K := by
  refine ac_of (ls := [(2, 140), (0, i)]) pn_X9 rfl (Nat.le_of_ble_eq_true rfl) rfl ?_
  refine a_al0 (by decide) dX9_sails_0 ?_
  refine a_il1 dX9_sails_1 ?_
  refine aw_bipush dX9_sails_2 (by decide) ?_
  refine aw_callV 1 0 0 dX9_sails_4 yw_X9_of ml_X9_213 in_X9_of se_X9_of (ci := 8) rfl at_140 (as := [_, _]) rfl rfl ⟨by decide, by decide, by decide, Nat.le_of_ble_eq_true rfl⟩ ?_
  refine ac_of_ hi (by decide) ?_
  refine am_ci ?_
  refine aw_iconst dX9_sails_7 (by decide) ?_
  refine aw_icmp_ne 15 dX9_sails_8 (by decide) (fun c8 => ?_) (fun c8 => ?_)
  · refine aw_iconst dX9_sails_15 (by decide) ?_
    refine aw_zret dX9_sails_16 rfl (by omega) ?_
    exact k0 (by omega)
  · refine aw_iconst dX9_sails_11 (by decide) ?_
    refine aw_goto 16 dX9_sails_12 (by decide) ?_
    refine aw_zret dX9_sails_16 rfl (by omega) ?_
    exact k1 (by omega)
theorem ac_sailsFor {i f : Int} {h : AH} {K : AO → Nat → AH → Prop} (hi : 0 ≤ i ∧ i ≤ 40) (k1 : h 141 (46 + 25 * i + 10) = -1 ∧ h 141 (46 + 25 * i + 0) = f → K (.inl (some (0, 1))) 159 h) (k0 : ¬ (h 141 (46 + 25 * i + 10) = -1 ∧ h 141 (46 + 25 * i + 0) = f) → K (.inl (some (0, 0))) 159 h) : AC mX9_sailsFor 3 0 0 159 [(2, 140), (0, i), (0, f)] h K := by
  refine ac_of (ls := [(2, 140), (0, i), (0, f)]) pn_X9 rfl (Nat.le_of_ble_eq_true rfl) rfl ?_
  refine a_al0 (by decide) dX9_sailsFor_0 ?_
  refine a_il1 dX9_sailsFor_1 ?_
  refine aw_callV 2 0 0 dX9_sailsFor_2 yw_X9_sails ml_X9_216 in_X9_sails se_X9_sails (ci := 8) rfl at_140 (as := [_]) rfl rfl ⟨by decide, by decide, by decide, Nat.le_of_ble_eq_true rfl⟩ ?_
  refine ac_sails hi (fun q => ?_) (fun q => ?_)
  · refine am_ci ?_
    refine aw_if_eq_n 22 dX9_sailsFor_5 (by decide) (by decide) ?_
    refine a_al0 (by decide) dX9_sailsFor_8 ?_
    refine a_il1 dX9_sailsFor_9 ?_
    refine aw_iconst dX9_sailsFor_10 (by decide) ?_
    refine aw_callV 1 0 0 dX9_sailsFor_11 yw_X9_of ml_X9_213 in_X9_of se_X9_of (ci := 8) rfl at_140 (as := [_, _]) rfl rfl ⟨by decide, by decide, by decide, Nat.le_of_ble_eq_true rfl⟩ ?_
    refine ac_of_ hi (by decide) ?_
    refine am_ci ?_
    refine a_il2 dX9_sailsFor_14 ?_
    refine aw_icmp_ne 22 dX9_sailsFor_15 (by decide) (fun c15 => ?_) (fun c15 => ?_)
    · refine aw_iconst dX9_sailsFor_22 (by decide) ?_
      refine aw_zret dX9_sailsFor_23 rfl (by omega) ?_
      exact k0 (by omega)
    · refine aw_iconst dX9_sailsFor_18 (by decide) ?_
      refine aw_goto 23 dX9_sailsFor_19 (by decide) ?_
      refine aw_zret dX9_sailsFor_23 rfl (by omega) ?_
      exact k1 (by omega)
  · refine am_ci ?_
    refine aw_if_eq_y 22 dX9_sailsFor_5 (by decide) (by decide) ?_
    refine aw_iconst dX9_sailsFor_22 (by decide) ?_
    refine aw_zret dX9_sailsFor_23 rfl (by omega) ?_
    exact k0 (by omega)
