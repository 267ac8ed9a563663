/-! the model: angles, gains, shifts, copies -/
def mn (a b : Int) : Int := if b < a then b else a
def mx (a b : Int) : Int := if a < b then b else a
def ang (o t : Int) : Int := if 8 - (o - t) % 8 < (o - t) % 8 then 8 - (o - t) % 8 else (o - t) % 8
theorem ang_rg (o t : Int) : 0 ≤ ang o t ∧ ang o t ≤ 4 := by unfold ang; split <;> omega
theorem mulr {a b A B : Int} (ha : 0 ≤ a ∧ a ≤ A) (hb : 0 ≤ b ∧ b ≤ B) : 0 ≤ a * b ∧ a * b ≤ A * B := ⟨Int.mul_nonneg ha.1 hb.1, Int.mul_le_mul ha.2 hb.2 hb.1 (by omega)⟩
theorem tab0_r (j : Int) : 0 ≤ tab0 j ∧ tab0 j ≤ 4 := by
  unfold tab0
  generalize j.toNat = k
  match k with
  | 0 => decide
  | 1 => decide
  | 2 => decide
  | 3 => decide
  | 4 => decide
  | k + 5 => exact ⟨by simp, by simp⟩
theorem ac_angle {o t : Int} {h : AH} {K : AO → Nat → AH → Prop} (ho : 0 ≤ o ∧ o ≤ 7) (ht : 0 ≤ t ∧ t ≤ 7) (k : K (.inl (some (0, ang o t))) 159 h) : AC mX9_angle 2 0 0 159 [(0, o), (0, t)] h K := by
  refine ac_of (ls := [(0, o), (0, t), (9, 0)]) pn_X9 rfl (Nat.le_of_ble_eq_true rfl) rfl ?_
  refine a_il0 dX9_angle_0 ?_
  refine a_il1 dX9_angle_1 ?_
  refine aw_isubR (by omega) dX9_angle_2 ?_
  refine aw_bipush dX9_angle_3 (by decide) ?_
  refine aw_callS 1 0 0 dX9_angle_5 yw_J9_floorMod_7cf53 ml_X9_219 sm_J9_floorMod_7cf53 (as := [_, _]) rfl rfl ⟨by decide, by decide, by decide, Nat.le_of_ble_eq_true rfl⟩ ?_
  refine ac_floorMod8 (by omega) ?_
  refine am_ci ?_
  refine a_is2 rfl rfl dX9_angle_8 ?_
  refine a_il2 dX9_angle_9 ?_
  refine aw_bipush dX9_angle_10 (by decide) ?_
  refine a_il2 dX9_angle_12 ?_
  refine aw_isubR (by omega) dX9_angle_13 ?_
  refine aw_mmin dX9_angle_14 ⟨ml_X9_114, mw_min⟩ ⟨by decide, Nat.le_of_ble_eq_true rfl⟩ ?_
  refine aw_iret dX9_angle_17 rfl ?_
  exact k
theorem ac_factor {a : Int} {h : AH} {K : AO → Nat → AH → Prop} (ha : 0 ≤ a ∧ a ≤ 4) (k : K (.inl (some (0, tab0 a))) 159 h) : AC mX9_factor 1 0 0 159 [(0, a)] h K := by
  refine ac_of (ls := [(0, a)]) pn_X9 rfl (Nat.le_of_ble_eq_true rfl) rfl ?_
  refine a_il0 dX9_factor_0 ?_
  rcases (show a = 0 ∨ a = 1 ∨ a = 2 ∨ a = 3 ∨ a = 4 by omega) with rfl | rfl | rfl | rfl | rfl
  · refine aw_tsw_in 32 dX9_factor_1 (by omega) rfl (by decide) ?_
    refine aw_iconst dX9_factor_32 (by decide) ?_
    refine aw_iret dX9_factor_33 rfl ?_
    exact k
  · refine aw_tsw_in 34 dX9_factor_1 (by omega) rfl (by decide) ?_
    refine aw_iconst dX9_factor_34 (by decide) ?_
    refine aw_iret dX9_factor_35 rfl ?_
    exact k
  · refine aw_tsw_in 38 dX9_factor_1 (by omega) rfl (by decide) ?_
    refine aw_iconst dX9_factor_38 (by decide) ?_
    refine aw_iret dX9_factor_39 rfl ?_
    exact k
  · refine aw_tsw_in 36 dX9_factor_1 (by omega) rfl (by decide) ?_
    refine aw_iconst dX9_factor_36 (by decide) ?_
    refine aw_iret dX9_factor_37 rfl ?_
    exact k
  · refine aw_tsw_out 38 dX9_factor_1 (by omega) (by decide) ?_
    refine aw_iconst dX9_factor_38 (by decide) ?_
    refine aw_iret dX9_factor_39 rfl ?_
    exact k
theorem ac_hurt {a : Int} {h : AH} {K : AO → Nat → AH → Prop} (ha : 0 ≤ a ∧ a ≤ 4) (k : K (.inl (some (0, tab3 a))) 159 h) : AC mX9_hurt 1 0 0 159 [(0, a)] h K := by
  refine ac_of (ls := [(0, a)]) pn_X9 rfl (Nat.le_of_ble_eq_true rfl) rfl ?_
  refine a_il0 dX9_hurt_0 ?_
  refine aw_iconst dX9_hurt_1 (by decide) ?_
  refine aw_icmp_ge 9 dX9_hurt_2 (by decide) (fun c2 => ?_) (fun c2 => ?_)
  · refine a_il0 dX9_hurt_9 ?_
    refine aw_iconst dX9_hurt_10 (by decide) ?_
    refine aw_icmp_ne 18 dX9_hurt_11 (by decide) (fun c11 => ?_) (fun c11 => ?_)
    · refine aw_iconst dX9_hurt_18 (by decide) ?_
      refine aw_iret dX9_hurt_19 rfl ?_
      rcases (show a = 3 ∨ a = 4 by omega) with rfl | rfl <;> exact k
    · refine aw_iconst dX9_hurt_14 (by decide) ?_
      refine aw_goto 19 dX9_hurt_15 (by decide) ?_
      refine aw_iret dX9_hurt_19 rfl ?_
      rcases (show a = 2 by omega) with rfl
      exact k
  · refine aw_iconst dX9_hurt_5 (by decide) ?_
    refine aw_goto 19 dX9_hurt_6 (by decide) ?_
    refine aw_iret dX9_hurt_19 rfl ?_
    rcases (show a = 0 ∨ a = 1 by omega) with rfl | rfl <;> exact k
theorem ac_columnWay {a : Int} {h : AH} {K : AO → Nat → AH → Prop} (ha : 0 ≤ a ∧ a ≤ 7) (k : K (.inl (some (0, tab1 a))) 159 h) : AC mX9_columnWay 1 0 0 159 [(0, a)] h K := by
  have hm : a.tmod 4 = a % 4 := Int.tmod_eq_emod_of_nonneg ha.1
  refine ac_of (ls := [(0, a)]) pn_X9 rfl (Nat.le_of_ble_eq_true rfl) rfl ?_
  refine a_il0 dX9_columnWay_0 ?_
  refine aw_iconst dX9_columnWay_1 (by decide) ?_
  refine aw_irem dX9_columnWay_2 (by omega) ?_
  refine aw_if_ne 10 dX9_columnWay_3 (by decide) (fun c3 => ?_) (fun c3 => ?_)
  · refine a_il0 dX9_columnWay_10 ?_
    refine aw_iconst dX9_columnWay_11 (by decide) ?_
    refine aw_icmp_ge 19 dX9_columnWay_12 (by decide) (fun c12 => ?_) (fun c12 => ?_)
    · refine aw_iconst dX9_columnWay_19 (by decide) ?_
      refine aw_iret dX9_columnWay_20 rfl ?_
      rcases (show a = 5 ∨ a = 6 ∨ a = 7 by omega) with rfl | rfl | rfl <;> exact k
    · refine aw_iconst dX9_columnWay_15 (by decide) ?_
      refine aw_goto 20 dX9_columnWay_16 (by decide) ?_
      refine aw_iret dX9_columnWay_20 rfl ?_
      rcases (show a = 1 ∨ a = 2 ∨ a = 3 by omega) with rfl | rfl | rfl <;> exact k
  · refine aw_iconst dX9_columnWay_6 (by decide) ?_
    refine aw_goto 20 dX9_columnWay_7 (by decide) ?_
    refine aw_iret dX9_columnWay_20 rfl ?_
    rcases (show a = 0 ∨ a = 4 by omega) with rfl | rfl <;> exact k
theorem ac_rowWay {a : Int} {h : AH} {K : AO → Nat → AH → Prop} (ha : 0 ≤ a ∧ a ≤ 7) (k : K (.inl (some (0, tab2 a))) 159 h) : AC mX9_rowWay 2 0 0 159 [(0, a)] h K := by
  have hm : a.tmod 4 = a % 4 := Int.tmod_eq_emod_of_nonneg ha.1
  refine ac_of (ls := [(0, a)]) pn_X9 rfl (Nat.le_of_ble_eq_true rfl) rfl ?_
  refine a_il0 dX9_rowWay_0 ?_
  refine aw_iconst dX9_rowWay_1 (by decide) ?_
  refine aw_irem dX9_rowWay_2 (by omega) ?_
  refine aw_iconst dX9_rowWay_3 (by decide) ?_
  refine aw_icmp_ne 11 dX9_rowWay_4 (by decide) (fun c4 => ?_) (fun c4 => ?_)
  · refine a_il0 dX9_rowWay_11 ?_
    refine aw_iconst dX9_rowWay_12 (by decide) ?_
    refine aw_iconst dX9_rowWay_13 (by decide) ?_
    refine aw_callS 1 0 0 dX9_rowWay_14 yw_X9_isIn ml_X9_76 sm_X9_isIn (as := [_, _, _]) rfl rfl ⟨by decide, by decide, by decide, Nat.le_of_ble_eq_true rfl⟩ ?_
    refine ac_isIn (fun q => ?_) (fun q => ?_)
    · refine am_ci ?_
      refine aw_if_eq_n 24 dX9_rowWay_17 (by decide) (by decide) ?_
      refine aw_iconst dX9_rowWay_20 (by decide) ?_
      refine aw_goto 25 dX9_rowWay_21 (by decide) ?_
      refine aw_iret dX9_rowWay_25 rfl ?_
      rcases (show a = 3 ∨ a = 4 ∨ a = 5 by omega) with rfl | rfl | rfl <;> exact k
    · refine am_ci ?_
      refine aw_if_eq_y 24 dX9_rowWay_17 (by decide) (by decide) ?_
      refine aw_iconst dX9_rowWay_24 (by decide) ?_
      refine aw_iret dX9_rowWay_25 rfl ?_
      rcases (show a = 0 ∨ a = 1 ∨ a = 7 by omega) with rfl | rfl | rfl <;> exact k
  · refine aw_iconst dX9_rowWay_7 (by decide) ?_
    refine aw_goto 25 dX9_rowWay_8 (by decide) ?_
    refine aw_iret dX9_rowWay_25 rfl ?_
    rcases (show a = 2 ∨ a = 6 by omega) with rfl | rfl <;> exact k
theorem ac_gainOf {i d : Int} {h : AH} {K : AO → Nat → AH → Prop} (hi : 0 ≤ i ∧ i ≤ 40) (hd : 0 ≤ d ∧ d ≤ 7) (h5 : 0 ≤ h 141 5 ∧ h 141 5 ≤ 7) (h6 : 0 ≤ h 141 6 ∧ h 141 6 ≤ 9) (hs : 0 ≤ h 141 (46 + 25 * i + 6) ∧ h 141 (46 + 25 * i + 6) ≤ 9) (k : K (.inl (some (0, h 141 (46 + 25 * i + 6) * h 141 6 * tab0 (ang d (h 141 5))))) 159 h) : AC mX9_gainOf 3 0 0 159 [(2, 140), (0, i), (0, d)] h K := by
  have p1 := mulr hs h6
  have p2 := mulr p1 (tab0_r (ang d (h 141 5)))
  refine ac_of (ls := [(2, 140), (0, i), (0, d)]) pn_X9 rfl (Nat.le_of_ble_eq_true rfl) rfl ?_
  refine a_al0 (by decide) dX9_gainOf_0 ?_
  refine a_il1 dX9_gainOf_1 ?_
  refine aw_bipush dX9_gainOf_2 (by decide) ?_
  refine aw_callV 1 0 0 dX9_gainOf_4 yw_X9_of ml_X9_213 in_X9_of se_X9_of (ci := 8) rfl at_140 (as := [_, _]) rfl rfl ⟨by decide, by decide, by decide, Nat.le_of_ble_eq_true rfl⟩ ?_
  refine ac_of_ hi (by decide) ?_
  refine am_ci ?_
  refine a_al0 (by decide) dX9_gainOf_7 ?_
  refine aw_getR (r := 141) 0 rfl dX9_gainOf_8 fl_X9_7 at_140 rfl rfl ?_
  refine aw_bipush dX9_gainOf_11 (by decide) ?_
  refine aw_iald dX9_gainOf_13 ar_141 (by omega) ?_
  refine aw_imulR (by omega) dX9_gainOf_14 ?_
  refine a_il2 dX9_gainOf_15 ?_
  refine a_al0 (by decide) dX9_gainOf_16 ?_
  refine aw_getR (r := 141) 0 rfl dX9_gainOf_17 fl_X9_7 at_140 rfl rfl ?_
  refine aw_iconst dX9_gainOf_20 (by decide) ?_
  refine aw_iald dX9_gainOf_21 ar_141 (by omega) ?_
  refine aw_callS 2 0 0 dX9_gainOf_22 yw_X9_angle ml_X9_222 sm_X9_angle (as := [_, _]) rfl rfl ⟨by decide, by decide, by decide, Nat.le_of_ble_eq_true rfl⟩ ?_
  refine ac_angle hd h5 ?_
  refine am_ci ?_
  refine aw_callS 1 0 0 dX9_gainOf_25 yw_X9_factor ml_X9_225 sm_X9_factor (as := [_]) rfl rfl ⟨by decide, by decide, by decide, Nat.le_of_ble_eq_true rfl⟩ ?_
  refine ac_factor (ang_rg _ _) ?_
  refine am_ci ?_
  refine aw_imulR (by omega) dX9_gainOf_28 ?_
  refine aw_iret dX9_gainOf_29 rfl ?_
  exact k
def mSh (h : AH) (t k : Int) : Prop := h 141 (10 + 3 * k) = t
theorem ac_shiftOf {t : Int} {h : AH} {K : AO → Nat → AH → Prop} (hn : 0 ≤ h 141 9 ∧ h 141 9 ≤ 8) (k : ∀ x, isFst (mSh h t) (h 141 9) x → K (.inl (some (0, if x = -1 then -1 else 10 + 3 * x))) 159 h) : AC mX9_shiftOf 1 0 0 159 [(2, 140), (0, t)] h K := by
  refine ac_of (ls := [(2, 140), (0, t), (9, 0)]) pn_X9 rfl (Nat.le_of_ble_eq_true rfl) rfl ?_
  refine aw_iconst dX9_shiftOf_0 (by decide) ?_
  refine a_is2 rfl rfl dX9_shiftOf_1 ?_
  refine aw_loop (fun i : Int => 0 ≤ i ∧ i ≤ h 141 9 ∧ ∀ j, 0 ≤ j → j < i → ¬ mSh h t j) (fun i => (h 141 9 - i).toNat) (fun i => AW mX9_shiftOf 1 0 0 K 159 2 [(2, 140), (0, t), (0, i)] [] h) (fun i hi ih => ?_) 0 ⟨by omega, by omega, fun j _ _ => by omega⟩
  obtain ⟨h0, h1, hno⟩ := hi
  refine a_il2 dX9_shiftOf_2 ?_
  refine a_al0 (by decide) dX9_shiftOf_3 ?_
  refine aw_getR (r := 141) 0 rfl dX9_shiftOf_4 fl_X9_7 at_140 rfl rfl ?_
  refine aw_bipush dX9_shiftOf_7 (by decide) ?_
  refine aw_iald dX9_shiftOf_9 ar_141 (by omega) ?_
  refine aw_icmp_ge 41 dX9_shiftOf_10 (by decide) (fun c10 => ?_) (fun c10 => ?_)
  · refine aw_iconst dX9_shiftOf_41 (by decide) ?_
    refine aw_iret dX9_shiftOf_42 rfl ?_
    exact k (-1) (fst_no hno (by omega))
  · refine a_al0 (by decide) dX9_shiftOf_13 ?_
    refine aw_getR (r := 141) 0 rfl dX9_shiftOf_14 fl_X9_7 at_140 rfl rfl ?_
    refine aw_bipush dX9_shiftOf_17 (by decide) ?_
    refine aw_iconst dX9_shiftOf_19 (by decide) ?_
    refine a_il2 dX9_shiftOf_20 ?_
    refine aw_imulR (by omega) dX9_shiftOf_21 ?_
    refine aw_iaddR (by omega) dX9_shiftOf_22 ?_
    refine aw_iald dX9_shiftOf_23 ar_141 (by omega) ?_
    refine a_il1 dX9_shiftOf_24 ?_
    refine aw_icmp_ne 35 dX9_shiftOf_25 (by decide) (fun c25 => ?_) (fun c25 => ?_)
    · refine a_iiR2 (by omega) rfl rfl dX9_shiftOf_35 ?_
      refine aw_goto 2 dX9_shiftOf_38 (by decide) ?_
      exact ih (i + 1) ⟨by omega, by omega, fst_nxt hno (by unfold mSh; omega)⟩ (by omega)
    · refine aw_bipush dX9_shiftOf_28 (by decide) ?_
      refine aw_iconst dX9_shiftOf_30 (by decide) ?_
      refine a_il2 dX9_shiftOf_31 ?_
      refine aw_imulR (by omega) dX9_shiftOf_32 ?_
      refine aw_iaddR (by omega) dX9_shiftOf_33 ?_
      refine aw_iret dX9_shiftOf_34 rfl ?_
      have h9 := k i (fst_yes hno h0 (by omega) (by unfold mSh; omega))
      rw [if_neg (by omega)] at h9
      exact h9
theorem ac_shifts {h : AH} {K : AO → Nat → AH → Prop} (hn : 0 ≤ h 141 9 ∧ h 141 9 ≤ 8) (k : ∀ x, isFst (mSh h (h 141 4)) (h 141 9) x → K (.inl none) 159 (if x = -1 then h else up (up h 141 5 (h 141 (10 + 3 * x + 1))) 141 6 (h 141 (10 + 3 * x + 2)))) : AC mX9_shifts 2 0 0 159 [(2, 140)] h K := by
  refine ac_of (ls := [(2, 140), (9, 0)]) pn_X9 rfl (Nat.le_of_ble_eq_true rfl) rfl ?_
  refine a_al0 (by decide) dX9_shifts_0 ?_
  refine a_al0 (by decide) dX9_shifts_1 ?_
  refine aw_getR (r := 141) 0 rfl dX9_shifts_2 fl_X9_7 at_140 rfl rfl ?_
  refine aw_iconst dX9_shifts_5 (by decide) ?_
  refine aw_iald dX9_shifts_6 ar_141 (by omega) ?_
  refine aw_callV 1 0 0 dX9_shifts_7 yw_X9_shiftOf ml_X9_150 in_X9_shiftOf se_X9_shiftOf (ci := 8) rfl at_140 (as := [_]) rfl rfl ⟨by decide, by decide, by decide, Nat.le_of_ble_eq_true rfl⟩ ?_
  refine ac_shiftOf hn (fun x hx => ?_)
  have h9 := k x hx
  rcases hx with ⟨x0, x1, -, -⟩ | ⟨rfl, -⟩
  · rw [if_neg (by omega)] at h9 ⊢
    refine am_ci ?_
    refine a_is1 rfl rfl dX9_shifts_10 ?_
    refine a_il1 dX9_shifts_11 ?_
    refine aw_iconst dX9_shifts_12 (by decide) ?_
    refine aw_icmp_ne 17 dX9_shifts_13 (by decide) (fun c13 => ?_) (fun c13 => ?_)
    · refine a_al0 (by decide) dX9_shifts_17 ?_
      refine aw_getR (r := 141) 0 rfl dX9_shifts_18 fl_X9_7 at_140 rfl rfl ?_
      refine aw_iconst dX9_shifts_21 (by decide) ?_
      refine a_al0 (by decide) dX9_shifts_22 ?_
      refine aw_getR (r := 141) 0 rfl dX9_shifts_23 fl_X9_7 at_140 rfl rfl ?_
      refine a_il1 dX9_shifts_26 ?_
      refine aw_iconst dX9_shifts_27 (by decide) ?_
      refine aw_iaddR (by omega) dX9_shifts_28 ?_
      refine aw_iald dX9_shifts_29 ar_141 (by omega) ?_
      refine aw_iast dX9_shifts_30 ar_141 (by omega) ?_
      refine a_al0 (by decide) dX9_shifts_31 ?_
      refine aw_getR (r := 141) 0 rfl dX9_shifts_32 fl_X9_7 at_140 rfl rfl ?_
      try simp (disch := omega) only [up_at, up_ne]
      refine aw_bipush dX9_shifts_35 (by decide) ?_
      refine a_al0 (by decide) dX9_shifts_37 ?_
      refine aw_getR (r := 141) 0 rfl dX9_shifts_38 fl_X9_7 at_140 rfl rfl ?_
      try simp (disch := omega) only [up_at, up_ne]
      refine a_il1 dX9_shifts_41 ?_
      refine aw_iconst dX9_shifts_42 (by decide) ?_
      refine aw_iaddR (by omega) dX9_shifts_43 ?_
      refine aw_iald dX9_shifts_44 ar_141 (by omega) ?_
      try simp (disch := omega) only [up_at, up_ne]
      refine aw_iast dX9_shifts_45 ar_141 (by omega) ?_
      refine aw_vret dX9_shifts_46 rfl ?_
      exact h9
    · exfalso; omega
  · rw [if_pos rfl] at h9 ⊢
    refine am_ci ?_
    refine a_is1 rfl rfl dX9_shifts_10 ?_
    refine a_il1 dX9_shifts_11 ?_
    refine aw_iconst dX9_shifts_12 (by decide) ?_
    refine aw_icmp_ne 17 dX9_shifts_13 (by decide) (fun c13 => ?_) (fun c13 => ?_)
    · exfalso; omega
    · refine aw_vret dX9_shifts_16 rfl ?_
      exact h9
def cpy (h : AH) (t ta f fa n : Int) : AH := fun k j => if k = t ∧ ta ≤ j ∧ j < ta + n then h f (fa + (j - ta)) else h k j
theorem cpy_0 (h : AH) (t ta f fa : Int) : cpy h t ta f fa 0 = h := by
  funext k j
  unfold cpy
  rw [if_neg (by omega)]
theorem cpy_s (h : AH) {t ta f fa n : Int} (hne : t ≠ f) (hn : 0 ≤ n) : up (cpy h t ta f fa n) t (ta + n) (cpy h t ta f fa n f (fa + n)) = cpy h t ta f fa (n + 1) := by
  have e : cpy h t ta f fa n f (fa + n) = h f (fa + n) := by unfold cpy; rw [if_neg (by rintro ⟨q, -⟩; exact hne q.symm)]
  rw [e]
  funext k j
  unfold up cpy
  by_cases h1 : k = t ∧ j = ta + n
  · rw [if_pos h1, if_pos (by omega), show fa + (j - ta) = fa + n by omega]
  · rw [if_neg h1]
    by_cases h2 : k = t ∧ ta ≤ j ∧ j < ta + n
    · rw [if_pos h2, if_pos (by omega)]
    · rw [if_neg h2, if_neg (by omega)]
theorem ac_copies {t ta f fa : Int} {lt lf : Nat} {h : AH} {K : AO → Nat → AH → Prop} (ht : am_ar 159 t 100 lt) (hf : am_ar 159 f 100 lf) (hne : t ≠ f) (h1 : 0 ≤ ta ∧ ta + 1256 ≤ lt) (h2 : 0 ≤ fa ∧ fa + 1256 ≤ lf) (hl : lt ≤ 20000 ∧ lf ≤ 20000) (k : K (.inl none) 159 (cpy h t ta f fa 1256)) : AC mX9_copies 1 0 0 159 [(2, t), (0, ta), (2, f), (0, fa)] h K := by
  refine ac_of (ls := [(2, t), (0, ta), (2, f), (0, fa), (9, 0)]) pn_X9 rfl (Nat.le_of_ble_eq_true rfl) rfl ?_
  refine aw_iconst dX9_copies_0 (by decide) ?_
  refine a_is4 rfl rfl dX9_copies_1 ?_
  have H := aw_loop (fun i : Int => 0 ≤ i ∧ i ≤ 1256) (fun i => (1256 - i).toNat) (fun i => AW mX9_copies 1 0 0 K 159 3 [(2, t), (0, ta), (2, f), (0, fa), (0, i)] [] (cpy h t ta f fa i)) (fun i hi ih => ?_) 0 ⟨by omega, by omega⟩
  · rw [cpy_0] at H
    exact H
  · refine a_il4 dX9_copies_3 ?_
    refine aw_sipush dX9_copies_5 (by decide) ?_
    refine aw_icmp_ge 29 dX9_copies_8 (by decide) (fun c8 => ?_) (fun c8 => ?_)
    · refine aw_vret dX9_copies_29 rfl ?_
      rw [show i = 1256 by omega]
      exact k
    · refine a_al0 (am_sa_rg ht) dX9_copies_11 ?_
      refine a_il1 dX9_copies_12 ?_
      refine a_il4 dX9_copies_13 ?_
      refine aw_iaddR (by omega) dX9_copies_15 ?_
      refine a_al2 (am_sa_rg hf) dX9_copies_16 ?_
      refine a_il3 dX9_copies_17 ?_
      refine a_il4 dX9_copies_18 ?_
      refine aw_iaddR (by omega) dX9_copies_20 ?_
      refine aw_iald dX9_copies_21 hf (by omega) ?_
      refine aw_iast dX9_copies_22 ht (by omega) ?_
      refine a_iiR4 (by omega) rfl rfl dX9_copies_23 ?_
      refine aw_goto 3 dX9_copies_26 (by decide) ?_
      rw [cpy_s h hne (by omega)]
      exact ih (i + 1) ⟨by omega, by omega⟩ (by omega)
