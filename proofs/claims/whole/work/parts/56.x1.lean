/-! the class: letters, cells, what a sheet holds -/
def cLt (o p : Int) : Int := i_and (i_shr o (3 * p)) 7
def cWi (o p l : Int) : Int := i_or (i_and o (i_xor (i_shl 7 (3 * p)) (-1))) (i_shl l (3 * p))
theorem ac_letter {o p : Int} {h : AH} {K : AO → Nat → AH → Prop} (hp : 0 ≤ p ∧ p ≤ 5) (k : K (.inl (some (0, cLt o p))) 159 h) : AC mX2_letter 1 0 0 159 [(0, o), (0, p)] h K := by
  refine ac_of (ls := [(0, o), (0, p)]) pn_X2 rfl (Nat.le_of_ble_eq_true rfl) rfl ?_
  refine a_il0 dX2_letter_0 ?_
  refine aw_iconst dX2_letter_1 (by decide) ?_
  refine a_il1 dX2_letter_2 ?_
  refine aw_imulR (by omega) dX2_letter_3 ?_
  refine aw_ishr dX2_letter_4 ?_
  refine aw_bipush dX2_letter_5 (by decide) ?_
  refine aw_iand dX2_letter_7 ?_
  refine aw_iret dX2_letter_8 rfl ?_
  exact k
theorem ac_with {o p l : Int} {h : AH} {K : AO → Nat → AH → Prop} (hp : 0 ≤ p ∧ p ≤ 5) (k : K (.inl (some (0, cWi o p l))) 159 h) : AC mX2_with 1 0 0 159 [(0, o), (0, p), (0, l)] h K := by
  refine ac_of (ls := [(0, o), (0, p), (0, l)]) pn_X2 rfl (Nat.le_of_ble_eq_true rfl) rfl ?_
  refine a_il0 dX2_with_0 ?_
  refine aw_bipush dX2_with_1 (by decide) ?_
  refine aw_iconst dX2_with_3 (by decide) ?_
  refine a_il1 dX2_with_4 ?_
  refine aw_imulR (by omega) dX2_with_5 ?_
  refine aw_ishl dX2_with_6 ?_
  refine aw_iconst dX2_with_7 (by decide) ?_
  refine aw_ixor dX2_with_8 ?_
  refine aw_iand dX2_with_9 ?_
  refine a_il2 dX2_with_10 ?_
  refine aw_iconst dX2_with_11 (by decide) ?_
  refine a_il1 dX2_with_12 ?_
  refine aw_imulR (by omega) dX2_with_13 ?_
  refine aw_ishl dX2_with_14 ?_
  refine aw_ior dX2_with_15 ?_
  refine aw_iret dX2_with_16 rfl ?_
  exact k
theorem and7 {x : Int} (hx : -7 ≤ x ∧ x ≤ 7) : i_and x 7 = x % 8 := by
  have : x = -7 ∨ x = -6 ∨ x = -5 ∨ x = -4 ∨ x = -3 ∨ x = -2 ∨ x = -1 ∨ x = 0 ∨ x = 1 ∨ x = 2 ∨ x = 3 ∨ x = 4 ∨ x = 5 ∨ x = 6 ∨ x = 7 := by omega
  rcases this with rfl | rfl | rfl | rfl | rfl | rfl | rfl | rfl | rfl | rfl | rfl | rfl | rfl | rfl | rfl <;> decide
theorem and7b {x : Int} (hx : -1 ≤ x ∧ x ≤ 8) : i_and x 7 = x % 8 := by
  by_cases e : x = 8
  · rw [e]; decide
  · exact and7 (by omega)
theorem ac_angleOf {o t : Int} {h : AH} {K : AO → Nat → AH → Prop} (ho : 0 ≤ o ∧ o ≤ 7) (ht : 0 ≤ t ∧ t ≤ 7) (k : K (.inl (some (0, ang o t))) 159 h) : AC mX8_angleOf 1 0 0 159 [(0, o), (0, t)] h K := by
  have e := and7 (x := o - t) (by omega)
  unfold ang at k
  refine ac_of (ls := [(0, o), (0, t), (9, 0)]) pn_X8 rfl (Nat.le_of_ble_eq_true rfl) rfl ?_
  refine a_il0 dX8_angleOf_0 ?_
  refine a_il1 dX8_angleOf_1 ?_
  refine aw_isubR (by omega) dX8_angleOf_2 ?_
  refine aw_bipush dX8_angleOf_3 (by decide) ?_
  refine aw_iand dX8_angleOf_5 ?_
  refine a_is2 rfl rfl dX8_angleOf_6 ?_
  refine a_il2 dX8_angleOf_7 ?_
  refine aw_iconst dX8_angleOf_8 (by decide) ?_
  refine aw_icmp_le 19 dX8_angleOf_9 (by decide) (fun c9 => ?_) (fun c9 => ?_)
  · rw [if_neg (by omega)] at k
    refine a_il2 dX8_angleOf_19 ?_
    refine aw_iret dX8_angleOf_20 rfl ?_
    rw [e]
    exact k
  · refine aw_bipush dX8_angleOf_12 (by decide) ?_
    refine a_il2 dX8_angleOf_14 ?_
    refine aw_isubR (by omega) dX8_angleOf_15 ?_
    refine aw_goto 20 dX8_angleOf_16 (by decide) ?_
    refine aw_iret dX8_angleOf_20 rfl ?_
    rw [e]
    rw [e] at *
    by_cases q : 8 - (o - t) % 8 < (o - t) % 8
    · rw [if_pos q] at k
      exact k
    · exfalso; omega
theorem ac_cellOf {c r : Int} {h : AH} {K : AO → Nat → AH → Prop} (hc : -1000 ≤ c ∧ c ≤ 1000) (hr : -1000 ≤ r ∧ r ≤ 1000) (k : K (.inl (some (0, 100 * c + r))) 159 h) : AC mX8_cellOf 1 0 0 159 [(0, c), (0, r)] h K := by
  refine ac_of (ls := [(0, c), (0, r)]) pn_X8 rfl (Nat.le_of_ble_eq_true rfl) rfl ?_
  refine aw_bipush dX8_cellOf_0 (by decide) ?_
  refine a_il0 dX8_cellOf_2 ?_
  refine aw_imulR (by omega) dX8_cellOf_3 ?_
  refine a_il1 dX8_cellOf_4 ?_
  refine aw_iaddR (by omega) dX8_cellOf_5 ?_
  refine aw_iret dX8_cellOf_6 rfl ?_
  exact k
theorem ac_isDirection {d : Int} {h : AH} {K : AO → Nat → AH → Prop} (k1 : 0 ≤ d ∧ d ≤ 7 → K (.inl (some (0, 1))) 159 h) (k0 : ¬ (0 ≤ d ∧ d ≤ 7) → K (.inl (some (0, 0))) 159 h) : AC mX8_isDirection 1 0 0 159 [(0, d)] h K := by
  refine ac_of (ls := [(0, d)]) pn_X8 rfl (Nat.le_of_ble_eq_true rfl) rfl ?_
  refine a_il0 dX8_isDirection_0 ?_
  refine aw_if_lt 14 dX8_isDirection_1 (by decide) (fun c1 => ?_) (fun c1 => ?_)
  · refine aw_iconst dX8_isDirection_14 (by decide) ?_
    refine aw_zret dX8_isDirection_15 rfl (by omega) ?_
    exact k0 (by omega)
  · refine a_il0 dX8_isDirection_4 ?_
    refine aw_bipush dX8_isDirection_5 (by decide) ?_
    refine aw_icmp_ge 14 dX8_isDirection_7 (by decide) (fun c7 => ?_) (fun c7 => ?_)
    · refine aw_iconst dX8_isDirection_14 (by decide) ?_
      refine aw_zret dX8_isDirection_15 rfl (by omega) ?_
      exact k0 (by omega)
    · refine aw_iconst dX8_isDirection_10 (by decide) ?_
      refine aw_goto 15 dX8_isDirection_11 (by decide) ?_
      refine aw_zret dX8_isDirection_15 rfl (by omega) ?_
      exact k1 (by omega)
theorem ac_isKey {d : Int} {h : AH} {K : AO → Nat → AH → Prop} (k1 : 0 ≤ d ∧ d ≤ 999999 → K (.inl (some (0, 1))) 159 h) (k0 : ¬ (0 ≤ d ∧ d ≤ 999999) → K (.inl (some (0, 0))) 159 h) : AC mX8_isKey 1 0 0 159 [(0, d)] h K := by
  refine ac_of (ls := [(0, d)]) pn_X8 rfl (Nat.le_of_ble_eq_true rfl) rfl ?_
  refine a_il0 dX8_isKey_0 ?_
  refine aw_if_lt 15 dX8_isKey_1 (by decide) (fun c1 => ?_) (fun c1 => ?_)
  · refine aw_iconst dX8_isKey_15 (by decide) ?_
    refine aw_zret dX8_isKey_16 rfl (by omega) ?_
    exact k0 (by omega)
  · refine a_il0 dX8_isKey_4 ?_
    refine aw_ldcw dX8_isKey_5 kc_X8_357 (by decide) ?_
    refine aw_icmp_gt 15 dX8_isKey_8 (by decide) (fun c8 => ?_) (fun c8 => ?_)
    · refine aw_iconst dX8_isKey_15 (by decide) ?_
      refine aw_zret dX8_isKey_16 rfl (by omega) ?_
      exact k0 (by omega)
    · refine aw_iconst dX8_isKey_11 (by decide) ?_
      refine aw_goto 16 dX8_isKey_12 (by decide) ?_
      refine aw_zret dX8_isKey_16 rfl (by omega) ?_
      exact k1 (by omega)
theorem sh_ab {b : Int} (h : b = 5 ∨ b = 15) : am_sh b := by
  rcases h with rfl | rfl
  · exact sh_5
  · exact sh_15
theorem ac_get {b i w : Int} {h : AH} {K : AO → Nat → AH → Prop} (hB : b = 5 ∨ b = 15) (hi : 0 ≤ i ∧ i ≤ 11) (hw : 0 ≤ w ∧ w ≤ 10) (k : K (.inl (some (0, h (b + 2) (i * 11 + w)))) 159 h) : AC mX3_get 1 0 0 159 [(2, b), (0, i), (0, w)] h K := by
  have hb := sh_ab hB
  refine ac_of (ls := [(2, b), (0, i), (0, w)]) pn_X3 rfl (Nat.le_of_ble_eq_true rfl) rfl ?_
  refine a_al0 (am_sh_rg hb) dX3_get_0 ?_
  refine aw_shR 10 2 hb dX3_get_1 fl_X3_15 (by decide) ?_
  refine a_il1 dX3_get_4 ?_
  refine aw_bipush dX3_get_5 (by decide) ?_
  refine aw_imulR (by omega) dX3_get_7 ?_
  refine a_il2 dX3_get_8 ?_
  refine aw_iaddR (by omega) dX3_get_9 ?_
  refine aw_iald dX3_get_10 (am_sa_2 hb) (by omega) ?_
  refine aw_iret dX3_get_11 rfl ?_
  exact k
theorem ac_set {b i w v : Int} {h : AH} {K : AO → Nat → AH → Prop} (hB : b = 5 ∨ b = 15) (hi : 0 ≤ i ∧ i ≤ 11) (hw : 0 ≤ w ∧ w ≤ 10) (k : K (.inl none) 159 (up h (b + 2) (i * 11 + w) v)) : AC mX3_set 1 0 0 159 [(2, b), (0, i), (0, w), (0, v)] h K := by
  have hb := sh_ab hB
  refine ac_of (ls := [(2, b), (0, i), (0, w), (0, v)]) pn_X3 rfl (Nat.le_of_ble_eq_true rfl) rfl ?_
  refine a_al0 (am_sh_rg hb) dX3_set_0 ?_
  refine aw_shR 10 2 hb dX3_set_1 fl_X3_15 (by decide) ?_
  refine a_il1 dX3_set_4 ?_
  refine aw_bipush dX3_set_5 (by decide) ?_
  refine aw_imulR (by omega) dX3_set_7 ?_
  refine a_il2 dX3_set_8 ?_
  refine aw_iaddR (by omega) dX3_set_9 ?_
  refine a_il3 dX3_set_10 ?_
  refine aw_iast dX3_set_11 (am_sa_2 hb) (by omega) ?_
  refine aw_vret dX3_set_12 rfl ?_
  exact k
theorem ac_floats {b i : Int} {h : AH} {K : AO → Nat → AH → Prop} (hB : b = 5 ∨ b = 15) (hi : 0 ≤ i ∧ i ≤ 11) (k1 : ¬ h (b + 2) (i * 11 + 1) = -1 → K (.inl (some (0, 1))) 159 h) (k0 : h (b + 2) (i * 11 + 1) = -1 → K (.inl (some (0, 0))) 159 h) : AC mX3_floats 2 0 0 159 [(2, b), (0, i)] h K := by
  have hb := sh_ab hB
  refine ac_of (ls := [(2, b), (0, i)]) pn_X3 rfl (Nat.le_of_ble_eq_true rfl) rfl ?_
  refine a_al0 (am_sh_rg hb) dX3_floats_0 ?_
  refine a_il1 dX3_floats_1 ?_
  refine aw_iconst dX3_floats_2 (by decide) ?_
  refine aw_callV 1 0 0 dX3_floats_3 yw_X3_get ml_X3_100 in_X3_get se_X3_get (ci := 2) rfl (am_sh_at hb) (as := [_, _]) rfl rfl ⟨by decide, by decide, by decide, Nat.le_of_ble_eq_true rfl⟩ ?_
  refine ac_get hB hi (by decide) ?_
  refine am_ci ?_
  refine aw_iconst dX3_floats_6 (by decide) ?_
  refine aw_icmp_eq 14 dX3_floats_7 (by decide) (fun c7 => ?_) (fun c7 => ?_)
  · refine aw_iconst dX3_floats_14 (by decide) ?_
    refine aw_zret dX3_floats_15 rfl (by omega) ?_
    exact k0 (by assumption)
  · refine aw_iconst dX3_floats_10 (by decide) ?_
    refine aw_goto 15 dX3_floats_11 (by decide) ?_
    refine aw_zret dX3_floats_15 rfl (by omega) ?_
    exact k1 (by assumption)
abbrev cFl (h : AH) (b f i : Int) : Prop := ¬ h (b + 2) (i * 11 + 1) = -1 ∧ h (b + 2) (i * 11 + 0) = f
theorem ac_isFloatingIn {b f i : Int} {h : AH} {K : AO → Nat → AH → Prop} (hB : b = 5 ∨ b = 15) (hi : 0 ≤ i ∧ i ≤ 11) (k1 : cFl h b f i → K (.inl (some (0, 1))) 159 h) (k0 : ¬ cFl h b f i → K (.inl (some (0, 0))) 159 h) : AC mX3_isFloatingIn 3 0 0 159 [(2, b), (0, f), (0, i)] h K := by
  have hb := sh_ab hB
  refine ac_of (ls := [(2, b), (0, f), (0, i)]) pn_X3 rfl (Nat.le_of_ble_eq_true rfl) rfl ?_
  refine a_al0 (am_sh_rg hb) dX3_isFloatingIn_0 ?_
  refine a_il2 dX3_isFloatingIn_1 ?_
  refine aw_iconst dX3_isFloatingIn_2 (by decide) ?_
  refine aw_callV 1 0 0 dX3_isFloatingIn_3 yw_X3_get ml_X3_100 in_X3_get se_X3_get (ci := 2) rfl (am_sh_at hb) (as := [_, _]) rfl rfl ⟨by decide, by decide, by decide, Nat.le_of_ble_eq_true rfl⟩ ?_
  refine ac_get hB hi (by decide) ?_
  refine am_ci ?_
  refine a_il1 dX3_isFloatingIn_6 ?_
  refine aw_icmp_ne 22 dX3_isFloatingIn_7 (by decide) (fun c7 => ?_) (fun c7 => ?_)
  · have c : ¬ h (b + 2) (i * 11 + 0) = f := by assumption
    refine aw_iconst dX3_isFloatingIn_22 (by decide) ?_
    refine aw_zret dX3_isFloatingIn_23 rfl (by omega) ?_
    exact k0 (fun q => c q.2)
  · have c : h (b + 2) (i * 11 + 0) = f := by assumption
    refine a_al0 (am_sh_rg hb) dX3_isFloatingIn_10 ?_
    refine a_il2 dX3_isFloatingIn_11 ?_
    refine aw_callV 2 0 0 dX3_isFloatingIn_12 yw_X3_floats ml_X3_103 in_X3_floats se_X3_floats (ci := 2) rfl (am_sh_at hb) (as := [_]) rfl rfl ⟨by decide, by decide, by decide, Nat.le_of_ble_eq_true rfl⟩ ?_
    refine ac_floats hB hi (fun q => ?_) (fun q => ?_)
    · refine am_ci ?_
      refine aw_if_eq_n 22 dX3_isFloatingIn_15 (by decide) (by decide) ?_
      refine aw_iconst dX3_isFloatingIn_18 (by decide) ?_
      refine aw_goto 23 dX3_isFloatingIn_19 (by decide) ?_
      refine aw_zret dX3_isFloatingIn_23 rfl (by omega) ?_
      exact k1 ⟨q, c⟩
    · refine am_ci ?_
      refine aw_if_eq_y 22 dX3_isFloatingIn_15 (by decide) (by decide) ?_
      refine aw_iconst dX3_isFloatingIn_22 (by decide) ?_
      refine aw_zret dX3_isFloatingIn_23 rfl (by omega) ?_
      exact k0 (fun x => x.1 q)
theorem ac_takeOff {b i : Int} {h : AH} {K : AO → Nat → AH → Prop} (hB : b = 5 ∨ b = 15) (hi : 0 ≤ i ∧ i ≤ 11) (k : K (.inl none) 159 (up (up h (b + 2) (i * 11 + 1) (-1)) (b + 2) (i * 11 + 2) (-1))) : AC mX3_takeOff 2 0 0 159 [(2, b), (0, i)] h K := by
  have hb := sh_ab hB
  refine ac_of (ls := [(2, b), (0, i)]) pn_X3 rfl (Nat.le_of_ble_eq_true rfl) rfl ?_
  refine a_al0 (am_sh_rg hb) dX3_takeOff_0 ?_
  refine a_il1 dX3_takeOff_1 ?_
  refine aw_iconst dX3_takeOff_2 (by decide) ?_
  refine aw_iconst dX3_takeOff_3 (by decide) ?_
  refine aw_callV 1 0 0 dX3_takeOff_4 yw_X3_set ml_X3_96 in_X3_set se_X3_set (ci := 2) rfl (am_sh_at hb) (as := [_, _, _]) rfl rfl ⟨by decide, by decide, by decide, Nat.le_of_ble_eq_true rfl⟩ ?_
  refine ac_set hB hi (by decide) ?_
  refine am_cv ?_
  refine a_al0 (am_sh_rg hb) dX3_takeOff_7 ?_
  refine a_il1 dX3_takeOff_8 ?_
  refine aw_iconst dX3_takeOff_9 (by decide) ?_
  refine aw_iconst dX3_takeOff_10 (by decide) ?_
  refine aw_callV 1 0 0 dX3_takeOff_11 yw_X3_set ml_X3_96 in_X3_set se_X3_set (ci := 2) rfl (am_sh_at hb) (as := [_, _, _]) rfl rfl ⟨by decide, by decide, by decide, Nat.le_of_ble_eq_true rfl⟩ ?_
  refine ac_set hB hi (by decide) ?_
  refine am_cv ?_
  refine aw_vret dX3_takeOff_14 rfl ?_
  exact k
def rmAll (h : AH) (b i n : Int) (h' : AH) : Prop := (∀ k x, ¬ (k = b + 2 ∧ ∃ j, 0 ≤ j ∧ j < n ∧ j ≠ i ∧ (x = j * 11 + 1 ∨ x = j * 11 + 2)) → h' k x = h k x) ∧ ∀ j, 0 ≤ j → j < n → j ≠ i → h' (b + 2) (j * 11 + 1) = -1 ∧ h' (b + 2) (j * 11 + 2) = -1
theorem ac_removeAllBut {b i : Int} {h : AH} {K : AO → Nat → AH → Prop} (hB : b = 5 ∨ b = 15) (hn : 0 ≤ h b 3 ∧ h b 3 ≤ 12) (kk : ∀ h', rmAll h b i (h b 3) h' → K (.inl none) 159 h') : AC mX3_removeAllBut 3 0 0 159 [(2, b), (0, i)] h K := by
  have hb := sh_ab hB
  refine ac_of (ls := [(2, b), (0, i), (9, 0)]) pn_X3 rfl (Nat.le_of_ble_eq_true rfl) rfl ?_
  refine aw_iconst dX3_removeAllBut_0 (by decide) ?_
  refine a_is2 rfl rfl dX3_removeAllBut_1 ?_
  refine aw_loop (fun q : Int × AH => 0 ≤ q.1 ∧ q.1 ≤ h b 3 ∧ rmAll h b i q.1 q.2) (fun q => (h b 3 - q.1).toNat) (fun q => AW mX3_removeAllBut 3 0 0 K 159 2 [(2, b), (0, i), (0, q.1)] [] q.2) (fun q hq ih => ?_) (0, h) ⟨by dsimp only; omega, hn.1, fun _ _ _ => rfl, fun j a b => by dsimp only at b; omega⟩
  obtain ⟨j, g⟩ := q
  obtain ⟨j0, j1, fr, hj⟩ := hq
  dsimp only at j0 j1 fr hj ih ⊢
  have g3 : g b 3 = h b 3 := fr _ _ (fun q => by omega)
  refine a_il2 dX3_removeAllBut_2 ?_
  refine a_al0 (am_sh_rg hb) dX3_removeAllBut_3 ?_
  refine aw_get 3 dX3_removeAllBut_4 fl_X3_50 (am_sh_at hb) rfl ?_
  refine aw_icmp_ge 26 dX3_removeAllBut_7 (by decide) (fun c7 => ?_) (fun c7 => ?_)
  · refine aw_vret dX3_removeAllBut_26 rfl ?_
    rw [show j = h b 3 by omega] at fr hj
    exact kk g ⟨fr, hj⟩
  · refine a_il2 dX3_removeAllBut_10 ?_
    refine a_il1 dX3_removeAllBut_11 ?_
    refine aw_icmp_eq 20 dX3_removeAllBut_12 (by decide) (fun c12 => ?_) (fun c12 => ?_)
    · have e : j = i := by assumption
      refine a_iiR2 (by omega) rfl rfl dX3_removeAllBut_20 ?_
      refine aw_goto 2 dX3_removeAllBut_23 (by decide) ?_
      refine ih (j + 1, g) ⟨by dsimp only; omega, by dsimp only; omega, fun k x c => fr k x (fun ⟨q1, j', q2, q3, q4⟩ => c ⟨q1, j', q2, by dsimp only; omega, q4⟩), fun j' a c d => hj j' a (by dsimp only at c; omega) d⟩ (by dsimp only; omega)
    · have e : ¬ j = i := by assumption
      refine a_al0 (am_sh_rg hb) dX3_removeAllBut_15 ?_
      refine a_il2 dX3_removeAllBut_16 ?_
      refine aw_callV 2 0 0 dX3_removeAllBut_17 yw_X3_takeOff ml_X3_107 in_X3_takeOff se_X3_takeOff (ci := 2) rfl (am_sh_at hb) (as := [_]) rfl rfl ⟨by decide, by decide, by decide, Nat.le_of_ble_eq_true rfl⟩ ?_
      refine ac_takeOff hB (by omega) ?_
      refine am_cv ?_
      refine a_iiR2 (by omega) rfl rfl dX3_removeAllBut_20 ?_
      refine aw_goto 2 dX3_removeAllBut_23 (by decide) ?_
      refine ih (j + 1, up (up g (b + 2) (j * 11 + 1) (-1)) (b + 2) (j * 11 + 2) (-1)) ⟨by dsimp only; omega, by dsimp only; omega, fun k x c => ?_, fun j' a c d => ?_⟩ (by dsimp only; omega)
      · dsimp only at c ⊢
        rw [up_ne (fun q => c ⟨q.1, j, j0, by omega, e, Or.inr q.2⟩), up_ne (fun q => c ⟨q.1, j, j0, by omega, e, Or.inl q.2⟩)]
        exact fr k x (fun ⟨q1, j', q2, q3, q4⟩ => c ⟨q1, j', q2, by omega, q4⟩)
      · dsimp only at c ⊢
        by_cases q : j' = j
        · rw [q, up_ne (by omega), up_at, up_at]
          exact ⟨rfl, rfl⟩
        · rw [up_ne (by omega), up_ne (by omega), up_ne (by omega), up_ne (by omega)]
          exact hj j' a (by omega) d
theorem ac_hasCell {b c r : Int} {h : AH} {K : AO → Nat → AH → Prop} (hB : b = 5 ∨ b = 15) (k1 : 0 ≤ c ∧ c < h b 0 ∧ 0 ≤ r ∧ r < h b 1 → K (.inl (some (0, 1))) 159 h) (k0 : ¬ (0 ≤ c ∧ c < h b 0 ∧ 0 ≤ r ∧ r < h b 1) → K (.inl (some (0, 0))) 159 h) : AC mX3_hasCell 1 0 0 159 [(2, b), (0, c), (0, r)] h K := by
  have hb := sh_ab hB
  refine ac_of (ls := [(2, b), (0, c), (0, r)]) pn_X3 rfl (Nat.le_of_ble_eq_true rfl) rfl ?_
  refine a_il1 dX3_hasCell_0 ?_
  refine aw_if_lt 28 dX3_hasCell_1 (by decide) (fun c1 => ?_) (fun c1 => ?_)
  · refine aw_iconst dX3_hasCell_28 (by decide) ?_
    refine aw_zret dX3_hasCell_29 rfl (by omega) ?_
    exact k0 (by omega)
  · refine a_il1 dX3_hasCell_4 ?_
    refine a_al0 (am_sh_rg hb) dX3_hasCell_5 ?_
    refine aw_get 0 dX3_hasCell_6 fl_X3_40 (am_sh_at hb) rfl ?_
    refine aw_icmp_ge 28 dX3_hasCell_9 (by decide) (fun c9 => ?_) (fun c9 => ?_)
    · refine aw_iconst dX3_hasCell_28 (by decide) ?_
      refine aw_zret dX3_hasCell_29 rfl (by omega) ?_
      exact k0 (by omega)
    · refine a_il2 dX3_hasCell_12 ?_
      refine aw_if_lt 28 dX3_hasCell_13 (by decide) (fun c13 => ?_) (fun c13 => ?_)
      · refine aw_iconst dX3_hasCell_28 (by decide) ?_
        refine aw_zret dX3_hasCell_29 rfl (by omega) ?_
        exact k0 (by omega)
      · refine a_il2 dX3_hasCell_16 ?_
        refine a_al0 (am_sh_rg hb) dX3_hasCell_17 ?_
        refine aw_get 1 dX3_hasCell_18 fl_X3_44 (am_sh_at hb) rfl ?_
        refine aw_icmp_ge 28 dX3_hasCell_21 (by decide) (fun c21 => ?_) (fun c21 => ?_)
        · refine aw_iconst dX3_hasCell_28 (by decide) ?_
          refine aw_zret dX3_hasCell_29 rfl (by omega) ?_
          exact k0 (by omega)
        · refine aw_iconst dX3_hasCell_24 (by decide) ?_
          refine aw_goto 29 dX3_hasCell_25 (by decide) ?_
          refine aw_zret dX3_hasCell_29 rfl (by omega) ?_
          exact k1 (by omega)
def cAt (h : AH) (b c r j : Int) : Prop := h (b + 2) (j * 11 + 1) = c ∧ h (b + 2) (j * 11 + 2) = r
theorem ac_shipIn {b c r : Int} {h : AH} {K : AO → Nat → AH → Prop} (hB : b = 5 ∨ b = 15) (hn : 0 ≤ h b 3 ∧ h b 3 ≤ 12) (k : ∀ x, isFst (cAt h b c r) (h b 3) x → K (.inl (some (0, x))) 159 h) : AC mX3_shipIn 2 0 0 159 [(2, b), (0, c), (0, r)] h K := by
  have hb := sh_ab hB
  refine ac_of (ls := [(2, b), (0, c), (0, r), (9, 0)]) pn_X3 rfl (Nat.le_of_ble_eq_true rfl) rfl ?_
  refine aw_iconst dX3_shipIn_0 (by decide) ?_
  refine a_is3 rfl rfl dX3_shipIn_1 ?_
  refine aw_loop (fun i : Int => 0 ≤ i ∧ i ≤ h b 3 ∧ ∀ j, 0 ≤ j → j < i → ¬ cAt h b c r j) (fun i => (h b 3 - i).toNat) (fun i => AW mX3_shipIn 2 0 0 K 159 2 [(2, b), (0, c), (0, r), (0, i)] [] h) (fun i hi ih => ?_) 0 ⟨by omega, by omega, fun j _ _ => by omega⟩
  obtain ⟨h0, h1, hno⟩ := hi
  refine a_il3 dX3_shipIn_2 ?_
  refine a_al0 (am_sh_rg hb) dX3_shipIn_3 ?_
  refine aw_get 3 dX3_shipIn_4 fl_X3_50 (am_sh_at hb) rfl ?_
  refine aw_icmp_ge 38 dX3_shipIn_7 (by decide) (fun c7 => ?_) (fun c7 => ?_)
  · refine aw_iconst dX3_shipIn_38 (by decide) ?_
    refine aw_iret dX3_shipIn_39 rfl ?_
    exact k _ (fst_no hno (by omega))
  · refine a_al0 (am_sh_rg hb) dX3_shipIn_10 ?_
    refine a_il3 dX3_shipIn_11 ?_
    refine aw_iconst dX3_shipIn_12 (by decide) ?_
    refine aw_callV 1 0 0 dX3_shipIn_13 yw_X3_get ml_X3_100 in_X3_get se_X3_get (ci := 2) rfl (am_sh_at hb) (as := [_, _]) rfl rfl ⟨by decide, by decide, by decide, Nat.le_of_ble_eq_true rfl⟩ ?_
    refine ac_get hB (by omega) (by decide) ?_
    refine am_ci ?_
    refine a_il1 dX3_shipIn_16 ?_
    refine aw_icmp_ne 32 dX3_shipIn_17 (by decide) (fun c17 => ?_) (fun c17 => ?_)
    · refine a_iiR3 (by omega) rfl rfl dX3_shipIn_32 ?_
      refine aw_goto 2 dX3_shipIn_35 (by decide) ?_
      exact ih (i + 1) ⟨by omega, by omega, fst_nxt hno (by unfold cAt; omega)⟩ (by omega)
    · refine a_al0 (am_sh_rg hb) dX3_shipIn_20 ?_
      refine a_il3 dX3_shipIn_21 ?_
      refine aw_iconst dX3_shipIn_22 (by decide) ?_
      refine aw_callV 1 0 0 dX3_shipIn_23 yw_X3_get ml_X3_100 in_X3_get se_X3_get (ci := 2) rfl (am_sh_at hb) (as := [_, _]) rfl rfl ⟨by decide, by decide, by decide, Nat.le_of_ble_eq_true rfl⟩ ?_
      refine ac_get hB (by omega) (by decide) ?_
      refine am_ci ?_
      refine a_il2 dX3_shipIn_26 ?_
      refine aw_icmp_ne 32 dX3_shipIn_27 (by decide) (fun c27 => ?_) (fun c27 => ?_)
      · refine a_iiR3 (by omega) rfl rfl dX3_shipIn_32 ?_
        refine aw_goto 2 dX3_shipIn_35 (by decide) ?_
        exact ih (i + 1) ⟨by omega, by omega, fst_nxt hno (by unfold cAt; omega)⟩ (by omega)
      · refine a_il3 dX3_shipIn_30 ?_
        refine aw_iret dX3_shipIn_31 rfl ?_
        exact k _ (fst_yes hno h0 (by omega) (by unfold cAt; omega))
theorem ac_shipNamed {b nm : Int} {h : AH} {K : AO → Nat → AH → Prop} (hB : b = 5 ∨ b = 15) (hn : 0 ≤ h b 3 ∧ h b 3 ≤ 12) (k : ∀ x, isFst (fun j => h (b + 1) j = nm) (h b 3) x → K (.inl (some (0, x))) 159 h) : AC mX3_shipNamed 1 0 0 159 [(2, b), (1, nm)] h K := by
  have hb := sh_ab hB
  refine ac_of (ls := [(2, b), (1, nm), (9, 0), (9, 0)]) pn_X3 rfl (Nat.le_of_ble_eq_true rfl) rfl ?_
  refine aw_iconst dX3_shipNamed_0 (by decide) ?_
  refine a_is3 rfl rfl dX3_shipNamed_1 ?_
  refine aw_loop (fun i : Int => 0 ≤ i ∧ i ≤ h b 3 ∧ ∀ j, 0 ≤ j → j < i → ¬ h (b + 1) j = nm) (fun i => (h b 3 - i).toNat) (fun i => AW mX3_shipNamed 1 0 0 K 159 2 [(2, b), (1, nm), (9, 0), (0, i)] [] h) (fun i hi ih => ?_) 0 ⟨by omega, by omega, fun j _ _ => by omega⟩
  obtain ⟨h0, h1, hno⟩ := hi
  refine a_il3 dX3_shipNamed_2 ?_
  refine a_al0 (am_sh_rg hb) dX3_shipNamed_3 ?_
  refine aw_get 3 dX3_shipNamed_4 fl_X3_50 (am_sh_at hb) rfl ?_
  refine aw_icmp_ge 29 dX3_shipNamed_7 (by decide) (fun c7 => ?_) (fun c7 => ?_)
  · refine aw_iconst dX3_shipNamed_29 (by decide) ?_
    refine aw_iret dX3_shipNamed_30 rfl ?_
    exact k _ (fst_no hno (by omega))
  · refine a_al0 (am_sh_rg hb) dX3_shipNamed_10 ?_
    refine aw_shR 9 1 hb dX3_shipNamed_11 fl_X3_9 (by decide) ?_
    refine a_il3 dX3_shipNamed_14 ?_
    refine aw_lald dX3_shipNamed_15 (am_sa_1 hb) (by omega) ?_
    refine a_ll1 dX3_shipNamed_16 ?_
    refine aw_lcmp dX3_shipNamed_17 ?_
    refine aw_if_ne 23 dX3_shipNamed_18 (by decide) (fun c18 => ?_) (fun c18 => ?_)
    · have e : ¬ h (b + 1) i = nm := fun e => by
        have c9 : ¬ (if h (b + 1) i < nm then -1 else if h (b + 1) i = nm then 0 else 1) = (0 : Int) := by assumption
        rw [if_neg (by omega), if_pos e] at c9
        exact c9 rfl
      refine a_iiR3 (by omega) rfl rfl dX3_shipNamed_23 ?_
      refine aw_goto 2 dX3_shipNamed_26 (by decide) ?_
      exact ih (i + 1) ⟨by omega, by omega, fst_nxt hno e⟩ (by omega)
    · have e : h (b + 1) i = nm := by
        have c9 : (if h (b + 1) i < nm then -1 else if h (b + 1) i = nm then 0 else 1) = (0 : Int) := by assumption
        split at c9
        · omega
        · split at c9
          · assumption
          · omega
      refine a_il3 dX3_shipNamed_21 ?_
      refine aw_iret dX3_shipNamed_22 rfl ?_
      exact k _ (fst_yes hno h0 (by omega) e)
theorem ac_growth {b i d : Int} {h : AH} {K : AO → Nat → AH → Prop} (hB : b = 5 ∨ b = 15) (hi : 0 ≤ i ∧ i ≤ 11) (hd : 0 ≤ d ∧ d ≤ 7) (h5 : 0 ≤ h b 5 ∧ h b 5 ≤ 7) (h6 : 0 ≤ h b 6 ∧ h b 6 ≤ 9) (hs : 0 ≤ h (b + 2) (i * 11 + 6) ∧ h (b + 2) (i * 11 + 6) ≤ 9) (k : K (.inl (some (0, h (b + 2) (i * 11 + 6) * h b 6 * tab0 (ang d (h b 5))))) 159 h) : AC mX3_growth 2 0 0 159 [(2, b), (0, i), (0, d)] h K := by
  have hb := sh_ab hB
  have p1 := mulr hs h6
  have p2 := mulr p1 (tab0_r (ang d (h b 5)))
  have p3 := ang_rg d (h b 5)
  refine ac_of (ls := [(2, b), (0, i), (0, d)]) pn_X3 rfl (Nat.le_of_ble_eq_true rfl) rfl ?_
  refine a_al0 (am_sh_rg hb) dX3_growth_0 ?_
  refine a_il1 dX3_growth_1 ?_
  refine aw_bipush dX3_growth_2 (by decide) ?_
  refine aw_callV 1 0 0 dX3_growth_4 yw_X3_get ml_X3_100 in_X3_get se_X3_get (ci := 2) rfl (am_sh_at hb) (as := [_, _]) rfl rfl ⟨by decide, by decide, by decide, Nat.le_of_ble_eq_true rfl⟩ ?_
  refine ac_get hB hi (by decide) ?_
  refine am_ci ?_
  refine a_al0 (am_sh_rg hb) dX3_growth_7 ?_
  refine aw_get 6 dX3_growth_8 fl_X3_59 (am_sh_at hb) rfl ?_
  refine aw_imulR (by omega) dX3_growth_11 ?_
  refine aw_gets (i := 0) dX3_growth_12 rfl gs_X3_127 1000 rfl ?_
  refine a_il2 dX3_growth_15 ?_
  refine a_al0 (am_sh_rg hb) dX3_growth_16 ?_
  refine aw_get 5 dX3_growth_17 fl_X3_56 (am_sh_at hb) rfl ?_
  refine aw_callSN 1 0 0 dX3_growth_20 yw_X8_angleOf ml_X3_130 sm_X8_angleOf (as := [_, _]) rfl rfl ⟨by decide, by decide, by decide, Nat.le_of_ble_eq_true rfl⟩ ?_
  refine ac_angleOf hd h5 ?_
  refine am_ci ?_
  refine aw_tab0 dX3_growth_23 (by omega) ?_
  refine aw_imulR (by omega) dX3_growth_24 ?_
  refine aw_iret dX3_growth_25 rfl ?_
  exact k
theorem ac_shiftNumber {b r w : Int} {h : AH} {K : AO → Nat → AH → Prop} (hB : b = 5 ∨ b = 15) (hr : 0 ≤ r ∧ r ≤ 7) (hw : 0 ≤ w ∧ w ≤ 2) (k : K (.inl (some (0, h (b + 4) (r * 3 + w)))) 159 h) : AC mX3_shiftNumber 1 0 0 159 [(2, b), (0, r), (0, w)] h K := by
  have hb := sh_ab hB
  refine ac_of (ls := [(2, b), (0, r), (0, w)]) pn_X3 rfl (Nat.le_of_ble_eq_true rfl) rfl ?_
  refine a_al0 (am_sh_rg hb) dX3_shiftNumber_0 ?_
  refine aw_shR 12 4 hb dX3_shiftNumber_1 fl_X3_22 (by decide) ?_
  refine a_il1 dX3_shiftNumber_4 ?_
  refine aw_iconst dX3_shiftNumber_5 (by decide) ?_
  refine aw_imulR (by omega) dX3_shiftNumber_6 ?_
  refine a_il2 dX3_shiftNumber_7 ?_
  refine aw_iaddR (by omega) dX3_shiftNumber_8 ?_
  refine aw_iald dX3_shiftNumber_9 (am_sa_4 hb) (by omega) ?_
  refine aw_iret dX3_shiftNumber_10 rfl ?_
  exact k
def cSh (h : AH) (b t j : Int) : Prop := h (b + 4) (j * 3 + 0) = t
theorem ac_shiftOfC {b t : Int} {h : AH} {K : AO → Nat → AH → Prop} (hB : b = 5 ∨ b = 15) (hn : 0 ≤ h b 7 ∧ h b 7 ≤ 8) (k : ∀ x, isFst (cSh h b t) (h b 7) x → K (.inl (some (0, x))) 159 h) : AC mX3_shiftOf 2 0 0 159 [(2, b), (0, t)] h K := by
  have hb := sh_ab hB
  refine ac_of (ls := [(2, b), (0, t), (9, 0)]) pn_X3 rfl (Nat.le_of_ble_eq_true rfl) rfl ?_
  refine aw_iconst dX3_shiftOf_0 (by decide) ?_
  refine a_is2 rfl rfl dX3_shiftOf_1 ?_
  refine aw_loop (fun i : Int => 0 ≤ i ∧ i ≤ h b 7 ∧ ∀ j, 0 ≤ j → j < i → ¬ cSh h b t j) (fun i => (h b 7 - i).toNat) (fun i => AW mX3_shiftOf 2 0 0 K 159 2 [(2, b), (0, t), (0, i)] [] h) (fun i hi ih => ?_) 0 ⟨by omega, by omega, fun j _ _ => by omega⟩
  obtain ⟨h0, h1, hno⟩ := hi
  refine a_il2 dX3_shiftOf_2 ?_
  refine a_al0 (am_sh_rg hb) dX3_shiftOf_3 ?_
  refine aw_get 7 dX3_shiftOf_4 fl_X3_62 (am_sh_at hb) rfl ?_
  refine aw_icmp_ge 28 dX3_shiftOf_7 (by decide) (fun c7 => ?_) (fun c7 => ?_)
  · refine aw_iconst dX3_shiftOf_28 (by decide) ?_
    refine aw_iret dX3_shiftOf_29 rfl ?_
    exact k _ (fst_no hno (by omega))
  · refine a_al0 (am_sh_rg hb) dX3_shiftOf_10 ?_
    refine a_il2 dX3_shiftOf_11 ?_
    refine aw_iconst dX3_shiftOf_12 (by decide) ?_
    refine aw_callV 1 0 0 dX3_shiftOf_13 yw_X3_shiftNumber ml_X3_139 in_X3_shiftNumber se_X3_shiftNumber (ci := 2) rfl (am_sh_at hb) (as := [_, _]) rfl rfl ⟨by decide, by decide, by decide, Nat.le_of_ble_eq_true rfl⟩ ?_
    refine ac_shiftNumber hB (by omega) (by decide) ?_
    refine am_ci ?_
    refine a_il1 dX3_shiftOf_16 ?_
    refine aw_icmp_ne 22 dX3_shiftOf_17 (by decide) (fun c17 => ?_) (fun c17 => ?_)
    · refine a_iiR2 (by omega) rfl rfl dX3_shiftOf_22 ?_
      refine aw_goto 2 dX3_shiftOf_25 (by decide) ?_
      exact ih (i + 1) ⟨by omega, by omega, fst_nxt hno (by unfold cSh; omega)⟩ (by omega)
    · refine a_il2 dX3_shiftOf_20 ?_
      refine aw_iret dX3_shiftOf_21 rfl ?_
      exact k _ (fst_yes hno h0 (by omega) (by unfold cSh; omega))
def cShift (h : AH) (b x : Int) : AH := if x = -1 then h else up (up h b 5 (h (b + 4) (x * 3 + 1))) b 6 (h (b + 4) (x * 3 + 2))
theorem ac_shiftWind {b : Int} {h : AH} {K : AO → Nat → AH → Prop} (hB : b = 5 ∨ b = 15) (hn : 0 ≤ h b 7 ∧ h b 7 ≤ 8) (k : ∀ x, isFst (cSh h b (h b 4)) (h b 7) x → K (.inl none) 159 (cShift h b x)) : AC mX3_shiftWind 3 0 0 159 [(2, b)] h K := by
  have hb := sh_ab hB
  refine ac_of (ls := [(2, b), (9, 0)]) pn_X3 rfl (Nat.le_of_ble_eq_true rfl) rfl ?_
  refine a_al0 (am_sh_rg hb) dX3_shiftWind_0 ?_
  refine a_al0 (am_sh_rg hb) dX3_shiftWind_1 ?_
  refine aw_get 4 dX3_shiftWind_2 fl_X3_53 (am_sh_at hb) rfl ?_
  refine aw_callV 2 0 0 dX3_shiftWind_5 yw_X3_shiftOf ml_X3_142 in_X3_shiftOf se_X3_shiftOf (ci := 2) rfl (am_sh_at hb) (as := [_]) rfl rfl ⟨by decide, by decide, by decide, Nat.le_of_ble_eq_true rfl⟩ ?_
  refine ac_shiftOfC hB hn (fun x hx => ?_)
  have h9 := k x hx
  unfold cShift at h9
  by_cases e : x = -1
  · rw [if_pos e] at h9
    refine am_ci ?_
    refine a_is1 rfl rfl dX3_shiftWind_8 ?_
    refine a_il1 dX3_shiftWind_9 ?_
    refine aw_iconst dX3_shiftWind_10 (by decide) ?_
    refine aw_icmp_eq 34 dX3_shiftWind_11 (by decide) (fun c11 => ?_) (fun c11 => ?_)
    · refine aw_vret dX3_shiftWind_34 rfl ?_
      exact h9
    · exfalso; omega
  · have hx2 : 0 ≤ x ∧ x < h b 7 := by
      rcases hx with y | y
      · exact ⟨y.1, y.2.1⟩
      · exact absurd y.1 e
    rw [if_neg e] at h9
    refine am_ci ?_
    refine a_is1 rfl rfl dX3_shiftWind_8 ?_
    refine a_il1 dX3_shiftWind_9 ?_
    refine aw_iconst dX3_shiftWind_10 (by decide) ?_
    refine aw_icmp_eq 34 dX3_shiftWind_11 (by decide) (fun c11 => ?_) (fun c11 => ?_)
    · exfalso; omega
    · refine a_al0 (am_sh_rg hb) dX3_shiftWind_14 ?_
      refine a_al0 (am_sh_rg hb) dX3_shiftWind_15 ?_
      refine a_il1 dX3_shiftWind_16 ?_
      refine aw_iconst dX3_shiftWind_17 (by decide) ?_
      refine aw_callV 1 0 0 dX3_shiftWind_18 yw_X3_shiftNumber ml_X3_139 in_X3_shiftNumber se_X3_shiftNumber (ci := 2) rfl (am_sh_at hb) (as := [_, _]) rfl rfl ⟨by decide, by decide, by decide, Nat.le_of_ble_eq_true rfl⟩ ?_
      refine ac_shiftNumber hB (by omega) (by decide) ?_
      refine am_ci ?_
      refine aw_put 5 dX3_shiftWind_21 fp_X3_56 (am_sh_at hb) rfl ?_
      refine a_al0 (am_sh_rg hb) dX3_shiftWind_24 ?_
      refine a_al0 (am_sh_rg hb) dX3_shiftWind_25 ?_
      refine a_il1 dX3_shiftWind_26 ?_
      refine aw_iconst dX3_shiftWind_27 (by decide) ?_
      refine aw_callV 1 0 0 dX3_shiftWind_28 yw_X3_shiftNumber ml_X3_139 in_X3_shiftNumber se_X3_shiftNumber (ci := 2) rfl (am_sh_at hb) (as := [_, _]) rfl rfl ⟨by decide, by decide, by decide, Nat.le_of_ble_eq_true rfl⟩ ?_
      refine ac_shiftNumber hB (by omega) (by decide) ?_
      refine am_ci ?_
      try simp (disch := omega) only [up_at, up_ne]
      refine aw_put 6 dX3_shiftWind_31 fp_X3_59 (am_sh_at hb) rfl ?_
      refine aw_vret dX3_shiftWind_34 rfl ?_
      exact h9
theorem ac_hasSealed {b f : Int} {h : AH} {K : AO → Nat → AH → Prop} (hB : b = 5 ∨ b = 15) (hf : 0 ≤ f ∧ f ≤ 3) (k1 : ¬ h (b + 7) f = -1 → K (.inl (some (0, 1))) 159 h) (k0 : h (b + 7) f = -1 → K (.inl (some (0, 0))) 159 h) : AC mX3_hasSealed 1 0 0 159 [(2, b), (0, f)] h K := by
  have hb := sh_ab hB
  refine ac_of (ls := [(2, b), (0, f)]) pn_X3 rfl (Nat.le_of_ble_eq_true rfl) rfl ?_
  refine a_al0 (am_sh_rg hb) dX3_hasSealed_0 ?_
  refine aw_shR 15 7 hb dX3_hasSealed_1 fl_X3_31 (by decide) ?_
  refine a_il1 dX3_hasSealed_4 ?_
  refine aw_iald dX3_hasSealed_5 (am_sa_7 hb) (by omega) ?_
  refine aw_iconst dX3_hasSealed_6 (by decide) ?_
  refine aw_icmp_eq 14 dX3_hasSealed_7 (by decide) (fun c7 => ?_) (fun c7 => ?_)
  · refine aw_iconst dX3_hasSealed_14 (by decide) ?_
    refine aw_zret dX3_hasSealed_15 rfl (by omega) ?_
    exact k0 (by assumption)
  · refine aw_iconst dX3_hasSealed_10 (by decide) ?_
    refine aw_goto 15 dX3_hasSealed_11 (by decide) ?_
    refine aw_zret dX3_hasSealed_15 rfl (by omega) ?_
    exact k1 (by assumption)
abbrev cLg (h : AH) (b t : Int) : Prop := 0 ≤ t ∧ h b 4 - 10 ≤ t ∧ t < h b 4
theorem ac_isLogged {b t : Int} {h : AH} {K : AO → Nat → AH → Prop} (hB : b = 5 ∨ b = 15) (h4 : 0 ≤ h b 4 ∧ h b 4 ≤ 100000) (k1 : cLg h b t → K (.inl (some (0, 1))) 159 h) (k0 : ¬ cLg h b t → K (.inl (some (0, 0))) 159 h) : AC mX3_isLogged 1 0 0 159 [(2, b), (0, t)] h K := by
  have hb := sh_ab hB
  refine ac_of (ls := [(2, b), (0, t)]) pn_X3 rfl (Nat.le_of_ble_eq_true rfl) rfl ?_
  refine a_il1 dX3_isLogged_0 ?_
  refine aw_if_lt 27 dX3_isLogged_1 (by decide) (fun c1 => ?_) (fun c1 => ?_)
  · refine aw_iconst dX3_isLogged_27 (by decide) ?_
    refine aw_zret dX3_isLogged_28 rfl (by omega) ?_
    exact k0 (by omega)
  · refine a_il1 dX3_isLogged_4 ?_
    refine a_al0 (am_sh_rg hb) dX3_isLogged_5 ?_
    refine aw_get 4 dX3_isLogged_6 fl_X3_53 (am_sh_at hb) rfl ?_
    refine aw_bipush dX3_isLogged_9 (by decide) ?_
    refine aw_isubR (by omega) dX3_isLogged_11 ?_
    refine aw_icmp_lt 27 dX3_isLogged_12 (by decide) (fun c12 => ?_) (fun c12 => ?_)
    · refine aw_iconst dX3_isLogged_27 (by decide) ?_
      refine aw_zret dX3_isLogged_28 rfl (by omega) ?_
      exact k0 (by omega)
    · refine a_il1 dX3_isLogged_15 ?_
      refine a_al0 (am_sh_rg hb) dX3_isLogged_16 ?_
      refine aw_get 4 dX3_isLogged_17 fl_X3_53 (am_sh_at hb) rfl ?_
      refine aw_icmp_ge 27 dX3_isLogged_20 (by decide) (fun c20 => ?_) (fun c20 => ?_)
      · refine aw_iconst dX3_isLogged_27 (by decide) ?_
        refine aw_zret dX3_isLogged_28 rfl (by omega) ?_
        exact k0 (by omega)
      · refine aw_iconst dX3_isLogged_23 (by decide) ?_
        refine aw_goto 28 dX3_isLogged_24 (by decide) ?_
        refine aw_zret dX3_isLogged_28 rfl (by omega) ?_
        exact k1 (by omega)
theorem ac_beginTurn {b : Int} {h : AH} {K : AO → Nat → AH → Prop} (hB : b = 5 ∨ b = 15) (k : K (.inl none) 159 (fillH (fillH h (b + 3) 12 37449) (b + 7) 4 (-1))) : AC mX3_beginTurn 2 0 0 159 [(2, b)] h K := by
  have hb := sh_ab hB
  refine ac_of (ls := [(2, b)]) pn_X3 rfl (Nat.le_of_ble_eq_true rfl) rfl ?_
  refine a_al0 (am_sh_rg hb) dX3_beginTurn_0 ?_
  refine aw_shR 11 3 hb dX3_beginTurn_1 fl_X3_19 (by decide) ?_
  refine aw_ldc dX3_beginTurn_4 kc_X3_79 (by decide) ?_
  refine aw_callS 1 0 0 dX3_beginTurn_6 yw_J7_fill_53178 ml_X3_68 sm_J7_fill_53178 (as := [_, _]) rfl rfl ⟨by decide, by decide, by decide, Nat.le_of_ble_eq_true rfl⟩ ?_
  refine ac_fill (by decide) (am_sa_3 hb) (by decide) ?_
  refine am_cv ?_
  refine a_al0 (am_sh_rg hb) dX3_beginTurn_9 ?_
  refine aw_shR 15 7 hb dX3_beginTurn_10 fl_X3_31 (by decide) ?_
  try simp (disch := omega) only [up_at, up_ne]
  refine aw_iconst dX3_beginTurn_13 (by decide) ?_
  refine aw_callS 1 0 0 dX3_beginTurn_14 yw_J7_fill_53178 ml_X3_68 sm_J7_fill_53178 (as := [_, _]) rfl rfl ⟨by decide, by decide, by decide, Nat.le_of_ble_eq_true rfl⟩ ?_
  refine ac_fill (by decide) (am_sa_7 hb) (by decide) ?_
  refine am_cv ?_
  refine aw_vret dX3_beginTurn_17 rfl ?_
  exact k
def clrF (h : AH) (b : Int) : AH := up (up (up (up (up (up (up (up (up h b 0 0) b 1 0) b 2 0) b 3 0) b 4 0) b 5 0) b 6 5) b 7 0) b 8 0
theorem ac_clear {b : Int} {h : AH} {K : AO → Nat → AH → Prop} (hB : b = 5 ∨ b = 15) (k : K (.inl none) 159 (fillH (fillH (fillH (clrF h b) (b + 6) 4 0) (b + 3) 12 37449) (b + 7) 4 (-1))) : AC mX3_clear 3 0 0 159 [(2, b)] h K := by
  have hb := sh_ab hB
  refine ac_of (ls := [(2, b)]) pn_X3 rfl (Nat.le_of_ble_eq_true rfl) rfl ?_
  refine a_al0 (am_sh_rg hb) dX3_clear_0 ?_
  refine aw_iconst dX3_clear_1 (by decide) ?_
  refine aw_put 0 dX3_clear_2 fp_X3_40 (am_sh_at hb) rfl ?_
  refine a_al0 (am_sh_rg hb) dX3_clear_5 ?_
  refine aw_iconst dX3_clear_6 (by decide) ?_
  refine aw_put 1 dX3_clear_7 fp_X3_44 (am_sh_at hb) rfl ?_
  refine a_al0 (am_sh_rg hb) dX3_clear_10 ?_
  refine aw_iconst dX3_clear_11 (by decide) ?_
  refine aw_put 2 dX3_clear_12 fp_X3_47 (am_sh_at hb) rfl ?_
  refine a_al0 (am_sh_rg hb) dX3_clear_15 ?_
  refine aw_iconst dX3_clear_16 (by decide) ?_
  refine aw_put 3 dX3_clear_17 fp_X3_50 (am_sh_at hb) rfl ?_
  refine a_al0 (am_sh_rg hb) dX3_clear_20 ?_
  refine aw_iconst dX3_clear_21 (by decide) ?_
  refine aw_put 4 dX3_clear_22 fp_X3_53 (am_sh_at hb) rfl ?_
  refine a_al0 (am_sh_rg hb) dX3_clear_25 ?_
  refine aw_iconst dX3_clear_26 (by decide) ?_
  refine aw_put 5 dX3_clear_27 fp_X3_56 (am_sh_at hb) rfl ?_
  refine a_al0 (am_sh_rg hb) dX3_clear_30 ?_
  refine aw_iconst dX3_clear_31 (by decide) ?_
  refine aw_put 6 dX3_clear_32 fp_X3_59 (am_sh_at hb) rfl ?_
  refine a_al0 (am_sh_rg hb) dX3_clear_35 ?_
  refine aw_iconst dX3_clear_36 (by decide) ?_
  refine aw_put 7 dX3_clear_37 fp_X3_62 (am_sh_at hb) rfl ?_
  refine a_al0 (am_sh_rg hb) dX3_clear_40 ?_
  refine aw_iconst dX3_clear_41 (by decide) ?_
  refine aw_put 8 dX3_clear_42 fp_X3_65 (am_sh_at hb) rfl ?_
  refine a_al0 (am_sh_rg hb) dX3_clear_45 ?_
  refine aw_shR 14 6 hb dX3_clear_46 fl_X3_28 (by decide) ?_
  try simp (disch := omega) only [up_at, up_ne]
  refine aw_iconst dX3_clear_49 (by decide) ?_
  refine aw_callS 1 0 0 dX3_clear_50 yw_J7_fill_53178 ml_X3_68 sm_J7_fill_53178 (as := [_, _]) rfl rfl ⟨by decide, by decide, by decide, Nat.le_of_ble_eq_true rfl⟩ ?_
  refine ac_fill (by decide) (am_sa_6 hb) (by decide) ?_
  refine am_cv ?_
  refine a_al0 (am_sh_rg hb) dX3_clear_53 ?_
  refine aw_callV 2 0 0 dX3_clear_54 yw_X3_beginTurn ml_X3_74 in_X3_beginTurn se_X3_beginTurn (ci := 2) rfl (am_sh_at hb) (as := []) rfl rfl ⟨by decide, by decide, by decide, Nat.le_of_ble_eq_true rfl⟩ ?_
  refine ac_beginTurn hB ?_
  refine am_cv ?_
  refine aw_vret dX3_clear_57 rfl ?_
  exact k
