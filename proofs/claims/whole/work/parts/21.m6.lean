/-! the model: a ship's letter, who clashes -/
theorem up_self (h : AH) (k j : Int) : up h k j (h k j) = h := by
  funext k' j'
  unfold up
  split
  · rename_i q; rw [q.1, q.2]
  · rfl
theorem up_up (h : AH) (k j v w : Int) : up (up h k j v) k j w = up h k j w := by
  funext k' j'
  unfold up
  split <;> rfl
theorem up_comm (h : AH) {k j v k' j' w : Int} (hne : ¬ (k' = k ∧ j' = j)) : up (up h k j v) k' j' w = up (up h k' j' w) k j v := by
  funext k2 j2
  unfold up
  by_cases a : k2 = k' ∧ j2 = j'
  · rw [if_pos a, if_neg (by omega), if_pos a]
  · rw [if_neg a]
    by_cases b : k2 = k ∧ j2 = j
    · rw [if_pos b, if_pos b]
    · rw [if_neg b, if_neg b, if_neg a]
def goH (h : AH) (i l : Int) : AH := up (up h 141 (46 + 25 * i + 9) (gSi l (h 141 (46 + 25 * i + 9)) (h 141 (46 + 25 * i + 7)))) 141 (46 + 25 * i + 3) (gHd l (h 141 (46 + 25 * i + 9)) (h 141 (46 + 25 * i + 7)) (h 141 (46 + 25 * i + 3)))
theorem gHd_rg {l s st hd : Int} (h : 0 ≤ hd ∧ hd ≤ 7) : 0 ≤ gHd l s st hd ∧ gHd l s st hd ≤ 7 := by unfold gHd; split <;> omega
theorem gSi_rg {l s st : Int} (h : 0 ≤ s ∧ s ≤ 4) : 0 ≤ gSi l s st ∧ gSi l s st ≤ 4 := by unfold gSi mn; split <;> (try split) <;> omega
theorem shOk_goH {h : AH} {i l : Int} (hs : shOk h i) : shOk (goH h i l) i := by
  obtain ⟨s1, s2, s3, s6, s7, s8, s9⟩ := hs
  unfold shOk goH
  simp (disch := omega) only [up_at, up_ne]
  exact ⟨s1, s2, gHd_rg s3, s6, s7, s8, gSi_rg s9⟩
theorem bdOk_goH {h : AH} {i l : Int} (hi : 0 ≤ i) (hb : bdOk h) : bdOk (goH h i l) := by
  unfold bdOk goH
  simp (disch := omega) only [up_at, up_ne]
  exact hb
theorem ac_goes {i l : Int} {h : AH} {K : AO → Nat → AH → Prop} (hi : 0 ≤ i ∧ i ≤ 11) (hl : 1 ≤ l ∧ l ≤ 4) (hs : shOk h i) (hb : bdOk h) (k : ∀ h' x, GoneT (goH h i l) i l h' x → K (.inl (some (0, x))) 159 h') : AC mX9_goes 4 0 0 159 [(2, 140), (0, i), (0, l)] h K := by
  have J := go_tail (l := l) hi hl (shOk_goH (l := l) hs) (bdOk_goH (l := l) hi.1 hb) k
  obtain ⟨s1, s2, s3, s6, s7, s8, s9⟩ := hs
  have hm : 0 ≤ mn 4 (h 141 (46 + 25 * i + 9) + 1) ∧ mn 4 (h 141 (46 + 25 * i + 9) + 1) ≤ 4 := by unfold mn; split <;> omega
  have hnt : ¬ ((l = 2 ∨ l = 3) ∧ h 141 (46 + 25 * i + 7) < mn 4 (h 141 (46 + 25 * i + 9) + 1)) → goH h i l = up h 141 (46 + 25 * i + 9) (mn 4 (h 141 (46 + 25 * i + 9) + 1)) := fun q => by
    unfold goH gSi gHd
    rw [if_neg q, if_neg q]
    have e := up_self (up h 141 (46 + 25 * i + 9) (mn 4 (h 141 (46 + 25 * i + 9) + 1))) 141 (46 + 25 * i + 3)
    rwa [up_ne (h := h) (by omega)] at e
  have htu : ((l = 2 ∨ l = 3) ∧ h 141 (46 + 25 * i + 7) < mn 4 (h 141 (46 + 25 * i + 9) + 1)) → goH h i l = up (up (up h 141 (46 + 25 * i + 9) (mn 4 (h 141 (46 + 25 * i + 9) + 1))) 141 (46 + 25 * i + 3) ((h 141 (46 + 25 * i + 3) + (if l = 2 then 7 else 1)) % 8)) 141 (46 + 25 * i + 9) 0 := fun q => by
    unfold goH gSi gHd
    rw [if_pos q, if_pos q, up_comm (up h 141 (46 + 25 * i + 9) _) (by omega), up_up]
  refine ac_of (ls := [(2, 140), (0, i), (0, l)]) pn_X9 rfl (Nat.le_of_ble_eq_true rfl) rfl ?_
  refine a_al0 (by decide) dX9_goes_0 ?_
  refine a_il1 dX9_goes_1 ?_
  refine aw_bipush dX9_goes_2 (by decide) ?_
  refine aw_iconst dX9_goes_4 (by decide) ?_
  refine a_al0 (by decide) dX9_goes_5 ?_
  refine a_il1 dX9_goes_6 ?_
  refine aw_bipush dX9_goes_7 (by decide) ?_
  refine aw_callV 1 0 0 dX9_goes_9 yw_X9_of ml_X9_213 in_X9_of se_X9_of (ci := 8) rfl at_140 (as := [_, _]) rfl rfl ⟨by decide, by decide, by decide, Nat.le_of_ble_eq_true rfl⟩ ?_
  refine ac_of_ (by omega) (by decide) ?_
  refine am_ci ?_
  refine aw_iconst dX9_goes_12 (by decide) ?_
  refine aw_iaddR (by omega) dX9_goes_13 ?_
  refine aw_mmin dX9_goes_14 ⟨ml_X9_114, mw_min⟩ ⟨by decide, Nat.le_of_ble_eq_true rfl⟩ ?_
  refine aw_callV 1 0 0 dX9_goes_17 yw_X9_sets ml_X9_228 in_X9_sets se_X9_sets (ci := 8) rfl at_140 (as := [_, _, _]) rfl rfl ⟨by decide, by decide, by decide, Nat.le_of_ble_eq_true rfl⟩ ?_
  refine ac_sets (by omega) (by decide) ?_
  rw [show (if h 141 (46 + 25 * i + 9) + 1 < 4 then h 141 (46 + 25 * i + 9) + 1 else 4) = mn 4 (h 141 (46 + 25 * i + 9) + 1) from rfl]
  have P30 : (l = 2 ∨ l = 3) → AW mX9_goes 4 0 0 K 159 30 [(2, 140), (0, i), (0, l)] [] (up h 141 (46 + 25 * i + 9) (mn 4 (h 141 (46 + 25 * i + 9) + 1))) := fun ql => by
    refine a_al0 (by decide) dX9_goes_30 ?_
    refine a_il1 dX9_goes_31 ?_
    refine aw_bipush dX9_goes_32 (by decide) ?_
    refine aw_callV 1 0 0 dX9_goes_34 yw_X9_of ml_X9_213 in_X9_of se_X9_of (ci := 8) rfl at_140 (as := [_, _]) rfl rfl ⟨by decide, by decide, by decide, Nat.le_of_ble_eq_true rfl⟩ ?_
    refine ac_of_ (by omega) (by decide) ?_
    refine am_ci ?_
    try simp (disch := omega) only [up_at, up_ne]
    refine a_al0 (by decide) dX9_goes_37 ?_
    refine a_il1 dX9_goes_38 ?_
    refine aw_bipush dX9_goes_39 (by decide) ?_
    refine aw_callV 1 0 0 dX9_goes_41 yw_X9_of ml_X9_213 in_X9_of se_X9_of (ci := 8) rfl at_140 (as := [_, _]) rfl rfl ⟨by decide, by decide, by decide, Nat.le_of_ble_eq_true rfl⟩ ?_
    refine ac_of_ (by omega) (by decide) ?_
    refine am_ci ?_
    try simp (disch := omega) only [up_at, up_ne]
    refine aw_icmp_le 82 dX9_goes_44 (by decide) (fun c44 => ?_) (fun c44 => ?_)
    · skip
      rw [← hnt (by omega)]
      exact J
    · refine a_al0 (by decide) dX9_goes_47 ?_
      refine a_il1 dX9_goes_48 ?_
      refine aw_iconst dX9_goes_49 (by decide) ?_
      refine a_al0 (by decide) dX9_goes_50 ?_
      refine a_il1 dX9_goes_51 ?_
      refine aw_iconst dX9_goes_52 (by decide) ?_
      refine aw_callV 1 0 0 dX9_goes_53 yw_X9_of ml_X9_213 in_X9_of se_X9_of (ci := 8) rfl at_140 (as := [_, _]) rfl rfl ⟨by decide, by decide, by decide, Nat.le_of_ble_eq_true rfl⟩ ?_
      refine ac_of_ (by omega) (by decide) ?_
      refine am_ci ?_
      try simp (disch := omega) only [up_at, up_ne]
      refine a_il2 dX9_goes_56 ?_
      refine aw_iconst dX9_goes_57 (by decide) ?_
      refine aw_icmp_ne 66 dX9_goes_58 (by decide) (fun c58 => ?_) (fun c58 => ?_)
      · refine aw_iconst dX9_goes_66 (by decide) ?_
        refine aw_iaddR (by omega) dX9_goes_67 ?_
        refine aw_bipush dX9_goes_68 (by decide) ?_
        refine aw_irem dX9_goes_70 (by omega) ?_
        refine aw_callV 1 0 0 dX9_goes_71 yw_X9_sets ml_X9_228 in_X9_sets se_X9_sets (ci := 8) rfl at_140 (as := [_, _, _]) rfl rfl ⟨by decide, by decide, by decide, Nat.le_of_ble_eq_true rfl⟩ ?_
        rw [show (h 141 (46 + 25 * i + 3) + 1).tmod 8 = (h 141 (46 + 25 * i + 3) + (if l = 2 then 7 else 1)) % 8 by rw [if_neg (by omega)]; exact Int.tmod_eq_emod_of_nonneg (by omega)]
        refine ac_sets (by omega) (by decide) ?_
        refine am_cv ?_
        refine a_al0 (by decide) dX9_goes_74 ?_
        refine a_il1 dX9_goes_75 ?_
        refine aw_bipush dX9_goes_76 (by decide) ?_
        refine aw_iconst dX9_goes_78 (by decide) ?_
        refine aw_callV 1 0 0 dX9_goes_79 yw_X9_sets ml_X9_228 in_X9_sets se_X9_sets (ci := 8) rfl at_140 (as := [_, _, _]) rfl rfl ⟨by decide, by decide, by decide, Nat.le_of_ble_eq_true rfl⟩ ?_
        refine ac_sets (by omega) (by decide) ?_
        refine am_cv ?_
        rw [← htu (by omega)]
        exact J
      · refine aw_bipush dX9_goes_61 (by decide) ?_
        refine aw_goto 67 dX9_goes_63 (by decide) ?_
        refine aw_iaddR (by omega) dX9_goes_67 ?_
        refine aw_bipush dX9_goes_68 (by decide) ?_
        refine aw_irem dX9_goes_70 (by omega) ?_
        refine aw_callV 1 0 0 dX9_goes_71 yw_X9_sets ml_X9_228 in_X9_sets se_X9_sets (ci := 8) rfl at_140 (as := [_, _, _]) rfl rfl ⟨by decide, by decide, by decide, Nat.le_of_ble_eq_true rfl⟩ ?_
        rw [show (h 141 (46 + 25 * i + 3) + 7).tmod 8 = (h 141 (46 + 25 * i + 3) + (if l = 2 then 7 else 1)) % 8 by rw [if_pos (by omega)]; exact Int.tmod_eq_emod_of_nonneg (by omega)]
        refine ac_sets (by omega) (by decide) ?_
        refine am_cv ?_
        refine a_al0 (by decide) dX9_goes_74 ?_
        refine a_il1 dX9_goes_75 ?_
        refine aw_bipush dX9_goes_76 (by decide) ?_
        refine aw_iconst dX9_goes_78 (by decide) ?_
        refine aw_callV 1 0 0 dX9_goes_79 yw_X9_sets ml_X9_228 in_X9_sets se_X9_sets (ci := 8) rfl at_140 (as := [_, _, _]) rfl rfl ⟨by decide, by decide, by decide, Nat.le_of_ble_eq_true rfl⟩ ?_
        refine ac_sets (by omega) (by decide) ?_
        refine am_cv ?_
        rw [← htu (by omega)]
        exact J
  refine am_cv ?_
  refine a_il2 dX9_goes_20 ?_
  refine aw_iconst dX9_goes_21 (by decide) ?_
  refine aw_icmp_eq 30 dX9_goes_22 (by decide) (fun c22 => ?_) (fun c22 => ?_)
  · skip
    exact P30 (by omega)
  · refine a_il2 dX9_goes_25 ?_
    refine aw_iconst dX9_goes_26 (by decide) ?_
    refine aw_icmp_ne 82 dX9_goes_27 (by decide) (fun c27 => ?_) (fun c27 => ?_)
    · skip
      rw [← hnt (by omega)]
      exact J
    · skip
      exact P30 (by omega)
abbrev mGW (h : AH) (i j : Int) : Prop := ¬ h 149 i = 0 ∧ h 150 i = h 141 (46 + 25 * j + 1) ∧ h 151 i = h 141 (46 + 25 * j + 2)
abbrev mG1 (h : AH) (i j : Int) : Prop := ¬ h 149 i = 0 ∧ ¬ h 149 j = 0 ∧ h 150 i = h 150 j ∧ h 151 i = h 151 j
def mCl (h : AH) (i j : Int) : Prop := h 141 (46 + 25 * i + 10) = -1 ∧ h 141 (46 + 25 * j + 10) = -1 ∧ (mG1 h i j ∨ ((¬ h 149 i = 0 ∧ ¬ h 149 j = 0) ∧ mGW h i j ∧ mGW h j i) ∨ (¬ (¬ h 149 i = 0 ∧ ¬ h 149 j = 0) ∧ (mGW h i j ∨ mGW h j i)))
theorem ac_goesWhere {i j : Int} {h : AH} {K : AO → Nat → AH → Prop} (hi : 0 ≤ i ∧ i ≤ 11) (hj : 0 ≤ j ∧ j ≤ 11) (k1 : mGW h i j → K (.inl (some (0, 1))) 159 h) (k0 : ¬ mGW h i j → K (.inl (some (0, 0))) 159 h) : AC mX9_goesWhere 2 0 0 159 [(2, 140), (0, i), (0, j)] h K := by
  refine ac_of (ls := [(2, 140), (0, i), (0, j)]) pn_X9 rfl (Nat.le_of_ble_eq_true rfl) rfl ?_
  refine a_al0 (by decide) dX9_goesWhere_0 ?_
  refine aw_getR (r := 149) 18 rfl dX9_goesWhere_1 fl_X9_39 at_140 rfl rfl ?_
  refine a_il1 dX9_goesWhere_4 ?_
  refine aw_zald dX9_goesWhere_5 ar_149 (by omega) ?_
  refine aw_if_eq 43 dX9_goesWhere_6 (by decide) (fun c6 => ?_) (fun c6 => ?_)
  · refine aw_iconst dX9_goesWhere_43 (by decide) ?_
    refine aw_zret dX9_goesWhere_44 rfl (by omega) ?_
    exact k0 (by unfold mGW; omega)
  · refine a_al0 (by decide) dX9_goesWhere_9 ?_
    refine aw_getR (r := 150) 19 rfl dX9_goesWhere_10 fl_X9_42 at_140 rfl rfl ?_
    refine a_il1 dX9_goesWhere_13 ?_
    refine aw_iald dX9_goesWhere_14 ar_150 (by omega) ?_
    refine a_al0 (by decide) dX9_goesWhere_15 ?_
    refine a_il2 dX9_goesWhere_16 ?_
    refine aw_iconst dX9_goesWhere_17 (by decide) ?_
    refine aw_callV 1 0 0 dX9_goesWhere_18 yw_X9_of ml_X9_213 in_X9_of se_X9_of (ci := 8) rfl at_140 (as := [_, _]) rfl rfl ⟨by decide, by decide, by decide, Nat.le_of_ble_eq_true rfl⟩ ?_
    refine ac_of_ (by omega) (by decide) ?_
    refine am_ci ?_
    refine aw_icmp_ne 43 dX9_goesWhere_21 (by decide) (fun c21 => ?_) (fun c21 => ?_)
    · refine aw_iconst dX9_goesWhere_43 (by decide) ?_
      refine aw_zret dX9_goesWhere_44 rfl (by omega) ?_
      exact k0 (by unfold mGW; omega)
    · refine a_al0 (by decide) dX9_goesWhere_24 ?_
      refine aw_getR (r := 151) 20 rfl dX9_goesWhere_25 fl_X9_45 at_140 rfl rfl ?_
      refine a_il1 dX9_goesWhere_28 ?_
      refine aw_iald dX9_goesWhere_29 ar_151 (by omega) ?_
      refine a_al0 (by decide) dX9_goesWhere_30 ?_
      refine a_il2 dX9_goesWhere_31 ?_
      refine aw_iconst dX9_goesWhere_32 (by decide) ?_
      refine aw_callV 1 0 0 dX9_goesWhere_33 yw_X9_of ml_X9_213 in_X9_of se_X9_of (ci := 8) rfl at_140 (as := [_, _]) rfl rfl ⟨by decide, by decide, by decide, Nat.le_of_ble_eq_true rfl⟩ ?_
      refine ac_of_ (by omega) (by decide) ?_
      refine am_ci ?_
      refine aw_icmp_ne 43 dX9_goesWhere_36 (by decide) (fun c36 => ?_) (fun c36 => ?_)
      · refine aw_iconst dX9_goesWhere_43 (by decide) ?_
        refine aw_zret dX9_goesWhere_44 rfl (by omega) ?_
        exact k0 (by unfold mGW; omega)
      · refine aw_iconst dX9_goesWhere_39 (by decide) ?_
        refine aw_goto 44 dX9_goesWhere_40 (by decide) ?_
        refine aw_zret dX9_goesWhere_44 rfl (by omega) ?_
        exact k1 (by unfold mGW; omega)
theorem ac_goToOne {i j : Int} {h : AH} {K : AO → Nat → AH → Prop} (hi : 0 ≤ i ∧ i ≤ 11) (hj : 0 ≤ j ∧ j ≤ 11) (k1 : mG1 h i j → K (.inl (some (0, 1))) 159 h) (k0 : ¬ mG1 h i j → K (.inl (some (0, 0))) 159 h) : AC mX9_goToOne 1 0 0 159 [(2, 140), (0, i), (0, j)] h K := by
  refine ac_of (ls := [(2, 140), (0, i), (0, j)]) pn_X9 rfl (Nat.le_of_ble_eq_true rfl) rfl ?_
  refine a_al0 (by decide) dX9_goToOne_0 ?_
  refine aw_getR (r := 149) 18 rfl dX9_goToOne_1 fl_X9_39 at_140 rfl rfl ?_
  refine a_il1 dX9_goToOne_4 ?_
  refine aw_zald dX9_goToOne_5 ar_149 (by omega) ?_
  refine aw_if_eq 52 dX9_goToOne_6 (by decide) (fun c6 => ?_) (fun c6 => ?_)
  · refine aw_iconst dX9_goToOne_52 (by decide) ?_
    refine aw_zret dX9_goToOne_53 rfl (by omega) ?_
    exact k0 (by unfold mG1; omega)
  · refine a_al0 (by decide) dX9_goToOne_9 ?_
    refine aw_getR (r := 149) 18 rfl dX9_goToOne_10 fl_X9_39 at_140 rfl rfl ?_
    refine a_il2 dX9_goToOne_13 ?_
    refine aw_zald dX9_goToOne_14 ar_149 (by omega) ?_
    refine aw_if_eq 52 dX9_goToOne_15 (by decide) (fun c15 => ?_) (fun c15 => ?_)
    · refine aw_iconst dX9_goToOne_52 (by decide) ?_
      refine aw_zret dX9_goToOne_53 rfl (by omega) ?_
      exact k0 (by unfold mG1; omega)
    · refine a_al0 (by decide) dX9_goToOne_18 ?_
      refine aw_getR (r := 150) 19 rfl dX9_goToOne_19 fl_X9_42 at_140 rfl rfl ?_
      refine a_il1 dX9_goToOne_22 ?_
      refine aw_iald dX9_goToOne_23 ar_150 (by omega) ?_
      refine a_al0 (by decide) dX9_goToOne_24 ?_
      refine aw_getR (r := 150) 19 rfl dX9_goToOne_25 fl_X9_42 at_140 rfl rfl ?_
      refine a_il2 dX9_goToOne_28 ?_
      refine aw_iald dX9_goToOne_29 ar_150 (by omega) ?_
      refine aw_icmp_ne 52 dX9_goToOne_30 (by decide) (fun c30 => ?_) (fun c30 => ?_)
      · refine aw_iconst dX9_goToOne_52 (by decide) ?_
        refine aw_zret dX9_goToOne_53 rfl (by omega) ?_
        exact k0 (by unfold mG1; omega)
      · refine a_al0 (by decide) dX9_goToOne_33 ?_
        refine aw_getR (r := 151) 20 rfl dX9_goToOne_34 fl_X9_45 at_140 rfl rfl ?_
        refine a_il1 dX9_goToOne_37 ?_
        refine aw_iald dX9_goToOne_38 ar_151 (by omega) ?_
        refine a_al0 (by decide) dX9_goToOne_39 ?_
        refine aw_getR (r := 151) 20 rfl dX9_goToOne_40 fl_X9_45 at_140 rfl rfl ?_
        refine a_il2 dX9_goToOne_43 ?_
        refine aw_iald dX9_goToOne_44 ar_151 (by omega) ?_
        refine aw_icmp_ne 52 dX9_goToOne_45 (by decide) (fun c45 => ?_) (fun c45 => ?_)
        · refine aw_iconst dX9_goToOne_52 (by decide) ?_
          refine aw_zret dX9_goToOne_53 rfl (by omega) ?_
          exact k0 (by unfold mG1; omega)
        · refine aw_iconst dX9_goToOne_48 (by decide) ?_
          refine aw_goto 53 dX9_goToOne_49 (by decide) ?_
          refine aw_zret dX9_goToOne_53 rfl (by omega) ?_
          exact k1 (by unfold mG1; omega)
theorem ac_clash {i j : Int} {h : AH} {K : AO → Nat → AH → Prop} (hi : 0 ≤ i ∧ i ≤ 11) (hj : 0 ≤ j ∧ j ≤ 11) (k1 : mCl h i j → K (.inl (some (0, 1))) 159 h) (k0 : ¬ mCl h i j → K (.inl (some (0, 0))) 159 h) : AC mX9_clash 3 0 0 159 [(2, 140), (0, i), (0, j)] h K := by
  have P71 : h 141 (46 + 25 * i + 10) = -1 → h 141 (46 + 25 * j + 10) = -1 → ¬ mG1 h i j → ¬ (¬ h 149 i = 0 ∧ ¬ h 149 j = 0) → AW mX9_clash 3 0 0 K 159 71 [(2, 140), (0, i), (0, j)] [] h := fun a1 a2 a3 a4 => by
    refine a_al0 (by decide) dX9_clash_71 ?_
    refine a_il1 dX9_clash_72 ?_
    refine a_il2 dX9_clash_73 ?_
    refine aw_callV 2 0 0 dX9_clash_74 yw_X9_goesWhere ml_X9_245 in_X9_goesWhere se_X9_goesWhere (ci := 8) rfl at_140 (as := [_, _]) rfl rfl ⟨by decide, by decide, by decide, Nat.le_of_ble_eq_true rfl⟩ ?_
    refine ac_goesWhere hi hj (fun q1 => ?_) (fun q1 => ?_)
    · refine am_ci ?_
      refine aw_if_ne_y 89 dX9_clash_77 (by decide) (by decide) ?_
      refine aw_iconst dX9_clash_89 (by decide) ?_
      refine aw_goto 94 dX9_clash_90 (by decide) ?_
      refine aw_zret dX9_clash_94 rfl (by omega) ?_
      exact k1 ⟨a1, a2, Or.inr (Or.inr ⟨a4, Or.inl q1⟩)⟩
    · refine am_ci ?_
      refine aw_if_ne_n 89 dX9_clash_77 (by decide) (by decide) ?_
      refine a_al0 (by decide) dX9_clash_80 ?_
      refine a_il2 dX9_clash_81 ?_
      refine a_il1 dX9_clash_82 ?_
      refine aw_callV 2 0 0 dX9_clash_83 yw_X9_goesWhere ml_X9_245 in_X9_goesWhere se_X9_goesWhere (ci := 8) rfl at_140 (as := [_, _]) rfl rfl ⟨by decide, by decide, by decide, Nat.le_of_ble_eq_true rfl⟩ ?_
      refine ac_goesWhere hj hi (fun q2 => ?_) (fun q2 => ?_)
      · refine am_ci ?_
        refine aw_if_eq_n 93 dX9_clash_86 (by decide) (by decide) ?_
        refine aw_iconst dX9_clash_89 (by decide) ?_
        refine aw_goto 94 dX9_clash_90 (by decide) ?_
        refine aw_zret dX9_clash_94 rfl (by omega) ?_
        exact k1 ⟨a1, a2, Or.inr (Or.inr ⟨a4, Or.inr q2⟩)⟩
      · refine am_ci ?_
        refine aw_if_eq_y 93 dX9_clash_86 (by decide) (by decide) ?_
        refine aw_iconst dX9_clash_93 (by decide) ?_
        refine aw_zret dX9_clash_94 rfl (by omega) ?_
        refine k0 (fun x => ?_)
        rcases x.2.2 with y | y | y
        · exact a3 y
        · exact a4 y.1
        · exact y.2.elim q1 q2
  refine ac_of (ls := [(2, 140), (0, i), (0, j)]) pn_X9 rfl (Nat.le_of_ble_eq_true rfl) rfl ?_
  refine a_al0 (by decide) dX9_clash_0 ?_
  refine a_il1 dX9_clash_1 ?_
  refine aw_callV 2 0 0 dX9_clash_2 yw_X9_sails ml_X9_216 in_X9_sails se_X9_sails (ci := 8) rfl at_140 (as := [_]) rfl rfl ⟨by decide, by decide, by decide, Nat.le_of_ble_eq_true rfl⟩ ?_
  refine ac_sails (by omega) (fun a1 => ?_) (fun a1 => ?_)
  · refine am_ci ?_
    refine aw_if_eq_n 16 dX9_clash_5 (by decide) (by decide) ?_
    refine a_al0 (by decide) dX9_clash_8 ?_
    refine a_il2 dX9_clash_9 ?_
    refine aw_callV 2 0 0 dX9_clash_10 yw_X9_sails ml_X9_216 in_X9_sails se_X9_sails (ci := 8) rfl at_140 (as := [_]) rfl rfl ⟨by decide, by decide, by decide, Nat.le_of_ble_eq_true rfl⟩ ?_
    refine ac_sails (by omega) (fun a2 => ?_) (fun a2 => ?_)
    · refine am_ci ?_
      refine aw_if_ne_y 18 dX9_clash_13 (by decide) (by decide) ?_
      refine a_al0 (by decide) dX9_clash_18 ?_
      refine a_il1 dX9_clash_19 ?_
      refine a_il2 dX9_clash_20 ?_
      refine aw_callV 1 0 0 dX9_clash_21 yw_X9_goToOne ml_X9_241 in_X9_goToOne se_X9_goToOne (ci := 8) rfl at_140 (as := [_, _]) rfl rfl ⟨by decide, by decide, by decide, Nat.le_of_ble_eq_true rfl⟩ ?_
      refine ac_goToOne hi hj (fun a3 => ?_) (fun a3 => ?_)
      · refine am_ci ?_
        refine aw_if_eq_n 29 dX9_clash_24 (by decide) (by decide) ?_
        refine aw_iconst dX9_clash_27 (by decide) ?_
        refine aw_zret dX9_clash_28 rfl (by omega) ?_
        exact k1 ⟨a1, a2, Or.inl a3⟩
      · refine am_ci ?_
        refine aw_if_eq_y 29 dX9_clash_24 (by decide) (by decide) ?_
        refine a_al0 (by decide) dX9_clash_29 ?_
        refine aw_getR (r := 149) 18 rfl dX9_clash_30 fl_X9_39 at_140 rfl rfl ?_
        refine a_il1 dX9_clash_33 ?_
        refine aw_zald dX9_clash_34 ar_149 (by omega) ?_
        refine aw_if_eq 71 dX9_clash_35 (by decide) (fun c35 => ?_) (fun c35 => ?_)
        · skip
          exact P71 a1 a2 a3 (by omega)
        · refine a_al0 (by decide) dX9_clash_38 ?_
          refine aw_getR (r := 149) 18 rfl dX9_clash_39 fl_X9_39 at_140 rfl rfl ?_
          refine a_il2 dX9_clash_42 ?_
          refine aw_zald dX9_clash_43 ar_149 (by omega) ?_
          refine aw_if_eq 71 dX9_clash_44 (by decide) (fun c44 => ?_) (fun c44 => ?_)
          · skip
            exact P71 a1 a2 a3 (by omega)
          · refine a_al0 (by decide) dX9_clash_47 ?_
            refine a_il1 dX9_clash_48 ?_
            refine a_il2 dX9_clash_49 ?_
            refine aw_callV 2 0 0 dX9_clash_50 yw_X9_goesWhere ml_X9_245 in_X9_goesWhere se_X9_goesWhere (ci := 8) rfl at_140 (as := [_, _]) rfl rfl ⟨by decide, by decide, by decide, Nat.le_of_ble_eq_true rfl⟩ ?_
            refine ac_goesWhere hi hj (fun q1 => ?_) (fun q1 => ?_)
            · refine am_ci ?_
              refine aw_if_eq_n 69 dX9_clash_53 (by decide) (by decide) ?_
              refine a_al0 (by decide) dX9_clash_56 ?_
              refine a_il2 dX9_clash_57 ?_
              refine a_il1 dX9_clash_58 ?_
              refine aw_callV 2 0 0 dX9_clash_59 yw_X9_goesWhere ml_X9_245 in_X9_goesWhere se_X9_goesWhere (ci := 8) rfl at_140 (as := [_, _]) rfl rfl ⟨by decide, by decide, by decide, Nat.le_of_ble_eq_true rfl⟩ ?_
              refine ac_goesWhere hj hi (fun q2 => ?_) (fun q2 => ?_)
              · refine am_ci ?_
                refine aw_if_eq_n 69 dX9_clash_62 (by decide) (by decide) ?_
                refine aw_iconst dX9_clash_65 (by decide) ?_
                refine aw_goto 70 dX9_clash_66 (by decide) ?_
                refine aw_zret dX9_clash_70 rfl (by omega) ?_
                exact k1 ⟨a1, a2, Or.inr (Or.inl ⟨by omega, q1, q2⟩)⟩
              · refine am_ci ?_
                refine aw_if_eq_y 69 dX9_clash_62 (by decide) (by decide) ?_
                refine aw_iconst dX9_clash_69 (by decide) ?_
                refine aw_zret dX9_clash_70 rfl (by omega) ?_
                refine k0 (fun x => ?_)
                rcases x.2.2 with y | y | y
                · exact a3 y
                · exact q2 y.2.2
                · exact absurd y.1 (by omega)
            · refine am_ci ?_
              refine aw_if_eq_y 69 dX9_clash_53 (by decide) (by decide) ?_
              refine aw_iconst dX9_clash_69 (by decide) ?_
              refine aw_zret dX9_clash_70 rfl (by omega) ?_
              refine k0 (fun x => ?_)
              rcases x.2.2 with y | y | y
              · exact a3 y
              · exact q1 y.2.1
              · exact absurd y.1 (by omega)
    · refine am_ci ?_
      refine aw_if_ne_n 18 dX9_clash_13 (by decide) (by decide) ?_
      refine aw_iconst dX9_clash_16 (by decide) ?_
      refine aw_zret dX9_clash_17 rfl (by omega) ?_
      exact k0 (fun x => a2 x.2.1)
  · refine am_ci ?_
    refine aw_if_eq_y 16 dX9_clash_5 (by decide) (by decide) ?_
    refine aw_iconst dX9_clash_16 (by decide) ?_
    refine aw_zret dX9_clash_17 rfl (by omega) ?_
    exact k0 (fun x => a1 x.1)
