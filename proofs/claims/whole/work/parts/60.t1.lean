/-! the class: steering -/
def cSh2 (h : AH) (b i : Int) : Prop := (-1 ≤ h (b + 2) (i * 11 + 1) ∧ h (b + 2) (i * 11 + 1) ≤ 30) ∧ (-1 ≤ h (b + 2) (i * 11 + 2) ∧ h (b + 2) (i * 11 + 2) ≤ 30) ∧ (0 ≤ h (b + 2) (i * 11 + 3) ∧ h (b + 2) (i * 11 + 3) ≤ 7) ∧ (0 ≤ h (b + 2) (i * 11 + 6) ∧ h (b + 2) (i * 11 + 6) ≤ 9) ∧ (0 ≤ h (b + 2) (i * 11 + 7) ∧ h (b + 2) (i * 11 + 7) ≤ 3) ∧ (0 ≤ h (b + 2) (i * 11 + 8) ∧ h (b + 2) (i * 11 + 8) ≤ 180) ∧ (0 ≤ h (b + 2) (i * 11 + 9) ∧ h (b + 2) (i * 11 + 9) ≤ 4)
def cBd (h : AH) (b : Int) : Prop := (4 ≤ h b 0 ∧ h b 0 ≤ 30) ∧ (4 ≤ h b 1 ∧ h b 1 ≤ 30) ∧ (0 ≤ h b 5 ∧ h b 5 ≤ 7) ∧ (0 ≤ h b 6 ∧ h b 6 ≤ 9)
def cGoH (h : AH) (b i l : Int) : AH := up (up h (b + 2) (i * 11 + 3) (gHd l (h (b + 2) (i * 11 + 9)) (h (b + 2) (i * 11 + 7)) (h (b + 2) (i * 11 + 3)))) (b + 2) (i * 11 + 9) (gSi l (h (b + 2) (i * 11 + 9)) (h (b + 2) (i * 11 + 7)))
theorem ts79 {b i l s t e : Int} {v6 : AV} {h : AH} {K : AO → Nat → AH → Prop} (hB : b = 5 ∨ b = 15) (hi : 0 ≤ i ∧ i ≤ 11) (ht : t = 0 ∨ t = 1) (he : e = if t = 0 then s else 0) (k : K (.inl none) 159 (up h (b + 2) (i * 11 + 9) e)) : AW mX6_turnShip 2 0 0 K 159 79 [(2, 25), (2, b), (0, i), (0, l), (0, s), (0, t), v6] [] h := by
  have hb := sh_ab hB
  rcases ht with rfl | rfl
  · rw [if_pos rfl] at he
    subst he
    refine a_al1 (am_sh_rg hb) dX6_turnShip_79 ?_
    refine a_il2 dX6_turnShip_80 ?_
    refine aw_bipush dX6_turnShip_81 (by decide) ?_
    refine a_il5 dX6_turnShip_83 ?_
    refine aw_if_eq_y 92 dX6_turnShip_85 (by decide) (by decide) ?_
    refine a_il4 dX6_turnShip_92 ?_
    refine aw_callV 1 0 0 dX6_turnShip_94 yw_X3_set ml_X6_92 in_X3_set se_X3_set (ci := 2) rfl (am_sh_at hb) (as := [_, _, _]) rfl rfl ⟨by decide, by decide, by decide, Nat.le_of_ble_eq_true rfl⟩ ?_
    refine ac_set hB hi (by decide) ?_
    refine am_cv ?_
    refine aw_vret dX6_turnShip_97 rfl ?_
    exact k
  · rw [if_neg (by decide)] at he
    subst he
    refine a_al1 (am_sh_rg hb) dX6_turnShip_79 ?_
    refine a_il2 dX6_turnShip_80 ?_
    refine aw_bipush dX6_turnShip_81 (by decide) ?_
    refine a_il5 dX6_turnShip_83 ?_
    refine aw_if_eq_n 92 dX6_turnShip_85 (by decide) (by decide) ?_
    refine aw_iconst dX6_turnShip_88 (by decide) ?_
    refine aw_goto 94 dX6_turnShip_89 (by decide) ?_
    refine aw_callV 1 0 0 dX6_turnShip_94 yw_X3_set ml_X6_92 in_X3_set se_X3_set (ci := 2) rfl (am_sh_at hb) (as := [_, _, _]) rfl rfl ⟨by decide, by decide, by decide, Nat.le_of_ble_eq_true rfl⟩ ?_
    refine ac_set hB hi (by decide) ?_
    refine am_cv ?_
    refine aw_vret dX6_turnShip_97 rfl ?_
    exact k
theorem ac_turnShip {b i l : Int} {h : AH} {K : AO → Nat → AH → Prop} (hB : b = 5 ∨ b = 15) (hi : 0 ≤ i ∧ i ≤ 11) (hs : cSh2 h b i) (k : K (.inl none) 159 (cGoH h b i l)) : AC mX6_turnShip 2 0 0 159 [(2, 25), (2, b), (0, i), (0, l)] h K := by
  have hb := sh_ab hB
  obtain ⟨s1, s2, s3, s6, s7, s8, s9⟩ := hs
  obtain ⟨s, hs⟩ : ∃ s, s = mn 4 (h (b + 2) (i * 11 + 9) + 1) := ⟨_, rfl⟩
  have rs : 0 ≤ s ∧ s ≤ 4 := by rw [hs]; unfold mn; split <;> omega
  have hnt : ¬ ((l = 2 ∨ l = 3) ∧ h (b + 2) (i * 11 + 7) < s) → cGoH h b i l = up h (b + 2) (i * 11 + 9) s := fun q => by
    unfold cGoH gSi gHd
    rw [← hs, if_neg q, if_neg q, up_self]
  have htu : ((l = 2 ∨ l = 3) ∧ h (b + 2) (i * 11 + 7) < s) → cGoH h b i l = up (up h (b + 2) (i * 11 + 3) ((h (b + 2) (i * 11 + 3) + (if l = 2 then 7 else 1)) % 8)) (b + 2) (i * 11 + 9) 0 := fun q => by
    unfold cGoH gSi gHd
    rw [← hs, if_pos q, if_pos q]
  refine ac_of (ls := [(2, 25), (2, b), (0, i), (0, l), (9, 0), (9, 0), (9, 0)]) pn_X6 rfl (Nat.le_of_ble_eq_true rfl) rfl ?_
  refine aw_iconst dX6_turnShip_0 (by decide) ?_
  refine a_al1 (am_sh_rg hb) dX6_turnShip_1 ?_
  refine a_il2 dX6_turnShip_2 ?_
  refine aw_bipush dX6_turnShip_3 (by decide) ?_
  refine aw_callV 1 0 0 dX6_turnShip_5 yw_X3_get ml_X6_65 in_X3_get se_X3_get (ci := 2) rfl (am_sh_at hb) (as := [_, _]) rfl rfl ⟨by decide, by decide, by decide, Nat.le_of_ble_eq_true rfl⟩ ?_
  refine ac_get hB hi (by decide) ?_
  refine am_ci ?_
  refine aw_iconst dX6_turnShip_8 (by decide) ?_
  refine aw_iaddR (by omega) dX6_turnShip_9 ?_
  refine aw_mmin dX6_turnShip_10 ⟨ml_X6_87, mw_min⟩ ⟨by decide, Nat.le_of_ble_eq_true rfl⟩ ?_
  rw [show (if h (b + 2) (i * 11 + 9) + 1 < 4 then h (b + 2) (i * 11 + 9) + 1 else 4) = s from hs.symm]
  have no : ¬ ((l = 2 ∨ l = 3) ∧ h (b + 2) (i * 11 + 7) < s) → AW mX6_turnShip 2 0 0 K 159 41 [(2, 25), (2, b), (0, i), (0, l), (0, s), (9, 0), (9, 0)] [] h := fun q => by
    refine aw_iconst dX6_turnShip_41 (by decide) ?_
    refine a_is5 rfl rfl dX6_turnShip_42 ?_
    refine a_il5 dX6_turnShip_44 ?_
    refine aw_if_eq_y 79 dX6_turnShip_46 (by decide) (by decide) ?_
    refine ts79 hB hi (Or.inl rfl) (if_pos rfl).symm ?_
    rw [← hnt q]
    exact k
  have ye : ((l = 2 ∨ l = 3) ∧ h (b + 2) (i * 11 + 7) < s) → AW mX6_turnShip 2 0 0 K 159 37 [(2, 25), (2, b), (0, i), (0, l), (0, s), (9, 0), (9, 0)] [] h := fun q => by
    rw [htu q] at k
    refine aw_iconst dX6_turnShip_37 (by decide) ?_
    refine aw_goto 42 dX6_turnShip_38 (by decide) ?_
    refine a_is5 rfl rfl dX6_turnShip_42 ?_
    refine a_il5 dX6_turnShip_44 ?_
    refine aw_if_eq_n 79 dX6_turnShip_46 (by decide) (by decide) ?_
    refine a_il3 dX6_turnShip_49 ?_
    refine aw_iconst dX6_turnShip_50 (by decide) ?_
    refine aw_icmp_ne 58 dX6_turnShip_51 (by decide) (fun c51 => ?_) (fun c51 => ?_)
    · have e1 : ¬ l = 2 := by assumption
      refine aw_iconst dX6_turnShip_58 (by decide) ?_
      refine a_is6 rfl rfl dX6_turnShip_59 ?_
      refine a_al1 (am_sh_rg hb) dX6_turnShip_61 ?_
      refine a_il2 dX6_turnShip_62 ?_
      refine aw_iconst dX6_turnShip_63 (by decide) ?_
      refine a_al1 (am_sh_rg hb) dX6_turnShip_64 ?_
      refine a_il2 dX6_turnShip_65 ?_
      refine aw_iconst dX6_turnShip_66 (by decide) ?_
      refine aw_callV 1 0 0 dX6_turnShip_67 yw_X3_get ml_X6_65 in_X3_get se_X3_get (ci := 2) rfl (am_sh_at hb) (as := [_, _]) rfl rfl ⟨by decide, by decide, by decide, Nat.le_of_ble_eq_true rfl⟩ ?_
      refine ac_get hB hi (by decide) ?_
      refine am_ci ?_
      refine a_il6 dX6_turnShip_70 ?_
      refine aw_iaddR (by omega) dX6_turnShip_72 ?_
      refine aw_bipush dX6_turnShip_73 (by decide) ?_
      refine aw_iand dX6_turnShip_75 ?_
      refine aw_callV 1 0 0 dX6_turnShip_76 yw_X3_set ml_X6_92 in_X3_set se_X3_set (ci := 2) rfl (am_sh_at hb) (as := [_, _, _]) rfl rfl ⟨by decide, by decide, by decide, Nat.le_of_ble_eq_true rfl⟩ ?_
      rw [and7b (by omega)]
      refine ac_set hB hi (by decide) ?_
      rw [if_neg e1] at k
      refine am_cv ?_
      exact ts79 hB hi (Or.inr rfl) (if_neg (by decide)).symm k
    · have e1 : l = 2 := by assumption
      refine aw_iconst dX6_turnShip_54 (by decide) ?_
      refine aw_goto 59 dX6_turnShip_55 (by decide) ?_
      refine a_is6 rfl rfl dX6_turnShip_59 ?_
      refine a_al1 (am_sh_rg hb) dX6_turnShip_61 ?_
      refine a_il2 dX6_turnShip_62 ?_
      refine aw_iconst dX6_turnShip_63 (by decide) ?_
      refine a_al1 (am_sh_rg hb) dX6_turnShip_64 ?_
      refine a_il2 dX6_turnShip_65 ?_
      refine aw_iconst dX6_turnShip_66 (by decide) ?_
      refine aw_callV 1 0 0 dX6_turnShip_67 yw_X3_get ml_X6_65 in_X3_get se_X3_get (ci := 2) rfl (am_sh_at hb) (as := [_, _]) rfl rfl ⟨by decide, by decide, by decide, Nat.le_of_ble_eq_true rfl⟩ ?_
      refine ac_get hB hi (by decide) ?_
      refine am_ci ?_
      refine a_il6 dX6_turnShip_70 ?_
      refine aw_iaddR (by omega) dX6_turnShip_72 ?_
      refine aw_bipush dX6_turnShip_73 (by decide) ?_
      refine aw_iand dX6_turnShip_75 ?_
      refine aw_callV 1 0 0 dX6_turnShip_76 yw_X3_set ml_X6_92 in_X3_set se_X3_set (ci := 2) rfl (am_sh_at hb) (as := [_, _, _]) rfl rfl ⟨by decide, by decide, by decide, Nat.le_of_ble_eq_true rfl⟩ ?_
      rw [and7b (by omega)]
      refine ac_set hB hi (by decide) ?_
      rw [if_pos e1, show (h (b + 2) (i * 11 + 3) + 7) % 8 = (h (b + 2) (i * 11 + 3) + -1) % 8 by omega] at k
      refine am_cv ?_
      exact ts79 hB hi (Or.inr rfl) (if_neg (by decide)).symm k
  have c25 : (l = 2 ∨ l = 3) → AW mX6_turnShip 2 0 0 K 159 25 [(2, 25), (2, b), (0, i), (0, l), (0, s), (9, 0), (9, 0)] [] h := fun ql => by
    refine a_il4 dX6_turnShip_25 ?_
    refine a_al1 (am_sh_rg hb) dX6_turnShip_27 ?_
    refine a_il2 dX6_turnShip_28 ?_
    refine aw_bipush dX6_turnShip_29 (by decide) ?_
    refine aw_callV 1 0 0 dX6_turnShip_31 yw_X3_get ml_X6_65 in_X3_get se_X3_get (ci := 2) rfl (am_sh_at hb) (as := [_, _]) rfl rfl ⟨by decide, by decide, by decide, Nat.le_of_ble_eq_true rfl⟩ ?_
    refine ac_get hB hi (by decide) ?_
    refine am_ci ?_
    try simp (disch := omega) only [up_at, up_ne]
    refine aw_icmp_le 41 dX6_turnShip_34 (by decide) (fun c34 => ?_) (fun c34 => ?_)
    · skip
      exact no (by omega)
    · skip
      exact ye ⟨ql, by omega⟩
  refine a_is4 rfl rfl dX6_turnShip_13 ?_
  refine a_il3 dX6_turnShip_15 ?_
  refine aw_iconst dX6_turnShip_16 (by decide) ?_
  refine aw_icmp_eq 25 dX6_turnShip_17 (by decide) (fun c17 => ?_) (fun c17 => ?_)
  · skip
    exact c25 (by omega)
  · refine a_il3 dX6_turnShip_20 ?_
    refine aw_iconst dX6_turnShip_21 (by decide) ?_
    refine aw_icmp_ne 41 dX6_turnShip_22 (by decide) (fun c22 => ?_) (fun c22 => ?_)
    · skip
      exact no (by omega)
    · skip
      exact c25 (by omega)
/-- what gatherWay leaves -/
def cGon (h : AH) (b i l : Int) (h' : AH) : Prop :=
  (∀ k j, ¬ (k = b + 2 ∧ j = i * 11 + 8) → ¬ (k = 26 ∧ j = i) → ¬ (k = 28 ∧ j = i) → h' k j = h k j) ∧ (l = 4 → h' = h) ∧
  (l ≠ 4 → ∀ w c r, w = gWay (h (b + 2) (i * 11 + 8)) (h (b + 2) (i * 11 + 6)) (h b 6) (h (b + 2) (i * 11 + 3)) (h b 5) → c = h (b + 2) (i * 11 + 1) + tab1 (h (b + 2) (i * 11 + 3)) → r = h (b + 2) (i * 11 + 2) + tab2 (h (b + 2) (i * 11 + 3)) →
    (w < 90 → h' (b + 2) (i * 11 + 8) = w ∧ h' 26 i = h 26 i) ∧
    (90 ≤ w → (0 ≤ c ∧ c < h b 0 ∧ 0 ≤ r ∧ r < h b 1) → h' (b + 2) (i * 11 + 8) = w ∧ h' 26 i = 1 ∧ h' 28 i = 100 * c + r) ∧
    (90 ≤ w → ¬ (0 ≤ c ∧ c < h b 0 ∧ 0 ≤ r ∧ r < h b 1) → h' (b + 2) (i * 11 + 8) = 0 ∧ h' 26 i = 0))
theorem ac_gatherWay {b i l : Int} {h : AH} {K : AO → Nat → AH → Prop} (hB : b = 5 ∨ b = 15) (hi : 0 ≤ i ∧ i ≤ 11) (hs : cSh2 h b i) (ho : cBd h b) (kk : ∀ h', cGon h b i l h' → K (.inl none) 159 h') : AC mX6_gatherWay 3 0 0 159 [(2, 25), (2, b), (0, i), (0, l)] h K := by
  have hb := sh_ab hB
  obtain ⟨s1, s2, s3, s6, s7, s8, s9⟩ := hs
  obtain ⟨b0, b1, b5, b6⟩ := ho
  have p1 := mulr s6 b6
  have p2 := mulr p1 (tab0_r (ang (h (b + 2) (i * 11 + 3)) (h b 5)))
  have t1 := tab1_rg (h (b + 2) (i * 11 + 3))
  have t2 := tab2_rg (h (b + 2) (i * 11 + 3))
  have e7 : i_and (h (b + 2) (i * 11 + 3)) 7 = h (b + 2) (i * 11 + 3) := by rw [and7b (by omega)]; omega
  obtain ⟨w, hw⟩ : ∃ w, w = gWay (h (b + 2) (i * 11 + 8)) (h (b + 2) (i * 11 + 6)) (h b 6) (h (b + 2) (i * 11 + 3)) (h b 5) := ⟨_, rfl⟩
  have rw' := gWay_rg (w := h (b + 2) (i * 11 + 8)) (s := h (b + 2) (i * 11 + 6)) (f := h b 6) (hd := h (b + 2) (i * 11 + 3)) (fr := h b 5) s8.1 s6 b6
  rw [← hw] at rw'
  refine ac_of (ls := [(2, 25), (2, b), (0, i), (0, l), (9, 0), (9, 0), (9, 0), (9, 0)]) pn_X6 rfl (Nat.le_of_ble_eq_true rfl) rfl ?_
  refine a_il3 dX6_gatherWay_0 ?_
  refine aw_iconst dX6_gatherWay_1 (by decide) ?_
  refine aw_icmp_ne 6 dX6_gatherWay_2 (by decide) (fun c2 => ?_) (fun c2 => ?_)
  · refine a_al1 (am_sh_rg hb) dX6_gatherWay_6 ?_
    refine a_il2 dX6_gatherWay_7 ?_
    refine aw_iconst dX6_gatherWay_8 (by decide) ?_
    refine aw_callV 1 0 0 dX6_gatherWay_9 yw_X3_get ml_X6_65 in_X3_get se_X3_get (ci := 2) rfl (am_sh_at hb) (as := [_, _]) rfl rfl ⟨by decide, by decide, by decide, Nat.le_of_ble_eq_true rfl⟩ ?_
    refine ac_get hB hi (by decide) ?_
    refine am_ci ?_
    refine aw_bipush dX6_gatherWay_12 (by decide) ?_
    refine aw_iand dX6_gatherWay_14 ?_
    rw [e7]
    refine a_is4 rfl rfl dX6_gatherWay_15 ?_
    refine aw_sipush dX6_gatherWay_17 (by decide) ?_
    refine a_al1 (am_sh_rg hb) dX6_gatherWay_20 ?_
    refine a_il2 dX6_gatherWay_21 ?_
    refine aw_bipush dX6_gatherWay_22 (by decide) ?_
    refine aw_callV 1 0 0 dX6_gatherWay_24 yw_X3_get ml_X6_65 in_X3_get se_X3_get (ci := 2) rfl (am_sh_at hb) (as := [_, _]) rfl rfl ⟨by decide, by decide, by decide, Nat.le_of_ble_eq_true rfl⟩ ?_
    refine ac_get hB hi (by decide) ?_
    refine am_ci ?_
    refine a_al1 (am_sh_rg hb) dX6_gatherWay_27 ?_
    refine a_il2 dX6_gatherWay_28 ?_
    refine a_il4 dX6_gatherWay_29 ?_
    refine aw_callV 2 0 0 dX6_gatherWay_31 yw_X3_growth ml_X6_96 in_X3_growth se_X3_growth (ci := 2) rfl (am_sh_at hb) (as := [_, _]) rfl rfl ⟨by decide, by decide, by decide, Nat.le_of_ble_eq_true rfl⟩ ?_
    refine ac_growth hB hi s3 b5 b6 s6 ?_
    refine am_ci ?_
    refine aw_iaddR (by omega) dX6_gatherWay_34 ?_
    refine aw_mmin dX6_gatherWay_35 ⟨ml_X6_87, mw_min⟩ ⟨by decide, Nat.le_of_ble_eq_true rfl⟩ ?_
    rw [show (if h (b + 2) (i * 11 + 8) + h (b + 2) (i * 11 + 6) * h b 6 * tab0 (ang (h (b + 2) (i * 11 + 3)) (h b 5)) < 180 then h (b + 2) (i * 11 + 8) + h (b + 2) (i * 11 + 6) * h b 6 * tab0 (ang (h (b + 2) (i * 11 + 3)) (h b 5)) else 180) = w from hw.symm]
    refine a_is5 rfl rfl dX6_gatherWay_38 ?_
    refine a_il5 dX6_gatherWay_40 ?_
    refine aw_bipush dX6_gatherWay_42 (by decide) ?_
    refine aw_icmp_lt 121 dX6_gatherWay_44 (by decide) (fun c44 => ?_) (fun c44 => ?_)
    · refine a_al1 (am_sh_rg hb) dX6_gatherWay_121 ?_
      refine a_il2 dX6_gatherWay_122 ?_
      refine aw_bipush dX6_gatherWay_123 (by decide) ?_
      refine a_il5 dX6_gatherWay_125 ?_
      refine aw_callV 1 0 0 dX6_gatherWay_127 yw_X3_set ml_X6_92 in_X3_set se_X3_set (ci := 2) rfl (am_sh_at hb) (as := [_, _, _]) rfl rfl ⟨by decide, by decide, by decide, Nat.le_of_ble_eq_true rfl⟩ ?_
      refine ac_set hB hi (by decide) ?_
      refine am_cv ?_
      refine aw_vret dX6_gatherWay_130 rfl ?_
      refine kk _ ⟨fun k j h1 h2 h3 => by rw [up_ne h1], fun q => by omega, fun q w' c r hw' hc hr => ⟨fun q3 => ?_, fun q3 => by omega, fun q3 => by omega⟩⟩
      rw [up_at, up_ne (by omega), hw', hw]
      exact ⟨rfl, rfl⟩
    · refine a_al1 (am_sh_rg hb) dX6_gatherWay_47 ?_
      refine a_il2 dX6_gatherWay_48 ?_
      refine aw_iconst dX6_gatherWay_49 (by decide) ?_
      refine aw_callV 1 0 0 dX6_gatherWay_50 yw_X3_get ml_X6_65 in_X3_get se_X3_get (ci := 2) rfl (am_sh_at hb) (as := [_, _]) rfl rfl ⟨by decide, by decide, by decide, Nat.le_of_ble_eq_true rfl⟩ ?_
      refine ac_get hB hi (by decide) ?_
      refine am_ci ?_
      refine aw_gets (i := 1) dX6_gatherWay_53 rfl gs_X6_99 1001 rfl ?_
      refine a_il4 dX6_gatherWay_56 ?_
      refine aw_tab1 dX6_gatherWay_58 (by omega) ?_
      refine aw_iaddR (by omega) dX6_gatherWay_59 ?_
      refine a_is6 rfl rfl dX6_gatherWay_60 ?_
      refine a_al1 (am_sh_rg hb) dX6_gatherWay_62 ?_
      refine a_il2 dX6_gatherWay_63 ?_
      refine aw_iconst dX6_gatherWay_64 (by decide) ?_
      refine aw_callV 1 0 0 dX6_gatherWay_65 yw_X3_get ml_X6_65 in_X3_get se_X3_get (ci := 2) rfl (am_sh_at hb) (as := [_, _]) rfl rfl ⟨by decide, by decide, by decide, Nat.le_of_ble_eq_true rfl⟩ ?_
      refine ac_get hB hi (by decide) ?_
      refine am_ci ?_
      refine aw_gets (i := 2) dX6_gatherWay_68 rfl gs_X6_102 1002 rfl ?_
      refine a_il4 dX6_gatherWay_71 ?_
      refine aw_tab2 dX6_gatherWay_73 (by omega) ?_
      refine aw_iaddR (by omega) dX6_gatherWay_74 ?_
      refine a_is7 rfl rfl dX6_gatherWay_75 ?_
      refine a_al0 (by decide) dX6_gatherWay_77 ?_
      refine aw_getR (r := 26) 0 rfl dX6_gatherWay_78 fl_X6_9 at_25 rfl rfl ?_
      refine a_il2 dX6_gatherWay_81 ?_
      refine a_al1 (am_sh_rg hb) dX6_gatherWay_82 ?_
      refine a_il6 dX6_gatherWay_83 ?_
      refine a_il7 dX6_gatherWay_85 ?_
      refine aw_callV 1 0 0 dX6_gatherWay_87 yw_X3_hasCell ml_X6_105 in_X3_hasCell se_X3_hasCell (ci := 2) rfl (am_sh_at hb) (as := [_, _]) rfl rfl ⟨by decide, by decide, by decide, Nat.le_of_ble_eq_true rfl⟩ ?_
      refine ac_hasCell hB (fun q1 => ?_) (fun q1 => ?_)
      · refine am_ci ?_
        refine aw_zast dX6_gatherWay_90 ar_26 (by omega) (by omega) ?_
        refine a_al0 (by decide) dX6_gatherWay_91 ?_
        refine aw_getR (r := 28) 2 rfl dX6_gatherWay_92 fl_X6_19 at_25 rfl rfl ?_
        try simp (disch := omega) only [up_at, up_ne]
        refine a_il2 dX6_gatherWay_95 ?_
        refine a_il6 dX6_gatherWay_96 ?_
        refine a_il7 dX6_gatherWay_98 ?_
        refine aw_callSN 1 0 0 dX6_gatherWay_100 yw_X8_cellOf ml_X6_69 sm_X8_cellOf (as := [_, _]) rfl rfl ⟨by decide, by decide, by decide, Nat.le_of_ble_eq_true rfl⟩ ?_
        refine ac_cellOf (by omega) (by omega) ?_
        refine am_ci ?_
        try simp (disch := omega) only [up_at, up_ne]
        refine aw_iast dX6_gatherWay_103 ar_28 (by omega) ?_
        refine a_al0 (by decide) dX6_gatherWay_104 ?_
        refine aw_getR (r := 26) 0 rfl dX6_gatherWay_105 fl_X6_9 at_25 rfl rfl ?_
        try simp (disch := omega) only [up_at, up_ne]
        refine a_il2 dX6_gatherWay_108 ?_
        refine aw_zald dX6_gatherWay_109 ar_26 (by omega) ?_
        try simp (disch := omega) only [up_at, up_ne]
        refine aw_if_eq 118 dX6_gatherWay_110 (by decide) (fun c110 => ?_) (fun c110 => ?_)
        · exfalso
          omega
        · refine a_il5 dX6_gatherWay_113 ?_
          refine aw_goto 119 dX6_gatherWay_115 (by decide) ?_
          refine a_is5 rfl rfl dX6_gatherWay_119 ?_
          refine a_al1 (am_sh_rg hb) dX6_gatherWay_121 ?_
          refine a_il2 dX6_gatherWay_122 ?_
          refine aw_bipush dX6_gatherWay_123 (by decide) ?_
          refine a_il5 dX6_gatherWay_125 ?_
          refine aw_callV 1 0 0 dX6_gatherWay_127 yw_X3_set ml_X6_92 in_X3_set se_X3_set (ci := 2) rfl (am_sh_at hb) (as := [_, _, _]) rfl rfl ⟨by decide, by decide, by decide, Nat.le_of_ble_eq_true rfl⟩ ?_
          refine ac_set hB hi (by decide) ?_
          refine am_cv ?_
          refine aw_vret dX6_gatherWay_130 rfl ?_
          refine kk _ ⟨fun k j h1 h2 h3 => by rw [up_ne h1, up_ne h3, up_ne h2], fun q => by omega, fun q w' c r hw' hc hr => ⟨fun q3 => by omega, fun q3 q4 => ?_, fun q3 q4 => by omega⟩⟩
          simp (disch := omega) only [up_at, up_ne]
          exact ⟨by omega, trivial, by omega⟩
      · refine am_ci ?_
        refine aw_zast dX6_gatherWay_90 ar_26 (by omega) (by omega) ?_
        refine a_al0 (by decide) dX6_gatherWay_91 ?_
        refine aw_getR (r := 28) 2 rfl dX6_gatherWay_92 fl_X6_19 at_25 rfl rfl ?_
        try simp (disch := omega) only [up_at, up_ne]
        refine a_il2 dX6_gatherWay_95 ?_
        refine a_il6 dX6_gatherWay_96 ?_
        refine a_il7 dX6_gatherWay_98 ?_
        refine aw_callSN 1 0 0 dX6_gatherWay_100 yw_X8_cellOf ml_X6_69 sm_X8_cellOf (as := [_, _]) rfl rfl ⟨by decide, by decide, by decide, Nat.le_of_ble_eq_true rfl⟩ ?_
        refine ac_cellOf (by omega) (by omega) ?_
        refine am_ci ?_
        try simp (disch := omega) only [up_at, up_ne]
        refine aw_iast dX6_gatherWay_103 ar_28 (by omega) ?_
        refine a_al0 (by decide) dX6_gatherWay_104 ?_
        refine aw_getR (r := 26) 0 rfl dX6_gatherWay_105 fl_X6_9 at_25 rfl rfl ?_
        try simp (disch := omega) only [up_at, up_ne]
        refine a_il2 dX6_gatherWay_108 ?_
        refine aw_zald dX6_gatherWay_109 ar_26 (by omega) ?_
        try simp (disch := omega) only [up_at, up_ne]
        refine aw_if_eq 118 dX6_gatherWay_110 (by decide) (fun c110 => ?_) (fun c110 => ?_)
        · refine aw_iconst dX6_gatherWay_118 (by decide) ?_
          refine a_is5 rfl rfl dX6_gatherWay_119 ?_
          refine a_al1 (am_sh_rg hb) dX6_gatherWay_121 ?_
          refine a_il2 dX6_gatherWay_122 ?_
          refine aw_bipush dX6_gatherWay_123 (by decide) ?_
          refine a_il5 dX6_gatherWay_125 ?_
          refine aw_callV 1 0 0 dX6_gatherWay_127 yw_X3_set ml_X6_92 in_X3_set se_X3_set (ci := 2) rfl (am_sh_at hb) (as := [_, _, _]) rfl rfl ⟨by decide, by decide, by decide, Nat.le_of_ble_eq_true rfl⟩ ?_
          refine ac_set hB hi (by decide) ?_
          refine am_cv ?_
          refine aw_vret dX6_gatherWay_130 rfl ?_
          refine kk _ ⟨fun k j h1 h2 h3 => by rw [up_ne h1, up_ne h3, up_ne h2], fun q => by omega, fun q w' c r hw' hc hr => ⟨fun q3 => by omega, fun q3 q4 => by omega, fun q3 q4 => ?_⟩⟩
          simp (disch := omega) only [up_at, up_ne]
          exact ⟨trivial, trivial⟩
        · exfalso
          omega
  · refine aw_vret dX6_gatherWay_5 rfl ?_
    exact kk h ⟨fun k j _ _ _ => rfl, fun _ => rfl, fun q => by omega⟩
