/-! the constructors of class and model -/
theorem ac_beginTurnN {h : AH} {K : AO → Nat → AH → Prop} (v8 : h 5 11 = 8) (v12 : h 5 15 = 12) (k : K (.inl none) 140 (fillH (fillH h 8 12 37449) 12 4 (-1))) : AC mX3_beginTurn 2 0 0 140 [(2, 5)] h K := by
  refine ac_of (ls := [(2, 5)]) pn_X3 rfl (Nat.le_of_ble_eq_true rfl) rfl ?_
  refine a_al0 (by decide) dX3_beginTurn_0 ?_
  refine aw_getV 11 8 dX3_beginTurn_1 fl_X3_19 ⟨by decide, by decide, by decide, rfl⟩ rfl v8 ?_
  refine aw_ldc dX3_beginTurn_4 kc_X3_79 (by decide) ?_
  refine aw_callS 1 0 0 dX3_beginTurn_6 yw_J7_fill_53178 ml_X3_68 sm_J7_fill_53178 (as := [_, _]) rfl rfl ⟨by decide, by decide, by decide, Nat.le_of_ble_eq_true rfl⟩ ?_
  refine ac_fill (by decide) ⟨by decide, by decide, by decide, rfl⟩ (by decide) ?_
  refine am_cv ?_
  refine a_al0 (by decide) dX3_beginTurn_9 ?_
  refine aw_getV 15 12 dX3_beginTurn_10 fl_X3_31 ⟨by decide, by decide, by decide, rfl⟩ rfl (by unfold fillH; rw [if_neg (by omega)]; exact v12) ?_
  refine aw_iconst dX3_beginTurn_13 (by decide) ?_
  refine aw_callS 1 0 0 dX3_beginTurn_14 yw_J7_fill_53178 ml_X3_68 sm_J7_fill_53178 (as := [_, _]) rfl rfl ⟨by decide, by decide, by decide, Nat.le_of_ble_eq_true rfl⟩ ?_
  refine ac_fill (by decide) ⟨by decide, by decide, by decide, rfl⟩ (by decide) ?_
  refine am_cv ?_
  refine aw_vret dX3_beginTurn_17 rfl ?_
  exact k
theorem ac_clearN {h : AH} {K : AO → Nat → AH → Prop} (v11 : h 5 14 = 11) (v8 : h 5 11 = 8) (v12 : h 5 15 = 12) (k : K (.inl none) 140 (fillH (fillH (fillH (clrF h 5) 11 4 0) 8 12 37449) 12 4 (-1))) : AC mX3_clear 3 0 0 140 [(2, 5)] h K := by
  refine ac_of (ls := [(2, 5)]) pn_X3 rfl (Nat.le_of_ble_eq_true rfl) rfl ?_
  refine a_al0 (by decide) dX3_clear_0 ?_
  refine aw_iconst dX3_clear_1 (by decide) ?_
  refine aw_put 0 dX3_clear_2 fp_X3_40 ⟨by decide, by decide, by decide, rfl⟩ rfl ?_
  refine a_al0 (by decide) dX3_clear_5 ?_
  refine aw_iconst dX3_clear_6 (by decide) ?_
  refine aw_put 1 dX3_clear_7 fp_X3_44 ⟨by decide, by decide, by decide, rfl⟩ rfl ?_
  refine a_al0 (by decide) dX3_clear_10 ?_
  refine aw_iconst dX3_clear_11 (by decide) ?_
  refine aw_put 2 dX3_clear_12 fp_X3_47 ⟨by decide, by decide, by decide, rfl⟩ rfl ?_
  refine a_al0 (by decide) dX3_clear_15 ?_
  refine aw_iconst dX3_clear_16 (by decide) ?_
  refine aw_put 3 dX3_clear_17 fp_X3_50 ⟨by decide, by decide, by decide, rfl⟩ rfl ?_
  refine a_al0 (by decide) dX3_clear_20 ?_
  refine aw_iconst dX3_clear_21 (by decide) ?_
  refine aw_put 4 dX3_clear_22 fp_X3_53 ⟨by decide, by decide, by decide, rfl⟩ rfl ?_
  refine a_al0 (by decide) dX3_clear_25 ?_
  refine aw_iconst dX3_clear_26 (by decide) ?_
  refine aw_put 5 dX3_clear_27 fp_X3_56 ⟨by decide, by decide, by decide, rfl⟩ rfl ?_
  refine a_al0 (by decide) dX3_clear_30 ?_
  refine aw_iconst dX3_clear_31 (by decide) ?_
  refine aw_put 6 dX3_clear_32 fp_X3_59 ⟨by decide, by decide, by decide, rfl⟩ rfl ?_
  refine a_al0 (by decide) dX3_clear_35 ?_
  refine aw_iconst dX3_clear_36 (by decide) ?_
  refine aw_put 7 dX3_clear_37 fp_X3_62 ⟨by decide, by decide, by decide, rfl⟩ rfl ?_
  refine a_al0 (by decide) dX3_clear_40 ?_
  refine aw_iconst dX3_clear_41 (by decide) ?_
  refine aw_put 8 dX3_clear_42 fp_X3_65 ⟨by decide, by decide, by decide, rfl⟩ rfl ?_
  refine a_al0 (by decide) dX3_clear_45 ?_
  refine aw_getV 14 11 dX3_clear_46 fl_X3_28 ⟨by decide, by decide, by decide, rfl⟩ rfl (by simp (disch := omega) only [up_ne]; exact v11) ?_
  refine aw_iconst dX3_clear_49 (by decide) ?_
  refine aw_callS 1 0 0 dX3_clear_50 yw_J7_fill_53178 ml_X3_68 sm_J7_fill_53178 (as := [_, _]) rfl rfl ⟨by decide, by decide, by decide, Nat.le_of_ble_eq_true rfl⟩ ?_
  refine ac_fill (by decide) ⟨by decide, by decide, by decide, rfl⟩ (by decide) ?_
  refine am_cv ?_
  refine a_al0 (by decide) dX3_clear_53 ?_
  refine aw_callV 2 0 0 dX3_clear_54 yw_X3_beginTurn ml_X3_74 in_X3_beginTurn se_X3_beginTurn (ci := 2) rfl ⟨by decide, by decide, by decide, rfl⟩ (as := []) rfl rfl ⟨by decide, by decide, by decide, Nat.le_of_ble_eq_true rfl⟩ ?_
  refine ac_beginTurnN (by unfold fillH; rw [if_neg (by omega)]; simp (disch := omega) only [up_ne]; exact v8) (by unfold fillH; rw [if_neg (by omega)]; simp (disch := omega) only [up_ne]; exact v12) ?_
  refine am_cv ?_
  refine aw_vret dX3_clear_57 rfl ?_
  exact k
theorem ac_beginsN {h : AH} {K : AO → Nat → AH → Prop} (v0 : h 140 0 = 141) (k : K (.inl none) 157 (up (fillH h 141 1256 0) 141 6 5)) : AC mX9_begins 1 0 0 157 [(2, 140)] h K := by
  refine ac_of (ls := [(2, 140), (9, 0)]) pn_X9 rfl (Nat.le_of_ble_eq_true rfl) rfl ?_
  refine aw_iconst dX9_begins_0 (by decide) ?_
  refine a_is1 rfl rfl dX9_begins_1 ?_
  have H := aw_loop (fun i : Int => 0 ≤ i ∧ i ≤ 1256) (fun i => (1256 - i).toNat) (fun i => AW mX9_begins 1 0 0 K 157 2 [(2, 140), (0, i)] [] (fillH h 141 i 0)) (fun i hi ih => ?_) 0 ⟨by omega, by omega⟩
  · rw [fillH_0] at H
    exact H
  · refine a_il1 dX9_begins_2 ?_
    refine aw_sipush dX9_begins_3 (by decide) ?_
    refine aw_icmp_ge 22 dX9_begins_6 (by decide) (fun c6 => ?_) (fun c6 => ?_)
    · refine a_al0 (by decide) dX9_begins_22 ?_
      refine aw_getV 0 141 dX9_begins_23 fl_X9_7 ⟨by decide, by decide, by decide, rfl⟩ rfl (by unfold fillH; rw [if_neg (by omega)]; exact v0) ?_
      refine aw_bipush dX9_begins_26 (by decide) ?_
      refine aw_iconst dX9_begins_28 (by decide) ?_
      refine aw_iast dX9_begins_29 (len := 1256) ⟨by decide, by decide, by decide, rfl⟩ (by omega) ?_
      refine aw_vret dX9_begins_30 rfl ?_
      rw [show i = 1256 by omega]
      exact k
    · refine a_al0 (by decide) dX9_begins_9 ?_
      refine aw_getV 0 141 dX9_begins_10 fl_X9_7 ⟨by decide, by decide, by decide, rfl⟩ rfl (by unfold fillH; rw [if_neg (by omega)]; exact v0) ?_
      refine a_il1 dX9_begins_13 ?_
      refine aw_iconst dX9_begins_14 (by decide) ?_
      refine aw_iast dX9_begins_15 (len := 1256) ⟨by decide, by decide, by decide, rfl⟩ (by omega) ?_
      refine a_iiR1 (by omega) rfl rfl dX9_begins_16 ?_
      refine aw_goto 2 dX9_begins_19 (by decide) ?_
      rw [fillH_s h hi.1]
      exact ih (i + 1) ⟨by omega, by omega⟩ (by omega)
def hA1 : AH := up (grR hD) 0 0 1
def hA2 : AH := up hA1 0 1 2
def hA3 : AH := up (shI 5 hA2) 0 2 5
def hA4 : AH := up (shI 15 hA3) 0 3 15
def hA5 : AH := up (tnR hA4) 0 4 25
def hA6 : AH := up (hiR hA5) 0 5 32
def hA7 : AH := up (svR hA6) 0 6 115
def hA8 : AH := up hA7 0 7 137
def hA9 : AH := up (wrR hA8) 0 8 138
def hAa : AH := fillH (fillH (fillH (clrF hA9 5) 11 4 0) 8 12 37449) 12 4 (-1)
def hA : AH := up (up (up hAa 5 0 10) 5 1 10) 5 2 1
theorem hD_0 {k : Int} (hk : 0 ≤ k) (hs : (am_SH k.toNat).1 = 100 ∨ (am_SH k.toNat).1 = 101) (j : Int) : hD k j = 0 := by
  unfold hD am_T
  rcases hs with e | e
  · rw [e]; rfl
  · rw [e]; rfl
theorem hz_F : ∀ k : Fin 159, 35 ≤ k.val → k.val < 137 → k.val = 115 ∨ k.val = 116 ∨ k.val % 10 = 5 ∧ k.val < 115 ∨ k.val = 117 ∨ k.val = 127 ∨ (am_SH k.val).1 = 100 ∨ (am_SH k.val).1 = 101 := by decide +kernel
theorem hA5_f {k j : Int} (hk : 33 ≤ k) : hA5 k j = hD k j := by
  unfold hA5 hA4 hA3 hA2 hA1 tnR shI grR txR
  simp (disch := omega) only [up_ne]
theorem hA5_z : ∀ k j, 35 ≤ k → k < 115 → ¬ (k = 35 ∨ k = 45 ∨ k = 55 ∨ k = 65 ∨ k = 75 ∨ k = 85 ∨ k = 95 ∨ k = 105) → hA5 k j = 0 := fun k j a b c => by
  rw [hA5_f (by omega)]
  have q := hz_F ⟨k.toNat, by omega⟩
  dsimp only at q
  exact hD_0 (by omega) (by omega) j
theorem hA6_f {k j : Int} (hk : 115 ≤ k) : hA6 k j = hD k j := by
  unfold hA6 hiR slR shI
  simp (disch := omega) only [up_ne]
  exact hA5_f (by omega)
theorem hA6_z : ∀ k j, 117 ≤ k → k < 137 → ¬ (k = 117 ∨ k = 127) → hA6 k j = 0 := fun k j a b c => by
  rw [hA6_f (by omega)]
  have q := hz_F ⟨k.toNat, by omega⟩
  dsimp only at q
  exact hD_0 (by omega) (by omega) j
theorem hA6_q (j : Int) : hA6 116 j = -1 := by
  rw [hA6_f (by omega)]
  rfl
theorem hA7_f {k j : Int} (hk : 137 ≤ k) : hA7 k j = hD k j := by
  unfold hA7 svR shI
  simp (disch := omega) only [up_ne]
  exact hA6_f (by omega)
theorem hA7_q (j : Int) : hA7 137 j = 0 := by
  rw [hA7_f (by omega)]
  rfl
theorem hA8_q (j : Int) : hA8 139 j = 0 := by
  unfold hA8
  rw [up_ne (by omega), hA7_f (by omega)]
  rfl
theorem ac_X8_init {qz : Nat × (Nat → Int)} {K : AO → Nat → AH → Prop} (k : K (.inl none) 140 hA) : AD qz mX8_init 4 139 7277 1 [(2, 0)] hD K := by
  refine ad_of (ls := [(2, 0)]) pn_X8 rfl (Nat.le_of_ble_eq_true rfl) rfl ?_
  refine za_al0 (by decide) dX8_init_0 ?_
  refine zaw_objinit dX8_init_1 (by decide) ⟨ml_X8_1, ow_1, ow_2⟩ ⟨by decide, Nat.le_of_ble_eq_true rfl⟩ ?_
  refine za_al0 (by decide) dX8_init_4 ?_
  refine zaw_new (by decide) dX8_init_5 cls_0 cq_X8_7 iq_X0 jq_X0 rfl (by decide) ⟨by decide, by decide⟩ (by decide +kernel) ?_
  refine zaw_dup dX8_init_8 rfl ?_
  refine zaw_callIN 2 3 612 dX8_init_9 yw_X0_init ml_X8_9 in_X0_init rfl rfl (ci := 0) rfl ⟨by decide, by decide, by decide, rfl⟩ (as := []) rfl rfl ⟨by decide, by decide, by decide, Nat.le_of_ble_eq_true rfl⟩ ?_
  refine ac_X0_init (by decide) (fun _ => rfl) (fun _ => rfl) ?_
  refine az_cv ?_
  refine zaw_putF 0 (by decide) (by decide) (by decide) dX8_init_12 ff_X8_10 (fun a => ⟨rfl, rfl⟩) rfl ⟨by decide, by decide, by decide, rfl⟩ rfl ?_
  show AZ _ mX8_init _ _ _ _ _ _ _ _ hA1
  refine za_al0 (by decide) dX8_init_15 ?_
  refine za_al0 (by decide) dX8_init_16 ?_
  refine zaw_getV 0 1 dX8_init_17 fl_X8_10 ⟨by decide, by decide, by decide, rfl⟩ rfl rfl ?_
  refine zaw_getV 0 2 dX8_init_20 fl_X8_16 ⟨by decide, by decide, by decide, rfl⟩ rfl rfl ?_
  refine zaw_putF 1 (by decide) (by decide) (by decide) dX8_init_23 ff_X8_20 (fun a => ⟨rfl, rfl⟩) rfl ⟨by decide, by decide, by decide, rfl⟩ rfl ?_
  show AZ _ mX8_init _ _ _ _ _ _ _ _ hA2
  refine za_al0 (by decide) dX8_init_26 ?_
  refine zaw_new (by decide) dX8_init_27 cls_2 cq_X8_21 iq_X3 jq_X3 rfl (by decide) ⟨by decide, by decide⟩ (by decide +kernel) ?_
  refine zaw_dup dX8_init_30 rfl ?_
  refine zaw_callIN 1 9 498 dX8_init_31 yw_X3_init ml_X8_23 in_X3_init rfl rfl (ci := 2) rfl ⟨by decide, by decide, by decide, rfl⟩ (as := []) rfl rfl ⟨by decide, by decide, by decide, Nat.le_of_ble_eq_true rfl⟩ ?_
  refine ac_X3_init (b := 5) (by decide) rfl rfl rfl rfl rfl rfl rfl rfl rfl rfl (fun _ => rfl) (fun _ => rfl) (fun _ => rfl) (fun _ => rfl) (fun _ => rfl) (fun _ => rfl) (fun _ => rfl) (fun _ => rfl) (fun _ => rfl) ?_
  refine az_cv ?_
  refine zaw_putF 2 (by decide) (by decide) (by decide) dX8_init_34 ff_X8_24 (fun a => ⟨rfl, rfl⟩) rfl ⟨by decide, by decide, by decide, rfl⟩ rfl ?_
  show AZ _ mX8_init _ _ _ _ _ _ _ _ hA3
  refine za_al0 (by decide) dX8_init_37 ?_
  refine zaw_new (by decide) dX8_init_38 cls_2 cq_X8_21 iq_X3 jq_X3 rfl (by decide) ⟨by decide, by decide⟩ (by decide +kernel) ?_
  refine zaw_dup dX8_init_41 rfl ?_
  refine zaw_callIN 1 9 498 dX8_init_42 yw_X3_init ml_X8_23 in_X3_init rfl rfl (ci := 2) rfl ⟨by decide, by decide, by decide, rfl⟩ (as := []) rfl rfl ⟨by decide, by decide, by decide, Nat.le_of_ble_eq_true rfl⟩ ?_
  refine ac_X3_init (b := 15) (by decide) rfl rfl rfl rfl rfl rfl rfl rfl rfl rfl (fun _ => rfl) (fun _ => rfl) (fun _ => rfl) (fun _ => rfl) (fun _ => rfl) (fun _ => rfl) (fun _ => rfl) (fun _ => rfl) (fun _ => rfl) ?_
  refine az_cv ?_
  refine zaw_putF 3 (by decide) (by decide) (by decide) dX8_init_45 ff_X8_28 (fun a => ⟨rfl, rfl⟩) rfl ⟨by decide, by decide, by decide, rfl⟩ rfl ?_
  show AZ _ mX8_init _ _ _ _ _ _ _ _ hA4
  refine za_al0 (by decide) dX8_init_48 ?_
  refine zaw_new (by decide) dX8_init_49 cls_5 cq_X8_31 iq_X6 jq_X6 rfl (by decide) ⟨by decide, by decide⟩ (by decide +kernel) ?_
  refine zaw_dup dX8_init_52 rfl ?_
  refine zaw_callIN 1 6 204 dX8_init_53 yw_X6_init ml_X8_33 in_X6_init rfl rfl (ci := 5) rfl ⟨by decide, by decide, by decide, rfl⟩ (as := []) rfl rfl ⟨by decide, by decide, by decide, Nat.le_of_ble_eq_true rfl⟩ ?_
  refine ac_X6_init (fun _ => rfl) (fun _ => rfl) (fun _ => rfl) (fun _ => rfl) (fun _ => rfl) (fun _ => rfl) ?_
  refine az_cv ?_
  refine zaw_putF 4 (by decide) (by decide) (by decide) dX8_init_56 ff_X8_34 (fun a => ⟨rfl, rfl⟩) rfl ⟨by decide, by decide, by decide, rfl⟩ rfl ?_
  show AZ _ mX8_init _ _ _ _ _ _ _ _ hA5
  refine za_al0 (by decide) dX8_init_59 ?_
  refine zaw_new (by decide) dX8_init_60 cls_1 cq_X8_38 iq_X1 jq_X1 rfl (by decide) ⟨by decide, by decide⟩ (by decide +kernel) ?_
  refine zaw_dup dX8_init_63 rfl ?_
  refine zaw_callDN 3 82 4137 dX8_init_64 yw_X1_init ml_X8_40 in_X1_init rfl rfl (ci := 1) rfl ⟨by decide, by decide, by decide, rfl⟩ (as := []) rfl rfl ⟨by decide, by decide, by decide, Nat.le_of_ble_eq_true rfl⟩ ?_
  refine ac_X1_init (by decide) (fun _ => rfl) (by decide +kernel) (by decide +kernel) (by decide +kernel) (by decide +kernel) (by decide +kernel) (by decide +kernel) (by decide +kernel) (by decide +kernel) hA5_z ?_
  refine az_cv ?_
  refine zaw_putF 5 (by decide) (by decide) (by decide) dX8_init_67 ff_X8_41 (fun a => ⟨rfl, rfl⟩) rfl ⟨by decide, by decide, by decide, rfl⟩ rfl ?_
  show AZ _ mX8_init _ _ _ _ _ _ _ _ hA6
  refine za_al0 (by decide) dX8_init_70 ?_
  refine zaw_new (by decide) dX8_init_71 cls_3 cq_X8_45 iq_X4 jq_X4 rfl (by decide) ⟨by decide, by decide⟩ (by decide +kernel) ?_
  refine zaw_dup dX8_init_74 rfl ?_
  refine zaw_iconst dX8_init_75 (by decide) ?_
  refine zaw_callD 2 21 1034 dX8_init_76 yw_X4_init ml_X8_47 in_X4_init rfl rfl (ci := 3) rfl ⟨by decide, by decide, by decide, rfl⟩ (as := [_]) rfl rfl ⟨by decide, by decide, by decide, Nat.le_of_ble_eq_true rfl⟩ ?_
  refine ac_X4_init_115 hA6_q (by decide +kernel) (by decide +kernel) hA6_z ?_
  refine az_cv ?_
  refine zaw_putF 6 (by decide) (by decide) (by decide) dX8_init_79 ff_X8_50 (fun a => ⟨rfl, rfl⟩) rfl ⟨by decide, by decide, by decide, rfl⟩ rfl ?_
  show AZ _ mX8_init _ _ _ _ _ _ _ _ hA7
  refine za_al0 (by decide) dX8_init_82 ?_
  refine zaw_iconst dX8_init_83 (by decide) ?_
  refine zaw_naz (N := 2) (by decide) (am_RR_lt (by decide)) dX8_init_84 aq_z rfl (by decide) (Nat.le_of_ble_eq_true rfl) ⟨by decide, by decide⟩ hA7_q ?_
  refine zaw_putF 7 (by decide) (by decide) (by decide) dX8_init_86 ff_X8_54 (fun a => ⟨rfl, rfl⟩) rfl ⟨by decide, by decide, by decide, rfl⟩ rfl ?_
  show AZ _ mX8_init _ _ _ _ _ _ _ _ hA8
  refine za_al0 (by decide) dX8_init_89 ?_
  refine zaw_new (by decide) dX8_init_90 cls_6 cq_X8_58 iq_X7 jq_X7 rfl (by decide) ⟨by decide, by decide⟩ (by decide +kernel) ?_
  refine zaw_dup dX8_init_93 rfl ?_
  refine zaw_callIN 1 1 240 dX8_init_94 yw_X7_init ml_X8_60 in_X7_init rfl rfl (ci := 6) rfl ⟨by decide, by decide, by decide, rfl⟩ (as := []) rfl rfl ⟨by decide, by decide, by decide, Nat.le_of_ble_eq_true rfl⟩ ?_
  refine ac_X7_init hA8_q ?_
  refine az_cv ?_
  refine zaw_putF 8 (by decide) (by decide) (by decide) dX8_init_97 ff_X8_61 (fun a => ⟨rfl, rfl⟩) rfl ⟨by decide, by decide, by decide, rfl⟩ rfl ?_
  show AZ _ mX8_init _ _ _ _ _ _ _ _ hA9
  refine za_al0 (by decide) dX8_init_100 ?_
  refine zaw_getV 2 5 dX8_init_101 fl_X8_24 ⟨by decide, by decide, by decide, rfl⟩ rfl rfl ?_
  refine zaw_callV 3 0 0 dX8_init_104 yw_X3_clear ml_X8_65 in_X3_clear se_X3_clear (ci := 2) rfl ⟨by decide, by decide, by decide, rfl⟩ (as := []) rfl rfl ⟨by decide, by decide, by decide, Nat.le_of_ble_eq_true rfl⟩ ?_
  refine ac_clearN rfl rfl rfl ?_
  refine az_cv ?_
  show AZ _ mX8_init _ _ _ _ _ _ _ _ hAa
  refine za_al0 (by decide) dX8_init_107 ?_
  refine zaw_getV 2 5 dX8_init_108 fl_X8_24 ⟨by decide, by decide, by decide, rfl⟩ rfl rfl ?_
  refine zaw_bipush dX8_init_111 (by decide) ?_
  refine zaw_put 0 dX8_init_113 fp_X8_68 ⟨by decide, by decide, by decide, rfl⟩ rfl ?_
  refine za_al0 (by decide) dX8_init_116 ?_
  refine zaw_getV 2 5 dX8_init_117 fl_X8_24 ⟨by decide, by decide, by decide, rfl⟩ rfl rfl ?_
  refine zaw_bipush dX8_init_120 (by decide) ?_
  refine zaw_put 1 dX8_init_122 fp_X8_72 ⟨by decide, by decide, by decide, rfl⟩ rfl ?_
  refine za_al0 (by decide) dX8_init_125 ?_
  refine zaw_getV 2 5 dX8_init_126 fl_X8_24 ⟨by decide, by decide, by decide, rfl⟩ rfl rfl ?_
  refine zaw_iconst dX8_init_129 (by decide) ?_
  refine zaw_put 2 dX8_init_130 fp_X8_75 ⟨by decide, by decide, by decide, rfl⟩ rfl ?_
  refine zaw_vret dX8_init_133 rfl ?_
  exact k
theorem fillH_ne {h : AH} {a n v k x : Int} (hk : k ≠ a) : fillH h a n v k x = h k x := by
  unfold fillH
  exact if_neg (fun q => hk q.1)
def mdR (h : AH) : AH := up (up (up (up (up (up (up (up (up (up (up (up (up (up (up (up (up (h) 140 0 141) 140 1 142) 140 2 143) 140 3 144) 140 4 145) 140 5 146) 140 8 147) 140 16 (-1)) 140 17 148) 140 18 149) 140 19 150) 140 20 151) 140 21 152) 140 22 153) 140 23 154) 140 25 155) 140 26 156
def mdS (h : AH) : AH := up (up (up (up (fillH (mdR h) 141 1256 0) 141 6 5) 141 0 10) 141 1 10) 141 2 1
theorem ac_X9_init {h : AH} {K : AO → Nat → AH → Prop} (d0 : ∀ j, h 141 j = 0) (d1 : ∀ j, h 142 j = 0) (d2 : ∀ j, h 143 j = 0) (d3 : ∀ j, h 144 j = 0) (d4 : ∀ j, h 145 j = 0) (d5 : ∀ j, h 146 j = 0) (d6 : ∀ j, h 147 j = 0) (d7 : ∀ j, h 148 j = 0) (d8 : ∀ j, h 149 j = 0) (d9 : ∀ j, h 150 j = 0) (d10 : ∀ j, h 151 j = 0) (d11 : ∀ j, h 152 j = 0) (d12 : ∀ j, h 153 j = 0) (d13 : ∀ j, h 154 j = 0) (d14 : ∀ j, h 155 j = 0) (d15 : ∀ j, h 156 j = 0) (k : K (.inl none) 157 (mdS h)) : AC mX9_init 2 16 18094 141 [(2, 140)] h K := by
  unfold mdS mdR at k
  refine ac_of (ls := [(2, 140)]) pn_X9 rfl (Nat.le_of_ble_eq_true rfl) rfl ?_
  refine a_al0 (by decide) dX9_init_0 ?_
  refine aw_objinit dX9_init_1 (by decide) ⟨ml_X9_1, ow_1, ow_2⟩ ⟨by decide, Nat.le_of_ble_eq_true rfl⟩ ?_
  refine a_al0 (by decide) dX9_init_4 ?_
  refine aw_sipush dX9_init_5 (by decide) ?_
  refine aw_nai (N := 1256) (by decide) (am_RR_lt (by decide)) dX9_init_8 aq_i rfl (by decide) (Nat.le_of_ble_eq_true rfl) ⟨by decide, by decide⟩ d0 ?_
  refine aw_putF 0 (by decide) (by decide) (by decide) dX9_init_10 ff_X9_7 (fun a => ⟨rfl, rfl⟩) rfl ⟨by decide, by decide, by decide, rfl⟩ rfl ?_
  refine a_al0 (by decide) dX9_init_13 ?_
  refine aw_sipush dX9_init_14 (by decide) ?_
  refine aw_nai (N := 1256) (by decide) (am_RR_lt (by decide)) dX9_init_17 aq_i rfl (by decide) (Nat.le_of_ble_eq_true rfl) ⟨by decide, by decide⟩ (fun j => by simp (disch := omega) only [up_ne]; exact d1 j) ?_
  refine aw_putF 1 (by decide) (by decide) (by decide) dX9_init_19 ff_X9_13 (fun a => ⟨rfl, rfl⟩) rfl ⟨by decide, by decide, by decide, rfl⟩ rfl ?_
  refine a_al0 (by decide) dX9_init_22 ?_
  refine aw_sipush dX9_init_23 (by decide) ?_
  refine aw_nai (N := 1256) (by decide) (am_RR_lt (by decide)) dX9_init_26 aq_i rfl (by decide) (Nat.le_of_ble_eq_true rfl) ⟨by decide, by decide⟩ (fun j => by simp (disch := omega) only [up_ne]; exact d2 j) ?_
  refine aw_putF 2 (by decide) (by decide) (by decide) dX9_init_28 ff_X9_16 (fun a => ⟨rfl, rfl⟩) rfl ⟨by decide, by decide, by decide, rfl⟩ rfl ?_
  refine a_al0 (by decide) dX9_init_31 ?_
  refine aw_sipush dX9_init_32 (by decide) ?_
  refine aw_nai (N := 10048) (by decide) (am_RR_lt (by decide)) dX9_init_35 aq_i rfl (by decide) (Nat.le_of_ble_eq_true rfl) ⟨by decide, by decide⟩ (fun j => by simp (disch := omega) only [up_ne]; exact d3 j) ?_
  refine aw_putF 3 (by decide) (by decide) (by decide) dX9_init_37 ff_X9_19 (fun a => ⟨rfl, rfl⟩) rfl ⟨by decide, by decide, by decide, rfl⟩ rfl ?_
  refine a_al0 (by decide) dX9_init_40 ?_
  refine aw_sipush dX9_init_41 (by decide) ?_
  refine aw_nai (N := 2512) (by decide) (am_RR_lt (by decide)) dX9_init_44 aq_i rfl (by decide) (Nat.le_of_ble_eq_true rfl) ⟨by decide, by decide⟩ (fun j => by simp (disch := omega) only [up_ne]; exact d4 j) ?_
  refine aw_putF 4 (by decide) (by decide) (by decide) dX9_init_46 ff_X9_22 (fun a => ⟨rfl, rfl⟩) rfl ⟨by decide, by decide, by decide, rfl⟩ rfl ?_
  refine a_al0 (by decide) dX9_init_49 ?_
  refine aw_iconst dX9_init_50 (by decide) ?_
  refine aw_naz (N := 2) (by decide) (am_RR_lt (by decide)) dX9_init_51 aq_z rfl (by decide) (Nat.le_of_ble_eq_true rfl) ⟨by decide, by decide⟩ (fun j => by simp (disch := omega) only [up_ne]; exact d5 j) ?_
  refine aw_putF 5 (by decide) (by decide) (by decide) dX9_init_53 ff_X9_25 (fun a => ⟨rfl, rfl⟩) rfl ⟨by decide, by decide, by decide, rfl⟩ rfl ?_
  refine a_al0 (by decide) dX9_init_56 ?_
  refine aw_sipush dX9_init_57 (by decide) ?_
  refine aw_nai (N := 600) (by decide) (am_RR_lt (by decide)) dX9_init_60 aq_i rfl (by decide) (Nat.le_of_ble_eq_true rfl) ⟨by decide, by decide⟩ (fun j => by simp (disch := omega) only [up_ne]; exact d6 j) ?_
  refine aw_putF 8 (by decide) (by decide) (by decide) dX9_init_62 ff_X9_29 (fun a => ⟨rfl, rfl⟩) rfl ⟨by decide, by decide, by decide, rfl⟩ rfl ?_
  refine a_al0 (by decide) dX9_init_65 ?_
  refine aw_iconst dX9_init_66 (by decide) ?_
  refine aw_put 16 dX9_init_67 fp_X9_32 ⟨by decide, by decide, by decide, rfl⟩ rfl ?_
  refine a_al0 (by decide) dX9_init_70 ?_
  refine aw_bipush dX9_init_71 (by decide) ?_
  refine aw_nai (N := 32) (by decide) (am_RR_lt (by decide)) dX9_init_73 aq_i rfl (by decide) (Nat.le_of_ble_eq_true rfl) ⟨by decide, by decide⟩ (fun j => by simp (disch := omega) only [up_ne]; exact d7 j) ?_
  refine aw_putF 17 (by decide) (by decide) (by decide) dX9_init_75 ff_X9_36 (fun a => ⟨rfl, rfl⟩) rfl ⟨by decide, by decide, by decide, rfl⟩ rfl ?_
  refine a_al0 (by decide) dX9_init_78 ?_
  refine aw_bipush dX9_init_79 (by decide) ?_
  refine aw_naz (N := 12) (by decide) (am_RR_lt (by decide)) dX9_init_81 aq_z rfl (by decide) (Nat.le_of_ble_eq_true rfl) ⟨by decide, by decide⟩ (fun j => by simp (disch := omega) only [up_ne]; exact d8 j) ?_
  refine aw_putF 18 (by decide) (by decide) (by decide) dX9_init_83 ff_X9_39 (fun a => ⟨rfl, rfl⟩) rfl ⟨by decide, by decide, by decide, rfl⟩ rfl ?_
  refine a_al0 (by decide) dX9_init_86 ?_
  refine aw_bipush dX9_init_87 (by decide) ?_
  refine aw_nai (N := 12) (by decide) (am_RR_lt (by decide)) dX9_init_89 aq_i rfl (by decide) (Nat.le_of_ble_eq_true rfl) ⟨by decide, by decide⟩ (fun j => by simp (disch := omega) only [up_ne]; exact d9 j) ?_
  refine aw_putF 19 (by decide) (by decide) (by decide) dX9_init_91 ff_X9_42 (fun a => ⟨rfl, rfl⟩) rfl ⟨by decide, by decide, by decide, rfl⟩ rfl ?_
  refine a_al0 (by decide) dX9_init_94 ?_
  refine aw_bipush dX9_init_95 (by decide) ?_
  refine aw_nai (N := 12) (by decide) (am_RR_lt (by decide)) dX9_init_97 aq_i rfl (by decide) (Nat.le_of_ble_eq_true rfl) ⟨by decide, by decide⟩ (fun j => by simp (disch := omega) only [up_ne]; exact d10 j) ?_
  refine aw_putF 20 (by decide) (by decide) (by decide) dX9_init_99 ff_X9_45 (fun a => ⟨rfl, rfl⟩) rfl ⟨by decide, by decide, by decide, rfl⟩ rfl ?_
  refine a_al0 (by decide) dX9_init_102 ?_
  refine aw_bipush dX9_init_103 (by decide) ?_
  refine aw_nai (N := 12) (by decide) (am_RR_lt (by decide)) dX9_init_105 aq_i rfl (by decide) (Nat.le_of_ble_eq_true rfl) ⟨by decide, by decide⟩ (fun j => by simp (disch := omega) only [up_ne]; exact d11 j) ?_
  refine aw_putF 21 (by decide) (by decide) (by decide) dX9_init_107 ff_X9_48 (fun a => ⟨rfl, rfl⟩) rfl ⟨by decide, by decide, by decide, rfl⟩ rfl ?_
  refine a_al0 (by decide) dX9_init_110 ?_
  refine aw_bipush dX9_init_111 (by decide) ?_
  refine aw_nai (N := 12) (by decide) (am_RR_lt (by decide)) dX9_init_113 aq_i rfl (by decide) (Nat.le_of_ble_eq_true rfl) ⟨by decide, by decide⟩ (fun j => by simp (disch := omega) only [up_ne]; exact d12 j) ?_
  refine aw_putF 22 (by decide) (by decide) (by decide) dX9_init_115 ff_X9_51 (fun a => ⟨rfl, rfl⟩) rfl ⟨by decide, by decide, by decide, rfl⟩ rfl ?_
  refine a_al0 (by decide) dX9_init_118 ?_
  refine aw_sipush dX9_init_119 (by decide) ?_
  refine aw_nai (N := 144) (by decide) (am_RR_lt (by decide)) dX9_init_122 aq_i rfl (by decide) (Nat.le_of_ble_eq_true rfl) ⟨by decide, by decide⟩ (fun j => by simp (disch := omega) only [up_ne]; exact d13 j) ?_
  refine aw_putF 23 (by decide) (by decide) (by decide) dX9_init_124 ff_X9_54 (fun a => ⟨rfl, rfl⟩) rfl ⟨by decide, by decide, by decide, rfl⟩ rfl ?_
  refine a_al0 (by decide) dX9_init_127 ?_
  refine aw_bipush dX9_init_128 (by decide) ?_
  refine aw_nai (N := 72) (by decide) (am_RR_lt (by decide)) dX9_init_130 aq_i rfl (by decide) (Nat.le_of_ble_eq_true rfl) ⟨by decide, by decide⟩ (fun j => by simp (disch := omega) only [up_ne]; exact d14 j) ?_
  refine aw_putF 25 (by decide) (by decide) (by decide) dX9_init_132 ff_X9_57 (fun a => ⟨rfl, rfl⟩) rfl ⟨by decide, by decide, by decide, rfl⟩ rfl ?_
  refine a_al0 (by decide) dX9_init_135 ?_
  refine aw_sipush dX9_init_136 (by decide) ?_
  refine aw_nai (N := 400) (by decide) (am_RR_lt (by decide)) dX9_init_139 aq_i rfl (by decide) (Nat.le_of_ble_eq_true rfl) ⟨by decide, by decide⟩ (fun j => by simp (disch := omega) only [up_ne]; exact d15 j) ?_
  refine aw_putF 26 (by decide) (by decide) (by decide) dX9_init_141 ff_X9_60 (fun a => ⟨rfl, rfl⟩) rfl ⟨by decide, by decide, by decide, rfl⟩ rfl ?_
  refine a_al0 (by decide) dX9_init_144 ?_
  refine aw_callV 1 0 0 dX9_init_145 yw_X9_begins ml_X9_63 in_X9_begins se_X9_begins (ci := 8) rfl ⟨by decide, by decide, by decide, rfl⟩ (as := []) rfl rfl ⟨by decide, by decide, by decide, Nat.le_of_ble_eq_true rfl⟩ ?_
  refine ac_beginsN (by simp (disch := omega) only [up_ne, up_at]; rfl) ?_
  refine am_cv ?_
  refine a_al0 (by decide) dX9_init_148 ?_
  refine aw_getV 0 141 dX9_init_149 fl_X9_7 ⟨by decide, by decide, by decide, rfl⟩ rfl (by simp (disch := omega) only [up_ne, up_at, fillH_ne]; rfl) ?_
  refine aw_iconst dX9_init_152 (by decide) ?_
  refine aw_bipush dX9_init_153 (by decide) ?_
  refine aw_iast (len := 1256) dX9_init_155 ⟨by decide, by decide, by decide, rfl⟩ (by decide) ?_
  refine a_al0 (by decide) dX9_init_156 ?_
  refine aw_getV 0 141 dX9_init_157 fl_X9_7 ⟨by decide, by decide, by decide, rfl⟩ rfl (by simp (disch := omega) only [up_ne, up_at, fillH_ne]; rfl) ?_
  refine aw_iconst dX9_init_160 (by decide) ?_
  refine aw_bipush dX9_init_161 (by decide) ?_
  refine aw_iast (len := 1256) dX9_init_163 ⟨by decide, by decide, by decide, rfl⟩ (by decide) ?_
  refine a_al0 (by decide) dX9_init_164 ?_
  refine aw_getV 0 141 dX9_init_165 fl_X9_7 ⟨by decide, by decide, by decide, rfl⟩ rfl (by simp (disch := omega) only [up_ne, up_at, fillH_ne]; rfl) ?_
  refine aw_iconst dX9_init_168 (by decide) ?_
  refine aw_iconst dX9_init_169 (by decide) ?_
  refine aw_iast (len := 1256) dX9_init_170 ⟨by decide, by decide, by decide, rfl⟩ (by decide) ?_
  refine aw_vret dX9_init_171 rfl ?_
  exact k
