/-! constructors -/
theorem aq_i : Cond.arrayClass .int ∈ am_WS := (am_mt 77 (by decide +kernel) (by decide +kernel))
theorem aq_l : Cond.arrayClass .long ∈ am_WS := (am_mt 90 (by decide +kernel) (by decide +kernel))
theorem aq_z : Cond.arrayClass .boolean ∈ am_WS := (am_mt 211 (by decide +kernel) (by decide +kernel))
theorem aq_d : Cond.arrayClass .double ∈ am_WS := (am_mt 1658 (by decide +kernel) (by decide +kernel))
theorem cq_X4_13 : Cond.classLink RX4 13 "FleetSheet$Sheet" ∈ am_WS := (am_mt 227 (by decide +kernel) (by decide +kernel))
theorem iq_X0 : Cond.instantiable RX0 3 ∈ am_WS := (am_mt 34 (by decide +kernel) (by decide +kernel))
theorem jq_X0 : Cond.initialized RX0 ∈ am_WS := (am_mt 2 (by decide +kernel) (by decide +kernel))
theorem iq_X1 : Cond.instantiable RX1 3 ∈ am_WS := (am_mt 213 (by decide +kernel) (by decide +kernel))
theorem jq_X1 : Cond.initialized RX1 ∈ am_WS := (am_mt 6 (by decide +kernel) (by decide +kernel))
theorem iq_X3 : Cond.instantiable RX3 18 ∈ am_WS := (am_mt 92 (by decide +kernel) (by decide +kernel))
theorem jq_X3 : Cond.initialized RX3 ∈ am_WS := (am_mt 4 (by decide +kernel) (by decide +kernel))
theorem iq_X4 : Cond.instantiable RX4 1 ∈ am_WS := (am_mt 219 (by decide +kernel) (by decide +kernel))
theorem jq_X4 : Cond.initialized RX4 ∈ am_WS := (am_mt 7 (by decide +kernel) (by decide +kernel))
theorem iq_X5 : Cond.instantiable RX5 8 ∈ am_WS := (am_mt 40 (by decide +kernel) (by decide +kernel))
theorem jq_X5 : Cond.initialized RX5 ∈ am_WS := (am_mt 3 (by decide +kernel) (by decide +kernel))
theorem iq_X6 : Cond.instantiable RX6 7 ∈ am_WS := (am_mt 181 (by decide +kernel) (by decide +kernel))
theorem jq_X6 : Cond.initialized RX6 ∈ am_WS := (am_mt 5 (by decide +kernel) (by decide +kernel))
theorem iq_X7 : Cond.instantiable RX7 2 ∈ am_WS := (am_mt 248 (by decide +kernel) (by decide +kernel))
theorem jq_X7 : Cond.initialized RX7 ∈ am_WS := (am_mt 9 (by decide +kernel) (by decide +kernel))
theorem iq_X8 : Cond.instantiable RX8 9 ∈ am_WS := (am_mt 26 (by decide +kernel) (by decide +kernel))
theorem jq_X8 : Cond.initialized RX8 ∈ am_WS := (am_mt 1 (by decide +kernel) (by decide +kernel))
theorem iq_X9 : Cond.instantiable RX9 28 ∈ am_WS := (am_mt 1161 (by decide +kernel) (by decide +kernel))
theorem jq_X9 : Cond.initialized RX9 ∈ am_WS := (am_mt 11 (by decide +kernel) (by decide +kernel))
theorem cq_X8_7 : Cond.classLink RX8 7 RX0 ∈ am_WS := (am_mt 33 (by decide +kernel) (by decide +kernel))
theorem cq_X8_21 : Cond.classLink RX8 21 RX3 ∈ am_WS := (am_mt 91 (by decide +kernel) (by decide +kernel))
theorem cq_X8_31 : Cond.classLink RX8 31 RX6 ∈ am_WS := (am_mt 180 (by decide +kernel) (by decide +kernel))
theorem cq_X8_38 : Cond.classLink RX8 38 RX1 ∈ am_WS := (am_mt 212 (by decide +kernel) (by decide +kernel))
theorem cq_X8_45 : Cond.classLink RX8 45 RX4 ∈ am_WS := (am_mt 245 (by decide +kernel) (by decide +kernel))
theorem cq_X8_58 : Cond.classLink RX8 58 RX7 ∈ am_WS := (am_mt 247 (by decide +kernel) (by decide +kernel))
theorem cq_X0_9 : Cond.classLink RX0 9 RX5 ∈ am_WS := (am_mt 39 (by decide +kernel) (by decide +kernel))
theorem cq_X1_9 : Cond.classLink RX1 9 RX4 ∈ am_WS := (am_mt 218 (by decide +kernel) (by decide +kernel))
theorem cq_L_8 : Cond.classLink RL 8 RX8 ∈ am_WS := (am_mt 25 (by decide +kernel) (by decide +kernel))
theorem cq_L_106 : Cond.classLink RL 106 RX9 ∈ am_WS := (am_mt 1160 (by decide +kernel) (by decide +kernel))
theorem aw_getV {M : AMM} {d mc ms : Nat} {K : AO → Nat → AH → Prop} {n pc : Nat} {ls st : List AV} {h : AH} {b : Int} {idx ci tg : Nat} (f v : Int) (hdg : decode M.2.1 pc = .ok (.getfield idx, 3)) (hw : am_fl M.1.cls idx ci f) (hb : am_at n b ci) (ht : am_FT ci f.toNat = tg) (hv : h b f = v) (k : AW M d mc ms K n (pc + 3) ls ((tg, v) :: st) h) : AW M d mc ms K n pc ls ((2, b) :: st) h := by
  subst hv
  exact aw_get f hdg hw hb ht k
theorem zaw_getV {qz : Nat × (Nat → Int)} {M : AMM} {d mc ms : Nat} {K : AO → Nat → AH → Prop} {n pc : Nat} {ls st : List AV} {h : AH} {b : Int} {idx ci tg : Nat} (f v : Int) (hdg : decode M.2.1 pc = .ok (.getfield idx, 3)) (hw : am_fl M.1.cls idx ci f) (hb : am_at n b ci) (ht : am_FT ci f.toNat = tg) (hv : h b f = v) (k : AZ qz M d mc ms K n (pc + 3) ls ((tg, v) :: st) h) : AZ qz M d mc ms K n pc ls ((2, b) :: st) h := by
  subst hv
  exact zaw_get f hdg hw hb ht k
/-- the start: numbers 0, references null -/
def hD : AH := fun k x => if am_T k.toNat x.toNat = 2 then -1 else 0
def shI (b : Nat) (h : AH) : AH := up (up (up (up (up (up (up (up (up (h) b 9 ((b + 1 : Nat) : Int)) b 10 ((b + 2 : Nat) : Int)) b 11 ((b + 3 : Nat) : Int)) b 12 ((b + 4 : Nat) : Int)) b 13 ((b + 5 : Nat) : Int)) b 14 ((b + 6 : Nat) : Int)) b 15 ((b + 7 : Nat) : Int)) b 16 ((b + 8 : Nat) : Int)) b 17 ((b + 9 : Nat) : Int)
theorem ac_X3_init {b : Nat} {h : AH} {K : AO → Nat → AH → Prop} (hb : b + 11 < 159) (s0 : (am_SH b).1 = 2) (s1 : am_SH (b + 1) = (101, 12)) (s2 : am_SH (b + 2) = (100, 132)) (s3 : am_SH (b + 3) = (100, 12)) (s4 : am_SH (b + 4) = (100, 24)) (s5 : am_SH (b + 5) = (100, 150)) (s6 : am_SH (b + 6) = (100, 4)) (s7 : am_SH (b + 7) = (100, 4)) (s8 : am_SH (b + 8) = (100, 120)) (s9 : am_SH (b + 9) = (100, 40)) (d1 : ∀ j, h ((b + 1 : Nat) : Int) j = 0) (d2 : ∀ j, h ((b + 2 : Nat) : Int) j = 0) (d3 : ∀ j, h ((b + 3 : Nat) : Int) j = 0) (d4 : ∀ j, h ((b + 4 : Nat) : Int) j = 0) (d5 : ∀ j, h ((b + 5 : Nat) : Int) j = 0) (d6 : ∀ j, h ((b + 6 : Nat) : Int) j = 0) (d7 : ∀ j, h ((b + 7 : Nat) : Int) j = 0) (d8 : ∀ j, h ((b + 8 : Nat) : Int) j = 0) (d9 : ∀ j, h ((b + 9 : Nat) : Int) j = 0) (k : K (.inl none) (b + 10) (shI b h)) : AC mX3_init 1 9 498 (b + 1) [(2, (b : Int))] h K := by
  unfold shI at k
  have at0 : ∀ m : Nat, b < m → am_at m (b : Int) 2 := fun m q => ⟨by omega, by omega, by decide, by rw [Int.toNat_natCast]; exact s0⟩
  refine ac_of (ls := [(2, (b : Int))]) pn_X3 rfl (Nat.le_of_ble_eq_true rfl) rfl ?_
  refine a_al0 (by omega) dX3_init_0 ?_
  refine aw_objinit dX3_init_1 (by omega) ⟨ml_X3_3, ow_1, ow_2⟩ ⟨by decide, Nat.le_of_ble_eq_true rfl⟩ ?_
  refine a_al0 (by omega) dX3_init_4 ?_
  refine aw_bipush dX3_init_5 (by decide) ?_
  refine aw_nal (N := 12) (by omega) (am_RR_lt (by omega)) dX3_init_7 aq_l s1 (by decide) (Nat.le_of_ble_eq_true rfl) ⟨by decide, by decide⟩ d1 ?_
  refine aw_putF 9 (by omega) (by omega) (by omega) dX3_init_9 ff_X3_9 (fun a => ⟨rfl, rfl⟩) rfl (at0 _ (by omega)) rfl ?_
  refine a_al0 (by omega) dX3_init_12 ?_
  refine aw_sipush dX3_init_13 (by decide) ?_
  refine aw_nai (N := 132) (by omega) (am_RR_lt (by omega)) dX3_init_16 aq_i s2 (by decide) (Nat.le_of_ble_eq_true rfl) ⟨by decide, by decide⟩ (fun j => by simp (disch := omega) only [up_ne]; exact d2 j) ?_
  refine aw_putF 10 (by omega) (by omega) (by omega) dX3_init_18 ff_X3_15 (fun a => ⟨rfl, rfl⟩) rfl (at0 _ (by omega)) rfl ?_
  refine a_al0 (by omega) dX3_init_21 ?_
  refine aw_bipush dX3_init_22 (by decide) ?_
  refine aw_nai (N := 12) (by omega) (am_RR_lt (by omega)) dX3_init_24 aq_i s3 (by decide) (Nat.le_of_ble_eq_true rfl) ⟨by decide, by decide⟩ (fun j => by simp (disch := omega) only [up_ne]; exact d3 j) ?_
  refine aw_putF 11 (by omega) (by omega) (by omega) dX3_init_26 ff_X3_19 (fun a => ⟨rfl, rfl⟩) rfl (at0 _ (by omega)) rfl ?_
  refine a_al0 (by omega) dX3_init_29 ?_
  refine aw_bipush dX3_init_30 (by decide) ?_
  refine aw_nai (N := 24) (by omega) (am_RR_lt (by omega)) dX3_init_32 aq_i s4 (by decide) (Nat.le_of_ble_eq_true rfl) ⟨by decide, by decide⟩ (fun j => by simp (disch := omega) only [up_ne]; exact d4 j) ?_
  refine aw_putF 12 (by omega) (by omega) (by omega) dX3_init_34 ff_X3_22 (fun a => ⟨rfl, rfl⟩) rfl (at0 _ (by omega)) rfl ?_
  refine a_al0 (by omega) dX3_init_37 ?_
  refine aw_sipush dX3_init_38 (by decide) ?_
  refine aw_nai (N := 150) (by omega) (am_RR_lt (by omega)) dX3_init_41 aq_i s5 (by decide) (Nat.le_of_ble_eq_true rfl) ⟨by decide, by decide⟩ (fun j => by simp (disch := omega) only [up_ne]; exact d5 j) ?_
  refine aw_putF 13 (by omega) (by omega) (by omega) dX3_init_43 ff_X3_25 (fun a => ⟨rfl, rfl⟩) rfl (at0 _ (by omega)) rfl ?_
  refine a_al0 (by omega) dX3_init_46 ?_
  refine aw_iconst dX3_init_47 (by decide) ?_
  refine aw_nai (N := 4) (by omega) (am_RR_lt (by omega)) dX3_init_48 aq_i s6 (by decide) (Nat.le_of_ble_eq_true rfl) ⟨by decide, by decide⟩ (fun j => by simp (disch := omega) only [up_ne]; exact d6 j) ?_
  refine aw_putF 14 (by omega) (by omega) (by omega) dX3_init_50 ff_X3_28 (fun a => ⟨rfl, rfl⟩) rfl (at0 _ (by omega)) rfl ?_
  refine a_al0 (by omega) dX3_init_53 ?_
  refine aw_iconst dX3_init_54 (by decide) ?_
  refine aw_nai (N := 4) (by omega) (am_RR_lt (by omega)) dX3_init_55 aq_i s7 (by decide) (Nat.le_of_ble_eq_true rfl) ⟨by decide, by decide⟩ (fun j => by simp (disch := omega) only [up_ne]; exact d7 j) ?_
  refine aw_putF 15 (by omega) (by omega) (by omega) dX3_init_57 ff_X3_31 (fun a => ⟨rfl, rfl⟩) rfl (at0 _ (by omega)) rfl ?_
  refine a_al0 (by omega) dX3_init_60 ?_
  refine aw_bipush dX3_init_61 (by decide) ?_
  refine aw_nai (N := 120) (by omega) (am_RR_lt (by omega)) dX3_init_63 aq_i s8 (by decide) (Nat.le_of_ble_eq_true rfl) ⟨by decide, by decide⟩ (fun j => by simp (disch := omega) only [up_ne]; exact d8 j) ?_
  refine aw_putF 16 (by omega) (by omega) (by omega) dX3_init_65 ff_X3_34 (fun a => ⟨rfl, rfl⟩) rfl (at0 _ (by omega)) rfl ?_
  refine a_al0 (by omega) dX3_init_68 ?_
  refine aw_bipush dX3_init_69 (by decide) ?_
  refine aw_nai (N := 40) (by omega) (am_RR_lt (by omega)) dX3_init_71 aq_i s9 (by decide) (Nat.le_of_ble_eq_true rfl) ⟨by decide, by decide⟩ (fun j => by simp (disch := omega) only [up_ne]; exact d9 j) ?_
  refine aw_putF 17 (by omega) (by omega) (by omega) dX3_init_73 ff_X3_37 (fun a => ⟨rfl, rfl⟩) rfl (at0 _ (by omega)) rfl ?_
  refine aw_vret dX3_init_76 rfl ?_
  exact k
def txR (h : AH) : AH := up (up h 2 0 3) 2 3 (-1)
theorem ac_X5_init {h : AH} {K : AO → Nat → AH → Prop} (d1 : ∀ j, h 3 j = 0) (k : K (.inl none) 4 (txR h)) : AC mX5_init 1 1 600 3 [(2, 2)] h K := by
  refine ac_of (ls := [(2, 2)]) pn_X5 rfl (Nat.le_of_ble_eq_true rfl) rfl ?_
  refine a_al0 (by decide) dX5_init_0 ?_
  refine aw_objinit dX5_init_1 (by decide) ⟨ml_X5_3, ow_1, ow_2⟩ ⟨by decide, Nat.le_of_ble_eq_true rfl⟩ ?_
  refine a_al0 (by decide) dX5_init_4 ?_
  refine aw_sipush dX5_init_5 (by decide) ?_
  refine aw_nai (N := 600) (by decide) (am_RR_lt (by decide)) dX5_init_8 aq_i rfl (by decide) (Nat.le_of_ble_eq_true rfl) ⟨by decide, by decide⟩ d1 ?_
  refine aw_putF 0 (by decide) (by decide) (by decide) dX5_init_10 ff_X5_9 (fun a => ⟨rfl, rfl⟩) rfl ⟨by decide, by decide, by decide, rfl⟩ rfl ?_
  refine a_al0 (by decide) dX5_init_13 ?_
  refine aw_iconst dX5_init_14 (by decide) ?_
  refine aw_put 3 dX5_init_15 fp_X5_15 ⟨by decide, by decide, by decide, rfl⟩ rfl ?_
  refine aw_vret dX5_init_18 rfl ?_
  exact k
def grR (h : AH) : AH := up (up (txR h) 1 0 2) 1 1 4
theorem ac_X0_init {h : AH} {K : AO → Nat → AH → Prop} (e2 : ∀ j : Nat, j < 8 → h 2 j = am_df (am_FT 4 j)) (d1 : ∀ j, h 3 j = 0) (d2 : ∀ j, h 4 j = 0) (k : K (.inl none) 5 (grR h)) : AC mX0_init 2 3 612 2 [(2, 1)] h K := by
  refine ac_of (ls := [(2, 1)]) pn_X0 rfl (Nat.le_of_ble_eq_true rfl) rfl ?_
  refine a_al0 (by decide) dX0_init_0 ?_
  refine aw_objinit dX0_init_1 (by decide) ⟨ml_X0_3, ow_1, ow_2⟩ ⟨by decide, Nat.le_of_ble_eq_true rfl⟩ ?_
  refine a_al0 (by decide) dX0_init_4 ?_
  refine aw_new (by decide) dX0_init_5 cls_4 cq_X0_9 iq_X5 jq_X5 rfl (by decide) ⟨by decide, by decide⟩ e2 ?_
  refine aw_dup dX0_init_8 rfl ?_
  refine aw_callIN 1 1 600 dX0_init_9 yw_X5_init ml_X0_11 in_X5_init rfl rfl (ci := 4) rfl ⟨by decide, by decide, by decide, rfl⟩ (as := []) rfl rfl ⟨by decide, by decide, by decide, Nat.le_of_ble_eq_true rfl⟩ ?_
  refine ac_X5_init d1 ?_
  refine am_cv ?_
  refine aw_putF 0 (by decide) (by decide) (by decide) dX0_init_12 ff_X0_12 (fun a => ⟨rfl, rfl⟩) rfl ⟨by decide, by decide, by decide, rfl⟩ rfl ?_
  refine a_al0 (by decide) dX0_init_15 ?_
  refine aw_iconst dX0_init_16 (by decide) ?_
  refine aw_nal (N := 4) (by decide) (am_RR_lt (by decide)) dX0_init_17 aq_l rfl (by decide) (Nat.le_of_ble_eq_true rfl) ⟨by decide, by decide⟩ (fun j => by unfold txR; simp (disch := omega) only [up_ne]; exact d2 j) ?_
  refine aw_putF 1 (by decide) (by decide) (by decide) dX0_init_19 ff_X0_18 (fun a => ⟨rfl, rfl⟩) rfl ⟨by decide, by decide, by decide, rfl⟩ rfl ?_
  refine aw_vret dX0_init_22 rfl ?_
  exact k
def tnR (h : AH) : AH := up (up (up (up (up (up (h) 25 0 26) 25 1 27) 25 2 28) 25 3 29) 25 4 30) 25 5 31
theorem ac_X6_init {h : AH} {K : AO → Nat → AH → Prop} (d1 : ∀ j, h 26 j = 0) (d2 : ∀ j, h 27 j = 0) (d3 : ∀ j, h 28 j = 0) (d4 : ∀ j, h 29 j = 0) (d5 : ∀ j, h 30 j = 0) (d6 : ∀ j, h 31 j = 0) (k : K (.inl none) 32 (tnR h)) : AC mX6_init 1 6 204 26 [(2, 25)] h K := by
  refine ac_of (ls := [(2, 25)]) pn_X6 rfl (Nat.le_of_ble_eq_true rfl) rfl ?_
  refine a_al0 (by decide) dX6_init_0 ?_
  refine aw_objinit dX6_init_1 (by decide) ⟨ml_X6_3, ow_1, ow_2⟩ ⟨by decide, Nat.le_of_ble_eq_true rfl⟩ ?_
  refine a_al0 (by decide) dX6_init_4 ?_
  refine aw_bipush dX6_init_5 (by decide) ?_
  refine aw_naz (N := 12) (by decide) (am_RR_lt (by decide)) dX6_init_7 aq_z rfl (by decide) (Nat.le_of_ble_eq_true rfl) ⟨by decide, by decide⟩ d1 ?_
  refine aw_putF 0 (by decide) (by decide) (by decide) dX6_init_9 ff_X6_9 (fun a => ⟨rfl, rfl⟩) rfl ⟨by decide, by decide, by decide, rfl⟩ rfl ?_
  refine a_al0 (by decide) dX6_init_12 ?_
  refine aw_bipush dX6_init_13 (by decide) ?_
  refine aw_nai (N := 12) (by decide) (am_RR_lt (by decide)) dX6_init_15 aq_i rfl (by decide) (Nat.le_of_ble_eq_true rfl) ⟨by decide, by decide⟩ (fun j => by simp (disch := omega) only [up_ne]; exact d2 j) ?_
  refine aw_putF 1 (by decide) (by decide) (by decide) dX6_init_17 ff_X6_15 (fun a => ⟨rfl, rfl⟩) rfl ⟨by decide, by decide, by decide, rfl⟩ rfl ?_
  refine a_al0 (by decide) dX6_init_20 ?_
  refine aw_bipush dX6_init_21 (by decide) ?_
  refine aw_nai (N := 12) (by decide) (am_RR_lt (by decide)) dX6_init_23 aq_i rfl (by decide) (Nat.le_of_ble_eq_true rfl) ⟨by decide, by decide⟩ (fun j => by simp (disch := omega) only [up_ne]; exact d3 j) ?_
  refine aw_putF 2 (by decide) (by decide) (by decide) dX6_init_25 ff_X6_19 (fun a => ⟨rfl, rfl⟩) rfl ⟨by decide, by decide, by decide, rfl⟩ rfl ?_
  refine a_al0 (by decide) dX6_init_28 ?_
  refine aw_bipush dX6_init_29 (by decide) ?_
  refine aw_nai (N := 12) (by decide) (am_RR_lt (by decide)) dX6_init_31 aq_i rfl (by decide) (Nat.le_of_ble_eq_true rfl) ⟨by decide, by decide⟩ (fun j => by simp (disch := omega) only [up_ne]; exact d4 j) ?_
  refine aw_putF 3 (by decide) (by decide) (by decide) dX6_init_33 ff_X6_22 (fun a => ⟨rfl, rfl⟩) rfl ⟨by decide, by decide, by decide, rfl⟩ rfl ?_
  refine a_al0 (by decide) dX6_init_36 ?_
  refine aw_bipush dX6_init_37 (by decide) ?_
  refine aw_nai (N := 12) (by decide) (am_RR_lt (by decide)) dX6_init_39 aq_i rfl (by decide) (Nat.le_of_ble_eq_true rfl) ⟨by decide, by decide⟩ (fun j => by simp (disch := omega) only [up_ne]; exact d5 j) ?_
  refine aw_putF 4 (by decide) (by decide) (by decide) dX6_init_41 ff_X6_25 (fun a => ⟨rfl, rfl⟩) rfl ⟨by decide, by decide, by decide, rfl⟩ rfl ?_
  refine a_al0 (by decide) dX6_init_44 ?_
  refine aw_sipush dX6_init_45 (by decide) ?_
  refine aw_nai (N := 144) (by decide) (am_RR_lt (by decide)) dX6_init_48 aq_i rfl (by decide) (Nat.le_of_ble_eq_true rfl) ⟨by decide, by decide⟩ (fun j => by simp (disch := omega) only [up_ne]; exact d6 j) ?_
  refine aw_putF 5 (by decide) (by decide) (by decide) dX6_init_50 ff_X6_28 (fun a => ⟨rfl, rfl⟩) rfl ⟨by decide, by decide, by decide, rfl⟩ rfl ?_
  refine aw_vret dX6_init_53 rfl ?_
  exact k
def slR (h : AH) : AH := up (shI 105 (up (shI 95 (up (shI 85 (up (shI 75 (up (shI 65 (up (shI 55 (up (shI 45 (up (shI 35 (up (h) 33 0 34)) 34 0 35)) 34 1 45)) 34 2 55)) 34 3 65)) 34 4 75)) 34 5 85)) 34 6 95)) 34 7 105
theorem ac_X4_init_33 {qz : Nat × (Nat → Int)} {h : AH} {K : AO → Nat → AH → Prop} (da : ∀ j, h 34 j = -1) (e35 : ∀ j : Nat, j < 18 → h 35 j = am_df (am_FT 2 j)) (e45 : ∀ j : Nat, j < 18 → h 45 j = am_df (am_FT 2 j)) (e55 : ∀ j : Nat, j < 18 → h 55 j = am_df (am_FT 2 j)) (e65 : ∀ j : Nat, j < 18 → h 65 j = am_df (am_FT 2 j)) (e75 : ∀ j : Nat, j < 18 → h 75 j = am_df (am_FT 2 j)) (e85 : ∀ j : Nat, j < 18 → h 85 j = am_df (am_FT 2 j)) (e95 : ∀ j : Nat, j < 18 → h 95 j = am_df (am_FT 2 j)) (e105 : ∀ j : Nat, j < 18 → h 105 j = am_df (am_FT 2 j)) (dd : ∀ k j, 35 ≤ k → k < 115 → ¬ (k = 35 ∨ k = 45 ∨ k = 55 ∨ k = 65 ∨ k = 75 ∨ k = 85 ∨ k = 95 ∨ k = 105) → h k j = 0) (k : K (.inl none) 115 (slR h)) : AD qz mX4_init 2 81 4136 34 [(2, 33), (0, 8)] h K := by
  unfold slR at k
  refine ad_of (ls := [(2, 33), (0, 8), (9, 0)]) pn_X4 rfl (Nat.le_of_ble_eq_true rfl) rfl ?_
  refine za_al0 (by decide) dX4_init_0 ?_
  refine zaw_objinit dX4_init_1 (by decide) ⟨ml_X4_1, ow_1, ow_2⟩ ⟨by decide, Nat.le_of_ble_eq_true rfl⟩ ?_
  refine za_al0 (by decide) dX4_init_4 ?_
  refine zaw_iconst dX4_init_5 (by decide) ?_
  refine za_il1 dX4_init_6 ?_
  refine zaw_mmax dX4_init_7 ⟨ml_X4_7, mw_max⟩ ⟨by decide, Nat.le_of_ble_eq_true rfl⟩ ?_
  show AZ _ mX4_init _ _ _ _ _ _ _ ((0, ((8 : Nat) : Int)) :: _) _
  refine zaw_naq (N := 8) rfl (by decide) dX4_init_10 cq_X4_13 rfl (by decide) ⟨by decide, by decide⟩ da ?_
  refine zaw_putF 0 (by decide) (by decide) (by decide) dX4_init_13 ff_X4_15 (fun a => ⟨rfl, rfl⟩) rfl ⟨by decide, by decide, by decide, rfl⟩ rfl ?_
  refine zaw_iconst dX4_init_16 (by decide) ?_
  refine za_is2 rfl rfl dX4_init_17 ?_
  refine za_il2 dX4_init_18 ?_
  refine za_al0 (by decide) dX4_init_19 ?_
  refine zaw_getV 0 34 dX4_init_20 fl_X4_15 ⟨by decide, by decide, by decide, rfl⟩ rfl rfl ?_
  refine zaw_alen (kd := 102) (len := 8) (by decide) dX4_init_23 ⟨by decide, by decide, by decide, rfl⟩ (by decide) ?_
  refine zaw_icmp_ge 46 dX4_init_24 (by decide) (fun c24 => ?_) (fun c24 => ?_)
  · exact absurd c24 (by decide)
  refine za_al0 (by decide) dX4_init_27 ?_
  refine zaw_getV 0 34 dX4_init_28 fl_X4_15 ⟨by decide, by decide, by decide, rfl⟩ rfl rfl ?_
  refine za_il2 dX4_init_31 ?_
  refine zaw_new (by decide) dX4_init_32 cls_2 cq_X4_13 iq_X3 jq_X3 rfl (by decide) ⟨by decide, by decide⟩ (fun j hj => by simp (disch := omega) only [up_ne, shI]; exact e35 j hj) ?_
  refine zaw_dup dX4_init_35 rfl ?_
  refine zaw_callIN 1 9 498 dX4_init_36 yw_X3_init ml_X4_21 in_X3_init rfl rfl (ci := 2) rfl ⟨by decide, by decide, by decide, rfl⟩ (as := []) rfl rfl ⟨by decide, by decide, by decide, Nat.le_of_ble_eq_true rfl⟩ ?_
  refine ac_X3_init (b := 35) (by decide) rfl rfl rfl rfl rfl rfl rfl rfl rfl rfl (fun j => by simp (disch := omega) only [up_ne, shI]; exact dd _ j (by decide) (by decide) (by decide)) (fun j => by simp (disch := omega) only [up_ne, shI]; exact dd _ j (by decide) (by decide) (by decide)) (fun j => by simp (disch := omega) only [up_ne, shI]; exact dd _ j (by decide) (by decide) (by decide)) (fun j => by simp (disch := omega) only [up_ne, shI]; exact dd _ j (by decide) (by decide) (by decide)) (fun j => by simp (disch := omega) only [up_ne, shI]; exact dd _ j (by decide) (by decide) (by decide)) (fun j => by simp (disch := omega) only [up_ne, shI]; exact dd _ j (by decide) (by decide) (by decide)) (fun j => by simp (disch := omega) only [up_ne, shI]; exact dd _ j (by decide) (by decide) (by decide)) (fun j => by simp (disch := omega) only [up_ne, shI]; exact dd _ j (by decide) (by decide) (by decide)) (fun j => by simp (disch := omega) only [up_ne, shI]; exact dd _ j (by decide) (by decide) (by decide)) ?_
  refine az_cv ?_
  refine zaw_qast (len := 8) (by decide) dX4_init_39 ⟨by decide, by decide, by decide, rfl⟩ (by decide) ⟨by decide, by decide, by decide, rfl⟩ ?_
  refine za_iiR2 (by decide) rfl rfl dX4_init_40 ?_
  refine zaw_goto 18 dX4_init_43 (by decide) ?_
  refine za_il2 dX4_init_18 ?_
  refine za_al0 (by decide) dX4_init_19 ?_
  refine zaw_getV 0 34 dX4_init_20 fl_X4_15 ⟨by decide, by decide, by decide, rfl⟩ rfl rfl ?_
  refine zaw_alen (kd := 102) (len := 8) (by decide) dX4_init_23 ⟨by decide, by decide, by decide, rfl⟩ (by decide) ?_
  refine zaw_icmp_ge 46 dX4_init_24 (by decide) (fun c24 => ?_) (fun c24 => ?_)
  · exact absurd c24 (by decide)
  refine za_al0 (by decide) dX4_init_27 ?_
  refine zaw_getV 0 34 dX4_init_28 fl_X4_15 ⟨by decide, by decide, by decide, rfl⟩ rfl rfl ?_
  refine za_il2 dX4_init_31 ?_
  refine zaw_new (by decide) dX4_init_32 cls_2 cq_X4_13 iq_X3 jq_X3 rfl (by decide) ⟨by decide, by decide⟩ (fun j hj => by simp (disch := omega) only [up_ne, shI]; exact e45 j hj) ?_
  refine zaw_dup dX4_init_35 rfl ?_
  refine zaw_callIN 1 9 498 dX4_init_36 yw_X3_init ml_X4_21 in_X3_init rfl rfl (ci := 2) rfl ⟨by decide, by decide, by decide, rfl⟩ (as := []) rfl rfl ⟨by decide, by decide, by decide, Nat.le_of_ble_eq_true rfl⟩ ?_
  refine ac_X3_init (b := 45) (by decide) rfl rfl rfl rfl rfl rfl rfl rfl rfl rfl (fun j => by simp (disch := omega) only [up_ne, shI]; exact dd _ j (by decide) (by decide) (by decide)) (fun j => by simp (disch := omega) only [up_ne, shI]; exact dd _ j (by decide) (by decide) (by decide)) (fun j => by simp (disch := omega) only [up_ne, shI]; exact dd _ j (by decide) (by decide) (by decide)) (fun j => by simp (disch := omega) only [up_ne, shI]; exact dd _ j (by decide) (by decide) (by decide)) (fun j => by simp (disch := omega) only [up_ne, shI]; exact dd _ j (by decide) (by decide) (by decide)) (fun j => by simp (disch := omega) only [up_ne, shI]; exact dd _ j (by decide) (by decide) (by decide)) (fun j => by simp (disch := omega) only [up_ne, shI]; exact dd _ j (by decide) (by decide) (by decide)) (fun j => by simp (disch := omega) only [up_ne, shI]; exact dd _ j (by decide) (by decide) (by decide)) (fun j => by simp (disch := omega) only [up_ne, shI]; exact dd _ j (by decide) (by decide) (by decide)) ?_
  refine az_cv ?_
  refine zaw_qast (len := 8) (by decide) dX4_init_39 ⟨by decide, by decide, by decide, rfl⟩ (by decide) ⟨by decide, by decide, by decide, rfl⟩ ?_
  refine za_iiR2 (by decide) rfl rfl dX4_init_40 ?_
  refine zaw_goto 18 dX4_init_43 (by decide) ?_
  refine za_il2 dX4_init_18 ?_
  refine za_al0 (by decide) dX4_init_19 ?_
  refine zaw_getV 0 34 dX4_init_20 fl_X4_15 ⟨by decide, by decide, by decide, rfl⟩ rfl rfl ?_
  refine zaw_alen (kd := 102) (len := 8) (by decide) dX4_init_23 ⟨by decide, by decide, by decide, rfl⟩ (by decide) ?_
  refine zaw_icmp_ge 46 dX4_init_24 (by decide) (fun c24 => ?_) (fun c24 => ?_)
  · exact absurd c24 (by decide)
  refine za_al0 (by decide) dX4_init_27 ?_
  refine zaw_getV 0 34 dX4_init_28 fl_X4_15 ⟨by decide, by decide, by decide, rfl⟩ rfl rfl ?_
  refine za_il2 dX4_init_31 ?_
  refine zaw_new (by decide) dX4_init_32 cls_2 cq_X4_13 iq_X3 jq_X3 rfl (by decide) ⟨by decide, by decide⟩ (fun j hj => by simp (disch := omega) only [up_ne, shI]; exact e55 j hj) ?_
  refine zaw_dup dX4_init_35 rfl ?_
  refine zaw_callIN 1 9 498 dX4_init_36 yw_X3_init ml_X4_21 in_X3_init rfl rfl (ci := 2) rfl ⟨by decide, by decide, by decide, rfl⟩ (as := []) rfl rfl ⟨by decide, by decide, by decide, Nat.le_of_ble_eq_true rfl⟩ ?_
  refine ac_X3_init (b := 55) (by decide) rfl rfl rfl rfl rfl rfl rfl rfl rfl rfl (fun j => by simp (disch := omega) only [up_ne, shI]; exact dd _ j (by decide) (by decide) (by decide)) (fun j => by simp (disch := omega) only [up_ne, shI]; exact dd _ j (by decide) (by decide) (by decide)) (fun j => by simp (disch := omega) only [up_ne, shI]; exact dd _ j (by decide) (by decide) (by decide)) (fun j => by simp (disch := omega) only [up_ne, shI]; exact dd _ j (by decide) (by decide) (by decide)) (fun j => by simp (disch := omega) only [up_ne, shI]; exact dd _ j (by decide) (by decide) (by decide)) (fun j => by simp (disch := omega) only [up_ne, shI]; exact dd _ j (by decide) (by decide) (by decide)) (fun j => by simp (disch := omega) only [up_ne, shI]; exact dd _ j (by decide) (by decide) (by decide)) (fun j => by simp (disch := omega) only [up_ne, shI]; exact dd _ j (by decide) (by decide) (by decide)) (fun j => by simp (disch := omega) only [up_ne, shI]; exact dd _ j (by decide) (by decide) (by decide)) ?_
  refine az_cv ?_
  refine zaw_qast (len := 8) (by decide) dX4_init_39 ⟨by decide, by decide, by decide, rfl⟩ (by decide) ⟨by decide, by decide, by decide, rfl⟩ ?_
  refine za_iiR2 (by decide) rfl rfl dX4_init_40 ?_
  refine zaw_goto 18 dX4_init_43 (by decide) ?_
  refine za_il2 dX4_init_18 ?_
  refine za_al0 (by decide) dX4_init_19 ?_
  refine zaw_getV 0 34 dX4_init_20 fl_X4_15 ⟨by decide, by decide, by decide, rfl⟩ rfl rfl ?_
  refine zaw_alen (kd := 102) (len := 8) (by decide) dX4_init_23 ⟨by decide, by decide, by decide, rfl⟩ (by decide) ?_
  refine zaw_icmp_ge 46 dX4_init_24 (by decide) (fun c24 => ?_) (fun c24 => ?_)
  · exact absurd c24 (by decide)
  refine za_al0 (by decide) dX4_init_27 ?_
  refine zaw_getV 0 34 dX4_init_28 fl_X4_15 ⟨by decide, by decide, by decide, rfl⟩ rfl rfl ?_
  refine za_il2 dX4_init_31 ?_
  refine zaw_new (by decide) dX4_init_32 cls_2 cq_X4_13 iq_X3 jq_X3 rfl (by decide) ⟨by decide, by decide⟩ (fun j hj => by simp (disch := omega) only [up_ne, shI]; exact e65 j hj) ?_
  refine zaw_dup dX4_init_35 rfl ?_
  refine zaw_callIN 1 9 498 dX4_init_36 yw_X3_init ml_X4_21 in_X3_init rfl rfl (ci := 2) rfl ⟨by decide, by decide, by decide, rfl⟩ (as := []) rfl rfl ⟨by decide, by decide, by decide, Nat.le_of_ble_eq_true rfl⟩ ?_
  refine ac_X3_init (b := 65) (by decide) rfl rfl rfl rfl rfl rfl rfl rfl rfl rfl (fun j => by simp (disch := omega) only [up_ne, shI]; exact dd _ j (by decide) (by decide) (by decide)) (fun j => by simp (disch := omega) only [up_ne, shI]; exact dd _ j (by decide) (by decide) (by decide)) (fun j => by simp (disch := omega) only [up_ne, shI]; exact dd _ j (by decide) (by decide) (by decide)) (fun j => by simp (disch := omega) only [up_ne, shI]; exact dd _ j (by decide) (by decide) (by decide)) (fun j => by simp (disch := omega) only [up_ne, shI]; exact dd _ j (by decide) (by decide) (by decide)) (fun j => by simp (disch := omega) only [up_ne, shI]; exact dd _ j (by decide) (by decide) (by decide)) (fun j => by simp (disch := omega) only [up_ne, shI]; exact dd _ j (by decide) (by decide) (by decide)) (fun j => by simp (disch := omega) only [up_ne, shI]; exact dd _ j (by decide) (by decide) (by decide)) (fun j => by simp (disch := omega) only [up_ne, shI]; exact dd _ j (by decide) (by decide) (by decide)) ?_
  refine az_cv ?_
  refine zaw_qast (len := 8) (by decide) dX4_init_39 ⟨by decide, by decide, by decide, rfl⟩ (by decide) ⟨by decide, by decide, by decide, rfl⟩ ?_
  refine za_iiR2 (by decide) rfl rfl dX4_init_40 ?_
  refine zaw_goto 18 dX4_init_43 (by decide) ?_
  refine za_il2 dX4_init_18 ?_
  refine za_al0 (by decide) dX4_init_19 ?_
  refine zaw_getV 0 34 dX4_init_20 fl_X4_15 ⟨by decide, by decide, by decide, rfl⟩ rfl rfl ?_
  refine zaw_alen (kd := 102) (len := 8) (by decide) dX4_init_23 ⟨by decide, by decide, by decide, rfl⟩ (by decide) ?_
  refine zaw_icmp_ge 46 dX4_init_24 (by decide) (fun c24 => ?_) (fun c24 => ?_)
  · exact absurd c24 (by decide)
  refine za_al0 (by decide) dX4_init_27 ?_
  refine zaw_getV 0 34 dX4_init_28 fl_X4_15 ⟨by decide, by decide, by decide, rfl⟩ rfl rfl ?_
  refine za_il2 dX4_init_31 ?_
  refine zaw_new (by decide) dX4_init_32 cls_2 cq_X4_13 iq_X3 jq_X3 rfl (by decide) ⟨by decide, by decide⟩ (fun j hj => by simp (disch := omega) only [up_ne, shI]; exact e75 j hj) ?_
  refine zaw_dup dX4_init_35 rfl ?_
  refine zaw_callIN 1 9 498 dX4_init_36 yw_X3_init ml_X4_21 in_X3_init rfl rfl (ci := 2) rfl ⟨by decide, by decide, by decide, rfl⟩ (as := []) rfl rfl ⟨by decide, by decide, by decide, Nat.le_of_ble_eq_true rfl⟩ ?_
  refine ac_X3_init (b := 75) (by decide) rfl rfl rfl rfl rfl rfl rfl rfl rfl rfl (fun j => by simp (disch := omega) only [up_ne, shI]; exact dd _ j (by decide) (by decide) (by decide)) (fun j => by simp (disch := omega) only [up_ne, shI]; exact dd _ j (by decide) (by decide) (by decide)) (fun j => by simp (disch := omega) only [up_ne, shI]; exact dd _ j (by decide) (by decide) (by decide)) (fun j => by simp (disch := omega) only [up_ne, shI]; exact dd _ j (by decide) (by decide) (by decide)) (fun j => by simp (disch := omega) only [up_ne, shI]; exact dd _ j (by decide) (by decide) (by decide)) (fun j => by simp (disch := omega) only [up_ne, shI]; exact dd _ j (by decide) (by decide) (by decide)) (fun j => by simp (disch := omega) only [up_ne, shI]; exact dd _ j (by decide) (by decide) (by decide)) (fun j => by simp (disch := omega) only [up_ne, shI]; exact dd _ j (by decide) (by decide) (by decide)) (fun j => by simp (disch := omega) only [up_ne, shI]; exact dd _ j (by decide) (by decide) (by decide)) ?_
  refine az_cv ?_
  refine zaw_qast (len := 8) (by decide) dX4_init_39 ⟨by decide, by decide, by decide, rfl⟩ (by decide) ⟨by decide, by decide, by decide, rfl⟩ ?_
  refine za_iiR2 (by decide) rfl rfl dX4_init_40 ?_
  refine zaw_goto 18 dX4_init_43 (by decide) ?_
  refine za_il2 dX4_init_18 ?_
  refine za_al0 (by decide) dX4_init_19 ?_
  refine zaw_getV 0 34 dX4_init_20 fl_X4_15 ⟨by decide, by decide, by decide, rfl⟩ rfl rfl ?_
  refine zaw_alen (kd := 102) (len := 8) (by decide) dX4_init_23 ⟨by decide, by decide, by decide, rfl⟩ (by decide) ?_
  refine zaw_icmp_ge 46 dX4_init_24 (by decide) (fun c24 => ?_) (fun c24 => ?_)
  · exact absurd c24 (by decide)
  refine za_al0 (by decide) dX4_init_27 ?_
  refine zaw_getV 0 34 dX4_init_28 fl_X4_15 ⟨by decide, by decide, by decide, rfl⟩ rfl rfl ?_
  refine za_il2 dX4_init_31 ?_
  refine zaw_new (by decide) dX4_init_32 cls_2 cq_X4_13 iq_X3 jq_X3 rfl (by decide) ⟨by decide, by decide⟩ (fun j hj => by simp (disch := omega) only [up_ne, shI]; exact e85 j hj) ?_
  refine zaw_dup dX4_init_35 rfl ?_
  refine zaw_callIN 1 9 498 dX4_init_36 yw_X3_init ml_X4_21 in_X3_init rfl rfl (ci := 2) rfl ⟨by decide, by decide, by decide, rfl⟩ (as := []) rfl rfl ⟨by decide, by decide, by decide, Nat.le_of_ble_eq_true rfl⟩ ?_
  refine ac_X3_init (b := 85) (by decide) rfl rfl rfl rfl rfl rfl rfl rfl rfl rfl (fun j => by simp (disch := omega) only [up_ne, shI]; exact dd _ j (by decide) (by decide) (by decide)) (fun j => by simp (disch := omega) only [up_ne, shI]; exact dd _ j (by decide) (by decide) (by decide)) (fun j => by simp (disch := omega) only [up_ne, shI]; exact dd _ j (by decide) (by decide) (by decide)) (fun j => by simp (disch := omega) only [up_ne, shI]; exact dd _ j (by decide) (by decide) (by decide)) (fun j => by simp (disch := omega) only [up_ne, shI]; exact dd _ j (by decide) (by decide) (by decide)) (fun j => by simp (disch := omega) only [up_ne, shI]; exact dd _ j (by decide) (by decide) (by decide)) (fun j => by simp (disch := omega) only [up_ne, shI]; exact dd _ j (by decide) (by decide) (by decide)) (fun j => by simp (disch := omega) only [up_ne, shI]; exact dd _ j (by decide) (by decide) (by decide)) (fun j => by simp (disch := omega) only [up_ne, shI]; exact dd _ j (by decide) (by decide) (by decide)) ?_
  refine az_cv ?_
  refine zaw_qast (len := 8) (by decide) dX4_init_39 ⟨by decide, by decide, by decide, rfl⟩ (by decide) ⟨by decide, by decide, by decide, rfl⟩ ?_
  refine za_iiR2 (by decide) rfl rfl dX4_init_40 ?_
  refine zaw_goto 18 dX4_init_43 (by decide) ?_
  refine za_il2 dX4_init_18 ?_
  refine za_al0 (by decide) dX4_init_19 ?_
  refine zaw_getV 0 34 dX4_init_20 fl_X4_15 ⟨by decide, by decide, by decide, rfl⟩ rfl rfl ?_
  refine zaw_alen (kd := 102) (len := 8) (by decide) dX4_init_23 ⟨by decide, by decide, by decide, rfl⟩ (by decide) ?_
  refine zaw_icmp_ge 46 dX4_init_24 (by decide) (fun c24 => ?_) (fun c24 => ?_)
  · exact absurd c24 (by decide)
  refine za_al0 (by decide) dX4_init_27 ?_
  refine zaw_getV 0 34 dX4_init_28 fl_X4_15 ⟨by decide, by decide, by decide, rfl⟩ rfl rfl ?_
  refine za_il2 dX4_init_31 ?_
  refine zaw_new (by decide) dX4_init_32 cls_2 cq_X4_13 iq_X3 jq_X3 rfl (by decide) ⟨by decide, by decide⟩ (fun j hj => by simp (disch := omega) only [up_ne, shI]; exact e95 j hj) ?_
  refine zaw_dup dX4_init_35 rfl ?_
  refine zaw_callIN 1 9 498 dX4_init_36 yw_X3_init ml_X4_21 in_X3_init rfl rfl (ci := 2) rfl ⟨by decide, by decide, by decide, rfl⟩ (as := []) rfl rfl ⟨by decide, by decide, by decide, Nat.le_of_ble_eq_true rfl⟩ ?_
  refine ac_X3_init (b := 95) (by decide) rfl rfl rfl rfl rfl rfl rfl rfl rfl rfl (fun j => by simp (disch := omega) only [up_ne, shI]; exact dd _ j (by decide) (by decide) (by decide)) (fun j => by simp (disch := omega) only [up_ne, shI]; exact dd _ j (by decide) (by decide) (by decide)) (fun j => by simp (disch := omega) only [up_ne, shI]; exact dd _ j (by decide) (by decide) (by decide)) (fun j => by simp (disch := omega) only [up_ne, shI]; exact dd _ j (by decide) (by decide) (by decide)) (fun j => by simp (disch := omega) only [up_ne, shI]; exact dd _ j (by decide) (by decide) (by decide)) (fun j => by simp (disch := omega) only [up_ne, shI]; exact dd _ j (by decide) (by decide) (by decide)) (fun j => by simp (disch := omega) only [up_ne, shI]; exact dd _ j (by decide) (by decide) (by decide)) (fun j => by simp (disch := omega) only [up_ne, shI]; exact dd _ j (by decide) (by decide) (by decide)) (fun j => by simp (disch := omega) only [up_ne, shI]; exact dd _ j (by decide) (by decide) (by decide)) ?_
  refine az_cv ?_
  refine zaw_qast (len := 8) (by decide) dX4_init_39 ⟨by decide, by decide, by decide, rfl⟩ (by decide) ⟨by decide, by decide, by decide, rfl⟩ ?_
  refine za_iiR2 (by decide) rfl rfl dX4_init_40 ?_
  refine zaw_goto 18 dX4_init_43 (by decide) ?_
  refine za_il2 dX4_init_18 ?_
  refine za_al0 (by decide) dX4_init_19 ?_
  refine zaw_getV 0 34 dX4_init_20 fl_X4_15 ⟨by decide, by decide, by decide, rfl⟩ rfl rfl ?_
  refine zaw_alen (kd := 102) (len := 8) (by decide) dX4_init_23 ⟨by decide, by decide, by decide, rfl⟩ (by decide) ?_
  refine zaw_icmp_ge 46 dX4_init_24 (by decide) (fun c24 => ?_) (fun c24 => ?_)
  · exact absurd c24 (by decide)
  refine za_al0 (by decide) dX4_init_27 ?_
  refine zaw_getV 0 34 dX4_init_28 fl_X4_15 ⟨by decide, by decide, by decide, rfl⟩ rfl rfl ?_
  refine za_il2 dX4_init_31 ?_
  refine zaw_new (by decide) dX4_init_32 cls_2 cq_X4_13 iq_X3 jq_X3 rfl (by decide) ⟨by decide, by decide⟩ (fun j hj => by simp (disch := omega) only [up_ne, shI]; exact e105 j hj) ?_
  refine zaw_dup dX4_init_35 rfl ?_
  refine zaw_callIN 1 9 498 dX4_init_36 yw_X3_init ml_X4_21 in_X3_init rfl rfl (ci := 2) rfl ⟨by decide, by decide, by decide, rfl⟩ (as := []) rfl rfl ⟨by decide, by decide, by decide, Nat.le_of_ble_eq_true rfl⟩ ?_
  refine ac_X3_init (b := 105) (by decide) rfl rfl rfl rfl rfl rfl rfl rfl rfl rfl (fun j => by simp (disch := omega) only [up_ne, shI]; exact dd _ j (by decide) (by decide) (by decide)) (fun j => by simp (disch := omega) only [up_ne, shI]; exact dd _ j (by decide) (by decide) (by decide)) (fun j => by simp (disch := omega) only [up_ne, shI]; exact dd _ j (by decide) (by decide) (by decide)) (fun j => by simp (disch := omega) only [up_ne, shI]; exact dd _ j (by decide) (by decide) (by decide)) (fun j => by simp (disch := omega) only [up_ne, shI]; exact dd _ j (by decide) (by decide) (by decide)) (fun j => by simp (disch := omega) only [up_ne, shI]; exact dd _ j (by decide) (by decide) (by decide)) (fun j => by simp (disch := omega) only [up_ne, shI]; exact dd _ j (by decide) (by decide) (by decide)) (fun j => by simp (disch := omega) only [up_ne, shI]; exact dd _ j (by decide) (by decide) (by decide)) (fun j => by simp (disch := omega) only [up_ne, shI]; exact dd _ j (by decide) (by decide) (by decide)) ?_
  refine az_cv ?_
  refine zaw_qast (len := 8) (by decide) dX4_init_39 ⟨by decide, by decide, by decide, rfl⟩ (by decide) ⟨by decide, by decide, by decide, rfl⟩ ?_
  refine za_iiR2 (by decide) rfl rfl dX4_init_40 ?_
  refine zaw_goto 18 dX4_init_43 (by decide) ?_
  refine za_il2 dX4_init_18 ?_
  refine za_al0 (by decide) dX4_init_19 ?_
  refine zaw_getV 0 34 dX4_init_20 fl_X4_15 ⟨by decide, by decide, by decide, rfl⟩ rfl rfl ?_
  refine zaw_alen (kd := 102) (len := 8) (by decide) dX4_init_23 ⟨by decide, by decide, by decide, rfl⟩ (by decide) ?_
  refine zaw_icmp_ge 46 dX4_init_24 (by decide) (fun c24 => ?_) (fun c24 => ?_)
  · refine zaw_vret dX4_init_46 rfl ?_
    exact k
  · exact absurd c24 (by decide)
def svR (h : AH) : AH := up (shI 127 (up (shI 117 (up (h) 115 0 116)) 116 0 117)) 116 1 127
theorem ac_X4_init_115 {qz : Nat × (Nat → Int)} {h : AH} {K : AO → Nat → AH → Prop} (da : ∀ j, h 116 j = -1) (e117 : ∀ j : Nat, j < 18 → h 117 j = am_df (am_FT 2 j)) (e127 : ∀ j : Nat, j < 18 → h 127 j = am_df (am_FT 2 j)) (dd : ∀ k j, 117 ≤ k → k < 137 → ¬ (k = 117 ∨ k = 127) → h k j = 0) (k : K (.inl none) 137 (svR h)) : AD qz mX4_init 2 21 1034 116 [(2, 115), (0, 2)] h K := by
  unfold svR at k
  refine ad_of (ls := [(2, 115), (0, 2), (9, 0)]) pn_X4 rfl (Nat.le_of_ble_eq_true rfl) rfl ?_
  refine za_al0 (by decide) dX4_init_0 ?_
  refine zaw_objinit dX4_init_1 (by decide) ⟨ml_X4_1, ow_1, ow_2⟩ ⟨by decide, Nat.le_of_ble_eq_true rfl⟩ ?_
  refine za_al0 (by decide) dX4_init_4 ?_
  refine zaw_iconst dX4_init_5 (by decide) ?_
  refine za_il1 dX4_init_6 ?_
  refine zaw_mmax dX4_init_7 ⟨ml_X4_7, mw_max⟩ ⟨by decide, Nat.le_of_ble_eq_true rfl⟩ ?_
  show AZ _ mX4_init _ _ _ _ _ _ _ ((0, ((2 : Nat) : Int)) :: _) _
  refine zaw_naq (N := 2) rfl (by decide) dX4_init_10 cq_X4_13 rfl (by decide) ⟨by decide, by decide⟩ da ?_
  refine zaw_putF 0 (by decide) (by decide) (by decide) dX4_init_13 ff_X4_15 (fun a => ⟨rfl, rfl⟩) rfl ⟨by decide, by decide, by decide, rfl⟩ rfl ?_
  refine zaw_iconst dX4_init_16 (by decide) ?_
  refine za_is2 rfl rfl dX4_init_17 ?_
  refine za_il2 dX4_init_18 ?_
  refine za_al0 (by decide) dX4_init_19 ?_
  refine zaw_getV 0 116 dX4_init_20 fl_X4_15 ⟨by decide, by decide, by decide, rfl⟩ rfl rfl ?_
  refine zaw_alen (kd := 102) (len := 2) (by decide) dX4_init_23 ⟨by decide, by decide, by decide, rfl⟩ (by decide) ?_
  refine zaw_icmp_ge 46 dX4_init_24 (by decide) (fun c24 => ?_) (fun c24 => ?_)
  · exact absurd c24 (by decide)
  refine za_al0 (by decide) dX4_init_27 ?_
  refine zaw_getV 0 116 dX4_init_28 fl_X4_15 ⟨by decide, by decide, by decide, rfl⟩ rfl rfl ?_
  refine za_il2 dX4_init_31 ?_
  refine zaw_new (by decide) dX4_init_32 cls_2 cq_X4_13 iq_X3 jq_X3 rfl (by decide) ⟨by decide, by decide⟩ (fun j hj => by simp (disch := omega) only [up_ne, shI]; exact e117 j hj) ?_
  refine zaw_dup dX4_init_35 rfl ?_
  refine zaw_callIN 1 9 498 dX4_init_36 yw_X3_init ml_X4_21 in_X3_init rfl rfl (ci := 2) rfl ⟨by decide, by decide, by decide, rfl⟩ (as := []) rfl rfl ⟨by decide, by decide, by decide, Nat.le_of_ble_eq_true rfl⟩ ?_
  refine ac_X3_init (b := 117) (by decide) rfl rfl rfl rfl rfl rfl rfl rfl rfl rfl (fun j => by simp (disch := omega) only [up_ne, shI]; exact dd _ j (by decide) (by decide) (by decide)) (fun j => by simp (disch := omega) only [up_ne, shI]; exact dd _ j (by decide) (by decide) (by decide)) (fun j => by simp (disch := omega) only [up_ne, shI]; exact dd _ j (by decide) (by decide) (by decide)) (fun j => by simp (disch := omega) only [up_ne, shI]; exact dd _ j (by decide) (by decide) (by decide)) (fun j => by simp (disch := omega) only [up_ne, shI]; exact dd _ j (by decide) (by decide) (by decide)) (fun j => by simp (disch := omega) only [up_ne, shI]; exact dd _ j (by decide) (by decide) (by decide)) (fun j => by simp (disch := omega) only [up_ne, shI]; exact dd _ j (by decide) (by decide) (by decide)) (fun j => by simp (disch := omega) only [up_ne, shI]; exact dd _ j (by decide) (by decide) (by decide)) (fun j => by simp (disch := omega) only [up_ne, shI]; exact dd _ j (by decide) (by decide) (by decide)) ?_
  refine az_cv ?_
  refine zaw_qast (len := 2) (by decide) dX4_init_39 ⟨by decide, by decide, by decide, rfl⟩ (by decide) ⟨by decide, by decide, by decide, rfl⟩ ?_
  refine za_iiR2 (by decide) rfl rfl dX4_init_40 ?_
  refine zaw_goto 18 dX4_init_43 (by decide) ?_
  refine za_il2 dX4_init_18 ?_
  refine za_al0 (by decide) dX4_init_19 ?_
  refine zaw_getV 0 116 dX4_init_20 fl_X4_15 ⟨by decide, by decide, by decide, rfl⟩ rfl rfl ?_
  refine zaw_alen (kd := 102) (len := 2) (by decide) dX4_init_23 ⟨by decide, by decide, by decide, rfl⟩ (by decide) ?_
  refine zaw_icmp_ge 46 dX4_init_24 (by decide) (fun c24 => ?_) (fun c24 => ?_)
  · exact absurd c24 (by decide)
  refine za_al0 (by decide) dX4_init_27 ?_
  refine zaw_getV 0 116 dX4_init_28 fl_X4_15 ⟨by decide, by decide, by decide, rfl⟩ rfl rfl ?_
  refine za_il2 dX4_init_31 ?_
  refine zaw_new (by decide) dX4_init_32 cls_2 cq_X4_13 iq_X3 jq_X3 rfl (by decide) ⟨by decide, by decide⟩ (fun j hj => by simp (disch := omega) only [up_ne, shI]; exact e127 j hj) ?_
  refine zaw_dup dX4_init_35 rfl ?_
  refine zaw_callIN 1 9 498 dX4_init_36 yw_X3_init ml_X4_21 in_X3_init rfl rfl (ci := 2) rfl ⟨by decide, by decide, by decide, rfl⟩ (as := []) rfl rfl ⟨by decide, by decide, by decide, Nat.le_of_ble_eq_true rfl⟩ ?_
  refine ac_X3_init (b := 127) (by decide) rfl rfl rfl rfl rfl rfl rfl rfl rfl rfl (fun j => by simp (disch := omega) only [up_ne, shI]; exact dd _ j (by decide) (by decide) (by decide)) (fun j => by simp (disch := omega) only [up_ne, shI]; exact dd _ j (by decide) (by decide) (by decide)) (fun j => by simp (disch := omega) only [up_ne, shI]; exact dd _ j (by decide) (by decide) (by decide)) (fun j => by simp (disch := omega) only [up_ne, shI]; exact dd _ j (by decide) (by decide) (by decide)) (fun j => by simp (disch := omega) only [up_ne, shI]; exact dd _ j (by decide) (by decide) (by decide)) (fun j => by simp (disch := omega) only [up_ne, shI]; exact dd _ j (by decide) (by decide) (by decide)) (fun j => by simp (disch := omega) only [up_ne, shI]; exact dd _ j (by decide) (by decide) (by decide)) (fun j => by simp (disch := omega) only [up_ne, shI]; exact dd _ j (by decide) (by decide) (by decide)) (fun j => by simp (disch := omega) only [up_ne, shI]; exact dd _ j (by decide) (by decide) (by decide)) ?_
  refine az_cv ?_
  refine zaw_qast (len := 2) (by decide) dX4_init_39 ⟨by decide, by decide, by decide, rfl⟩ (by decide) ⟨by decide, by decide, by decide, rfl⟩ ?_
  refine za_iiR2 (by decide) rfl rfl dX4_init_40 ?_
  refine zaw_goto 18 dX4_init_43 (by decide) ?_
  refine za_il2 dX4_init_18 ?_
  refine za_al0 (by decide) dX4_init_19 ?_
  refine zaw_getV 0 116 dX4_init_20 fl_X4_15 ⟨by decide, by decide, by decide, rfl⟩ rfl rfl ?_
  refine zaw_alen (kd := 102) (len := 2) (by decide) dX4_init_23 ⟨by decide, by decide, by decide, rfl⟩ (by decide) ?_
  refine zaw_icmp_ge 46 dX4_init_24 (by decide) (fun c24 => ?_) (fun c24 => ?_)
  · refine zaw_vret dX4_init_46 rfl ?_
    exact k
  · exact absurd c24 (by decide)
def hiR (h : AH) : AH := up (slR h) 32 0 33
theorem ac_X1_init {qz : Nat × (Nat → Int)} {h : AH} {K : AO → Nat → AH → Prop} (e1 : ∀ j : Nat, j < 1 → h 33 j = am_df (am_FT 3 j)) (da : ∀ j, h 34 j = -1) (e35 : ∀ j : Nat, j < 18 → h 35 j = am_df (am_FT 2 j)) (e45 : ∀ j : Nat, j < 18 → h 45 j = am_df (am_FT 2 j)) (e55 : ∀ j : Nat, j < 18 → h 55 j = am_df (am_FT 2 j)) (e65 : ∀ j : Nat, j < 18 → h 65 j = am_df (am_FT 2 j)) (e75 : ∀ j : Nat, j < 18 → h 75 j = am_df (am_FT 2 j)) (e85 : ∀ j : Nat, j < 18 → h 85 j = am_df (am_FT 2 j)) (e95 : ∀ j : Nat, j < 18 → h 95 j = am_df (am_FT 2 j)) (e105 : ∀ j : Nat, j < 18 → h 105 j = am_df (am_FT 2 j)) (dd : ∀ k j, 35 ≤ k → k < 115 → ¬ (k = 35 ∨ k = 45 ∨ k = 55 ∨ k = 65 ∨ k = 75 ∨ k = 85 ∨ k = 95 ∨ k = 105) → h k j = 0) (k : K (.inl none) 115 (hiR h)) : AD qz mX1_init 3 82 4137 33 [(2, 32)] h K := by
  refine ad_of (ls := [(2, 32)]) pn_X1 rfl (Nat.le_of_ble_eq_true rfl) rfl ?_
  refine za_al0 (by decide) dX1_init_0 ?_
  refine zaw_objinit dX1_init_1 (by decide) ⟨ml_X1_3, ow_1, ow_2⟩ ⟨by decide, Nat.le_of_ble_eq_true rfl⟩ ?_
  refine za_al0 (by decide) dX1_init_4 ?_
  refine zaw_new (by decide) dX1_init_5 cls_3 cq_X1_9 iq_X4 jq_X4 rfl (by decide) ⟨by decide, by decide⟩ e1 ?_
  refine zaw_dup dX1_init_8 rfl ?_
  refine zaw_bipush dX1_init_9 (by decide) ?_
  refine zaw_callD 2 81 4136 dX1_init_11 yw_X4_init ml_X1_11 in_X4_init rfl rfl (ci := 3) rfl ⟨by decide, by decide, by decide, rfl⟩ (as := [_]) rfl rfl ⟨by decide, by decide, by decide, Nat.le_of_ble_eq_true rfl⟩ ?_
  refine ac_X4_init_33 da e35 e45 e55 e65 e75 e85 e95 e105 dd ?_
  refine az_cv ?_
  refine zaw_putF 0 (by decide) (by decide) (by decide) dX1_init_14 ff_X1_14 (fun a => ⟨rfl, rfl⟩) rfl ⟨by decide, by decide, by decide, rfl⟩ rfl ?_
  refine zaw_vret dX1_init_17 rfl ?_
  exact k
def wrR (h : AH) : AH := up h 138 0 139
theorem ac_X7_init {h : AH} {K : AO → Nat → AH → Prop} (d1 : ∀ j, h 139 j = 0) (k : K (.inl none) 140 (wrR h)) : AC mX7_init 1 1 240 139 [(2, 138)] h K := by
  refine ac_of (ls := [(2, 138)]) pn_X7 rfl (Nat.le_of_ble_eq_true rfl) rfl ?_
  refine a_al0 (by decide) dX7_init_0 ?_
  refine aw_objinit dX7_init_1 (by decide) ⟨ml_X7_3, ow_1, ow_2⟩ ⟨by decide, Nat.le_of_ble_eq_true rfl⟩ ?_
  refine a_al0 (by decide) dX7_init_4 ?_
  refine aw_sipush dX7_init_5 (by decide) ?_
  refine aw_nai (N := 240) (by decide) (am_RR_lt (by decide)) dX7_init_8 aq_i rfl (by decide) (Nat.le_of_ble_eq_true rfl) ⟨by decide, by decide⟩ d1 ?_
  refine aw_putF 0 (by decide) (by decide) (by decide) dX7_init_10 ff_X7_9 (fun a => ⟨rfl, rfl⟩) rfl ⟨by decide, by decide, by decide, rfl⟩ rfl ?_
  refine aw_vret dX7_init_13 rfl ?_
  exact k
