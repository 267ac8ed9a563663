/-! the class' sheet and the model's row between calls -/
def encN (c : Int → Int) : Nat → Int
  | 0 => 0
  | k + 1 => if c k = 0 then encN c k else encN c k * 32 + c k - 96
/-- a name: one to eight letters, nothing behind them -/
def nmOk (c : Int → Int) : Prop := ∃ L : Int, 1 ≤ L ∧ L ≤ 8 ∧ (∀ k, 0 ≤ k → k < L → 97 ≤ c k ∧ c k ≤ 122) ∧ ∀ k, L ≤ k → k < 8 → c k = 0
def SX (h : AH) (b : Int) (g : AH) : Prop :=
  (h b 7 = g 141 9 ∧ h b 8 = g 141 7) ∧
  (∀ i, 0 ≤ i → i < g 141 3 → h (b + 1) i = encN (fun k => g 141 (46 + 25 * i + (17 + k))) 8) ∧
  (∀ s w, 0 ≤ s → s < g 141 9 → 0 ≤ w → w ≤ 2 → h (b + 4) (s * 3 + w) = g 141 (10 + 3 * s + w)) ∧
  (∀ k w, 0 ≤ k → k < g 141 7 → 0 ≤ w → w ≤ 4 → h (b + 5) (k * 5 + w) = g 141 (346 + 5 * k + w)) ∧
  (∀ f, 0 ≤ f → f < g 141 2 → h (b + 7) f = mSN g f) ∧
  (∀ t, isLg g t → (∀ i, 0 ≤ i → i < g 141 3 → (∀ p, 0 ≤ p → p ≤ 5 → cLt (h (b + 8) (t % 10 * 12 + i)) p = g 141 (logA g t + 4 + 6 * i + p)) ∧ (h (b + 8) (t % 10 * 12 + i) = 0 ↔ g 141 (logA g t + 4 + 6 * i + 0) = 0)) ∧ ∀ f, 0 ≤ f → f < g 141 2 → h (b + 9) (t % 10 * 4 + f) = g 141 (logA g t + f))
/-- the model's row is as it must be between calls -/
def RO (g : AH) : Prop :=
  tOk g ∧ (0 ≤ g 141 4 ∧ g 141 4 ≤ 1000) ∧ g 141 8 = (if g 141 4 < 10 then g 141 4 else 10) ∧ (0 ≤ g 141 7 ∧ g 141 7 ≤ 30) ∧
  (∀ i, 0 ≤ i → i < g 141 3 → nmOk (fun k => g 141 (46 + 25 * i + (17 + k))) ∧ (g 141 (46 + 25 * i + 10) = -1 → 1 ≤ g 141 (46 + 25 * i + 4) ∧ g 141 (46 + 25 * i + 4) ≤ 99) ∧ (¬ g 141 (46 + 25 * i + 10) = -1 → g 141 (46 + 25 * i + 4) = 0 ∧ 0 ≤ g 141 (46 + 25 * i + 10))) ∧
  (∀ f, 0 ≤ f → f < g 141 2 → (g 141 (34 + 3 * f + 1) = 0 ∨ g 141 (34 + 3 * f + 1) = 1) ∧ (g 141 (34 + 3 * f + 1) = 1 → 0 ≤ g 141 (34 + 3 * f + 2)) ∧ 0 ≤ g 141 (34 + 3 * f) ∧ g 141 (34 + 3 * f) ≤ 648 * g 141 4) ∧
  (∀ t, isLg g t → (∀ i p, 0 ≤ i → i < g 141 3 → 0 ≤ p → p ≤ 5 → (0 ≤ g 141 (logA g t + 4 + 6 * i + p) ∧ g 141 (logA g t + 4 + 6 * i + p) ≤ 4) ∧ (g 141 (logA g t + 4 + 6 * i + p) = 0 ↔ g 141 (logA g t + 4 + 6 * i + 0) = 0)) ∧ ∀ f, 0 ≤ f → f < g 141 2 → -1 ≤ g 141 (logA g t + f))
def SR (h : AH) (b : Int) (g : AH) : Prop := PS0 True h b g ∧ PO g ∧ SX h b g ∧ RO g
abbrev xI : String := "java/lang/IndexOutOfBoundsException"
abbrev xA : String := "java/lang/IllegalArgumentException"
abbrev xS : String := "java/lang/IllegalStateException"
theorem ac_needShip {i : Int} {h : AH} {K : AO → Nat → AH → Prop} (k1 : 0 ≤ i ∧ i < h 5 3 → K (.inl none) 159 h) (k0 : ¬ (0 ≤ i ∧ i < h 5 3) → K (.inr xI) 159 h) : AC mX8_needShip 6 1 6 159 [(2, 0), (0, i)] h K := by
  refine ac_of (ls := [(2, 0), (0, i)]) pn_X8 rfl (Nat.le_of_ble_eq_true rfl) rfl ?_
  refine a_il1 dX8_needShip_0 ?_
  refine aw_if_lt 15 dX8_needShip_1 (by decide) (fun c1 => ?_) (fun c1 => ?_)
  · refine aw_throwW (i := 11) rfl rfl dX8_needShip_15 dX8_needShip_18 dX8_needShip_19 dX8_needShip_22 dX8_needShip_25 tw_IndexOutOfBoundsException rfl ⟨rfl, rfl⟩ ⟨by decide, by decide, by decide, rfl⟩ ?_
    exact k0 (by omega)
  · refine a_il1 dX8_needShip_4 ?_
    refine a_al0 (by decide) dX8_needShip_5 ?_
    refine aw_getR (r := 5) 2 rfl dX8_needShip_6 fl_X8_24 at_0 rfl rfl ?_
    refine aw_get 3 dX8_needShip_9 fl_X8_111 at_5 rfl ?_
    refine aw_icmp_lt 26 dX8_needShip_12 (by decide) (fun c12 => ?_) (fun c12 => ?_)
    · refine aw_vret dX8_needShip_26 rfl ?_
      exact k1 (by omega)
    · refine aw_throwW (i := 11) rfl rfl dX8_needShip_15 dX8_needShip_18 dX8_needShip_19 dX8_needShip_22 dX8_needShip_25 tw_IndexOutOfBoundsException rfl ⟨rfl, rfl⟩ ⟨by decide, by decide, by decide, rfl⟩ ?_
      exact k0 (by omega)
theorem ac_needFleet {i : Int} {h : AH} {K : AO → Nat → AH → Prop} (k1 : 0 ≤ i ∧ i < h 5 2 → K (.inl none) 159 h) (k0 : ¬ (0 ≤ i ∧ i < h 5 2) → K (.inr xI) 159 h) : AC mX8_needFleet 6 1 6 159 [(2, 0), (0, i)] h K := by
  refine ac_of (ls := [(2, 0), (0, i)]) pn_X8 rfl (Nat.le_of_ble_eq_true rfl) rfl ?_
  refine a_il1 dX8_needFleet_0 ?_
  refine aw_if_lt 15 dX8_needFleet_1 (by decide) (fun c1 => ?_) (fun c1 => ?_)
  · refine aw_throwW (i := 13) rfl rfl dX8_needFleet_15 dX8_needFleet_18 dX8_needFleet_19 dX8_needFleet_22 dX8_needFleet_25 tw_IndexOutOfBoundsException rfl ⟨rfl, rfl⟩ ⟨by decide, by decide, by decide, rfl⟩ ?_
    exact k0 (by omega)
  · refine a_il1 dX8_needFleet_4 ?_
    refine a_al0 (by decide) dX8_needFleet_5 ?_
    refine aw_getR (r := 5) 2 rfl dX8_needFleet_6 fl_X8_24 at_0 rfl rfl ?_
    refine aw_get 2 dX8_needFleet_9 fl_X8_75 at_5 rfl ?_
    refine aw_icmp_lt 26 dX8_needFleet_12 (by decide) (fun c12 => ?_) (fun c12 => ?_)
    · refine aw_vret dX8_needFleet_26 rfl ?_
      exact k1 (by omega)
    · refine aw_throwW (i := 13) rfl rfl dX8_needFleet_15 dX8_needFleet_18 dX8_needFleet_19 dX8_needFleet_22 dX8_needFleet_25 tw_IndexOutOfBoundsException rfl ⟨rfl, rfl⟩ ⟨by decide, by decide, by decide, rfl⟩ ?_
      exact k0 (by omega)
theorem ac_needShipNumber {w : Int} {h : AH} {K : AO → Nat → AH → Prop} (k1 : 0 ≤ w ∧ w ≤ 10 → K (.inl none) 159 h) (k0 : ¬ (0 ≤ w ∧ w ≤ 10) → K (.inr xA) 159 h) : AC mX8_needShipNumber 6 1 6 159 [(0, w)] h K := by
  refine ac_of (ls := [(0, w)]) pn_X8 rfl (Nat.le_of_ble_eq_true rfl) rfl ?_
  refine a_il0 dX8_needShipNumber_0 ?_
  refine aw_if_lt 10 dX8_needShipNumber_1 (by decide) (fun c1 => ?_) (fun c1 => ?_)
  · refine aw_throwW (i := 12) rfl rfl dX8_needShipNumber_10 dX8_needShipNumber_13 dX8_needShipNumber_14 dX8_needShipNumber_17 dX8_needShipNumber_20 tw_IllegalArgumentException rfl ⟨rfl, rfl⟩ ⟨by decide, by decide, by decide, rfl⟩ ?_
    exact k0 (by omega)
  · refine a_il0 dX8_needShipNumber_4 ?_
    refine aw_bipush dX8_needShipNumber_5 (by decide) ?_
    refine aw_icmp_lt 21 dX8_needShipNumber_7 (by decide) (fun c7 => ?_) (fun c7 => ?_)
    · refine aw_vret dX8_needShipNumber_21 rfl ?_
      exact k1 (by omega)
    · refine aw_throwW (i := 12) rfl rfl dX8_needShipNumber_10 dX8_needShipNumber_13 dX8_needShipNumber_14 dX8_needShipNumber_17 dX8_needShipNumber_20 tw_IllegalArgumentException rfl ⟨rfl, rfl⟩ ⟨by decide, by decide, by decide, rfl⟩ ?_
      exact k0 (by omega)
theorem ac_needPulse {w : Int} {h : AH} {K : AO → Nat → AH → Prop} (k1 : 0 ≤ w ∧ w ≤ 5 → K (.inl none) 159 h) (k0 : ¬ (0 ≤ w ∧ w ≤ 5) → K (.inr xI) 159 h) : AC mX8_needPulse 6 1 6 159 [(0, w)] h K := by
  refine ac_of (ls := [(0, w)]) pn_X8 rfl (Nat.le_of_ble_eq_true rfl) rfl ?_
  refine a_il0 dX8_needPulse_0 ?_
  refine aw_if_lt 10 dX8_needPulse_1 (by decide) (fun c1 => ?_) (fun c1 => ?_)
  · refine aw_throwW (i := 16) rfl rfl dX8_needPulse_10 dX8_needPulse_13 dX8_needPulse_14 dX8_needPulse_17 dX8_needPulse_20 tw_IndexOutOfBoundsException rfl ⟨rfl, rfl⟩ ⟨by decide, by decide, by decide, rfl⟩ ?_
    exact k0 (by omega)
  · refine a_il0 dX8_needPulse_4 ?_
    refine aw_bipush dX8_needPulse_5 (by decide) ?_
    refine aw_icmp_lt 21 dX8_needPulse_7 (by decide) (fun c7 => ?_) (fun c7 => ?_)
    · refine aw_vret dX8_needPulse_21 rfl ?_
      exact k1 (by omega)
    · refine aw_throwW (i := 16) rfl rfl dX8_needPulse_10 dX8_needPulse_13 dX8_needPulse_14 dX8_needPulse_17 dX8_needPulse_20 tw_IndexOutOfBoundsException rfl ⟨rfl, rfl⟩ ⟨by decide, by decide, by decide, rfl⟩ ?_
      exact k0 (by omega)
theorem ac_needSlot {w : Int} {h : AH} {K : AO → Nat → AH → Prop} (k1 : 0 ≤ w ∧ w ≤ 1 → K (.inl none) 159 h) (k0 : ¬ (0 ≤ w ∧ w ≤ 1) → K (.inr xI) 159 h) : AC mX8_needSlot 6 1 6 159 [(0, w)] h K := by
  refine ac_of (ls := [(0, w)]) pn_X8 rfl (Nat.le_of_ble_eq_true rfl) rfl ?_
  refine a_il0 dX8_needSlot_0 ?_
  refine aw_if_lt 9 dX8_needSlot_1 (by decide) (fun c1 => ?_) (fun c1 => ?_)
  · refine aw_throwW (i := 32) rfl rfl dX8_needSlot_9 dX8_needSlot_12 dX8_needSlot_13 dX8_needSlot_16 dX8_needSlot_19 tw_IndexOutOfBoundsException rfl ⟨rfl, rfl⟩ ⟨by decide, by decide, by decide, rfl⟩ ?_
    exact k0 (by omega)
  · refine a_il0 dX8_needSlot_4 ?_
    refine aw_iconst dX8_needSlot_5 (by decide) ?_
    refine aw_icmp_lt 20 dX8_needSlot_6 (by decide) (fun c6 => ?_) (fun c6 => ?_)
    · refine aw_vret dX8_needSlot_20 rfl ?_
      exact k1 (by omega)
    · refine aw_throwW (i := 32) rfl rfl dX8_needSlot_9 dX8_needSlot_12 dX8_needSlot_13 dX8_needSlot_16 dX8_needSlot_19 tw_IndexOutOfBoundsException rfl ⟨rfl, rfl⟩ ⟨by decide, by decide, by decide, rfl⟩ ?_
      exact k0 (by omega)
theorem SR_lg {h g : AH} {b t : Int} (hS : SR h b g) : cLg h b t ↔ isLg g t := by
  obtain ⟨⟨⟨-, -, -, -, d4, -⟩, -⟩, -, -, -, r4, r8, -⟩ := hS
  unfold cLg isLg
  rw [d4, r8]
  split <;> omega
theorem ac_needLogged {t : Int} {h g : AH} {K : AO → Nat → AH → Prop} (hS : SR h 5 g) (k1 : isLg g t → K (.inl none) 159 h) (k0 : ¬ isLg g t → K (.inr xI) 159 h) : AC mX8_needLogged 6 1 6 159 [(2, 0), (0, t)] h K := by
  have e := SR_lg (t := t) hS
  have r4 : 0 ≤ h 5 4 ∧ h 5 4 ≤ 100000 := by
    have a := hS.2.2.2.2.1
    rw [hS.1.1.2.2.2.2.1]
    omega
  refine ac_of (ls := [(2, 0), (0, t)]) pn_X8 rfl (Nat.le_of_ble_eq_true rfl) rfl ?_
  refine a_al0 (by decide) dX8_needLogged_0 ?_
  refine aw_getR (r := 5) 2 rfl dX8_needLogged_1 fl_X8_24 at_0 rfl rfl ?_
  refine a_il1 dX8_needLogged_4 ?_
  refine aw_callV 1 0 0 dX8_needLogged_5 yw_X3_isLogged ml_X8_229 in_X3_isLogged se_X3_isLogged (ci := 2) rfl at_5 (as := [_]) rfl rfl ⟨by decide, by decide, by decide, Nat.le_of_ble_eq_true rfl⟩ ?_
  refine ac_isLogged (Or.inl rfl) r4 (fun q => ?_) (fun q => ?_)
  · refine am_ci ?_
    refine aw_if_ne_y 22 dX8_needLogged_8 (by decide) (by decide) ?_
    refine aw_vret dX8_needLogged_22 rfl ?_
    exact k1 (e.mp q)
  · refine am_ci ?_
    refine aw_if_ne_n 22 dX8_needLogged_8 (by decide) (by decide) ?_
    refine aw_throwW (i := 22) rfl rfl dX8_needLogged_11 dX8_needLogged_14 dX8_needLogged_15 dX8_needLogged_18 dX8_needLogged_21 tw_IndexOutOfBoundsException rfl ⟨rfl, rfl⟩ ⟨by decide, by decide, by decide, rfl⟩ ?_
    exact k0 (fun x => q (e.mpr x))
theorem SR_fl {h g : AH} {b f i : Int} (hS : SR h b g) (hi : 0 ≤ i ∧ i < g 141 3) : cFl h b f i ↔ fSail g f i := by
  obtain ⟨s1, s2, -⟩ := hS.1.2.1 i hi.1 hi.2
  unfold cFl fSail
  rw [s1 0 (by decide) (by decide), s2]
theorem sumN_eq {f f' : Int → Int} : ∀ m : Nat, (∀ i : Int, 0 ≤ i → i < m → f i = f' i) → sumN f m = sumN f' m
  | 0, _ => rfl
  | m + 1, h => by
    show sumN f m + f m = sumN f' m + f' m
    rw [sumN_eq m (fun i a c => h i a (by omega)), h m (by omega) (by omega)]
theorem orN_eq {P P' : Int → Prop} [DecidablePred P] [DecidablePred P'] : ∀ m : Nat, (∀ i : Int, 0 ≤ i → i < m → (P i ↔ P' i)) → orN P m = orN P' m
  | 0, _ => rfl
  | m + 1, h => by
    show (if P m then i_or (orN P m) (i_shl 1 m) else orN P m) = (if P' m then i_or (orN P' m) (i_shl 1 m) else orN P' m)
    rw [orN_eq m (fun i a c => h i a (by omega))]
    have e := h m (by omega) (by omega)
    by_cases q : P m
    · rw [if_pos q, if_pos (e.mp q)]
    · rw [if_neg q, if_neg (fun x => q (e.mpr x))]
theorem sumN_add (f g : Int → Int) : ∀ m : Nat, sumN (fun i => f i + g i) m = sumN f m + sumN g m
  | 0 => rfl
  | m + 1 => by
    show sumN (fun i => f i + g i) m + (f m + g m) = sumN f m + f m + (sumN g m + g m)
    rw [sumN_add f g m]
    omega
theorem sumN_0 : ∀ m : Nat, sumN (fun _ => 0) m = 0
  | 0 => rfl
  | m + 1 => by
    show sumN (fun _ => 0) m + 0 = 0
    rw [sumN_0 m]
    rfl
/-- one fleet among m has this ship -/
theorem sumN_one {v x : Int} (hx : 0 ≤ x) : ∀ m : Nat, sumN (fun f => if x = f then v else 0) m = if x < m then v else 0
  | 0 => by
    show (0 : Int) = _
    rw [if_neg (by omega)]
  | m + 1 => by
    show sumN (fun f => if x = f then v else 0) m + (if x = (m : Int) then v else 0) = _
    rw [sumN_one hx m]
    by_cases e : x = m
    · rw [if_neg (by omega), if_pos e, if_pos (by omega)]
      omega
    · rw [if_neg e]
      by_cases l : x < m
      · rw [if_pos l, if_pos (by omega)]
        omega
      · rw [if_neg l, if_neg (by omega)]
        omega
theorem sumN_swap (f : Int → Int → Int) (n : Nat) : ∀ m : Nat, sumN (fun a => sumN (fun i => f a i) n) m = sumN (fun i => sumN (fun a => f a i) m) n
  | 0 => by
    show (0 : Int) = sumN (fun _ => 0) n
    rw [sumN_0]
  | m + 1 => by
    show sumN (fun a => sumN (fun i => f a i) n) m + sumN (fun i => f m i) n = sumN (fun i => sumN (fun a => f a i) m + f m i) n
    rw [sumN_swap f n m, sumN_add]
theorem SR_sail {h g : AH} {b : Int} (hS : SR h b g) : sumN (cFlN h b) (h b 2).toNat = sumN (flN g) (g 141 3).toNat := by
  have d3 : h b 3 = g 141 3 := hS.1.1.2.2.2.1
  have d2 : h b 2 = g 141 2 := hS.1.1.2.2.1
  have n3 := hS.2.2.2.1.2.2.1
  unfold cFlN
  rw [sumN_swap (fun f i => one (cFl h b f) i), d3, d2]
  refine sumN_eq _ (fun i i0 i1 => ?_)
  have il : i < g 141 3 := by omega
  obtain ⟨s1, s2, -⟩ := hS.1.2.1 i i0 il
  have o := (hS.2.1 i i0 il).1
  have e : sumN (fun f => one (cFl h b f) i) (g 141 2).toNat = sumN (fun f => if g 141 (46 + 25 * i + 0) = f then flN g i else 0) (g 141 2).toNat := sumN_eq _ (fun f f0 f1 => by
    unfold one flN
    have e2 := SR_fl (f := f) hS ⟨i0, il⟩
    unfold fSail at e2
    by_cases z : g 141 (46 + 25 * i + 0) = f
    · rw [if_pos z]
      by_cases y : g 141 (46 + 25 * i + 10) = -1
      · rw [if_pos (e2.mpr ⟨y, z⟩), if_pos y]
      · rw [if_neg (fun q => y (e2.mp q).1), if_neg y]
    · rw [if_neg z, if_neg (fun q => z (e2.mp q).2)])
  rw [e, sumN_one o.1, if_pos (by omega)]
theorem SR_has {h g : AH} {b f : Int} (hS : SR h b g) : cHas h b f ↔ ∃ i, 0 ≤ i ∧ i < g 141 3 ∧ fSail g f i := by
  have d3 : h b 3 = g 141 3 := hS.1.1.2.2.2.1
  unfold cHas
  rw [d3]
  constructor
  · rintro ⟨i, a, c, d⟩
    exact ⟨i, a, c, (SR_fl hS ⟨a, c⟩).mp d⟩
  · rintro ⟨i, a, c, d⟩
    exact ⟨i, a, c, (SR_fl hS ⟨a, c⟩).mpr d⟩
theorem SR_only {h g : AH} {b r : Int} (hS : SR h b g) (hr : isOnlyC h b r) : isOnly g r := by
  have d2 : h b 2 = g 141 2 := hS.1.1.2.2.1
  unfold isOnlyC at hr
  rw [d2] at hr
  rcases hr with ⟨r0, r1, r2, r3⟩ | ⟨e, r1 | ⟨f, f', ne, f0, f1, h1, h2⟩⟩
  · obtain ⟨i, i0, i1, q1, q2⟩ := (SR_has hS).mp r2
    refine Or.inl ⟨i, i0, i1, q1, q2, fun j j0 j1 q3 => ?_⟩
    by_cases z : g 141 (46 + 25 * j + 0) = r
    · exact z
    · have o := (hS.2.1 j j0 j1).1
      exact absurd ((SR_has hS).mpr ⟨j, j0, j1, q3, rfl⟩) (r3 _ o.1 o.2 z)
  · refine Or.inr ⟨e, Or.inl (fun j j0 j1 q => ?_)⟩
    have o := (hS.2.1 j j0 j1).1
    exact r1 _ o.1 o.2 ((SR_has hS).mpr ⟨j, j0, j1, q, rfl⟩)
  · obtain ⟨i, i0, i1, q1, q2⟩ := (SR_has hS).mp h1
    obtain ⟨j, j0, j1, q3, q4⟩ := (SR_has hS).mp h2
    exact Or.inr ⟨e, Or.inr ⟨i, j, i0, i1, j0, j1, q1, q3, by omega⟩⟩
