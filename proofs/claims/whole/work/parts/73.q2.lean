/-! the class: what is asked of shifts, rams and the log -/
theorem isFst_iff {P P' : Int → Prop} {n x : Int} (e : ∀ j, 0 ≤ j → j < n → (P j ↔ P' j)) (h : isFst P n x) : isFst P' n x := by
  rcases h with ⟨a1, a2, a3, a4⟩ | ⟨a1, a2⟩
  · exact Or.inl ⟨a1, a2, (e x a1 a2).mp a3, fun j b1 b2 b3 => a4 j b1 b2 ((e j b1 (by omega)).mpr b3)⟩
  · exact Or.inr ⟨a1, fun j b1 b2 b3 => a2 j b1 b2 ((e j b1 b2).mpr b3)⟩
theorem SR_sh {h g : AH} {b t j : Int} (hS : SR h b g) (hj : 0 ≤ j ∧ j < g 141 9) : cSh h b t j ↔ mSh g t j := by
  have e := hS.2.2.1.2.2.1 j 0 hj.1 hj.2 (by decide) (by decide)
  unfold cSh mSh
  rw [e, Int.add_zero]
theorem cx_shift {t w : Int} {h : AH} {K : AO → Nat → AH → Prop} (hS : SR h 5 h) (k1 : ¬ ((0 ≤ t ∧ t ≤ 999) ∧ 0 ≤ w ∧ w ≤ 1) → K (.inr xA) 159 h) (k0 : (0 ≤ t ∧ t ≤ 999) → (0 ≤ w ∧ w ≤ 1) → ∀ x, isFst (mSh h t) (h 141 9) x → K (.inl (some (0, if x = -1 then -1 else h 141 (10 + 3 * x + 1 + w)))) 159 h) : AC mX8_shift 6 1 6 159 [(2, 0), (0, t), (0, w)] h K := by
  have d7 := hS.2.2.1.1.1
  have n9 := hS.2.2.2.1.2.2.2.2.2.2.1
  have J40 : (0 ≤ t ∧ t ≤ 999) → (0 ≤ w ∧ w ≤ 1) → AW mX8_shift 6 1 6 K 159 40 [(2, 0), (0, t), (0, w), (9, 0)] [] h := fun q q2 => by
    refine a_al0 (by decide) dX8_shift_40 ?_
    refine aw_getR (r := 5) 2 rfl dX8_shift_41 fl_X8_24 at_0 rfl rfl ?_
    refine a_il1 dX8_shift_44 ?_
    refine aw_callV 2 0 0 dX8_shift_45 yw_X3_shiftOf ml_X8_216 in_X3_shiftOf se_X3_shiftOf (ci := 2) rfl at_5 (as := [_]) rfl rfl ⟨by decide, by decide, by decide, Nat.le_of_ble_eq_true rfl⟩ ?_
    refine ac_shiftOfC (Or.inl rfl) (by rw [d7]; exact n9) (fun x hx => ?_)
    rw [d7] at hx
    have hx2 := isFst_iff (fun j a b => SR_sh hS ⟨a, b⟩) hx
    have k := k0 q q2 x hx2
    by_cases e : x = -1
    · rw [if_pos e] at k
      refine am_ci ?_
      refine a_is3 rfl rfl dX8_shift_48 ?_
      refine a_il3 dX8_shift_49 ?_
      refine aw_iconst dX8_shift_50 (by decide) ?_
      refine aw_icmp_ne 58 dX8_shift_51 (by decide) (fun c51 => ?_) (fun c51 => ?_)
      · exfalso; omega
      · refine aw_iconst dX8_shift_54 (by decide) ?_
        refine aw_goto 69 dX8_shift_55 (by decide) ?_
        refine aw_iret dX8_shift_69 rfl ?_
        exact k
    · rw [if_neg e] at k
      have hx3 : 0 ≤ x ∧ x < h 141 9 := by
        rcases hx with y | y
        · exact ⟨y.1, y.2.1⟩
        · exact absurd y.1 e
      refine am_ci ?_
      refine a_is3 rfl rfl dX8_shift_48 ?_
      refine a_il3 dX8_shift_49 ?_
      refine aw_iconst dX8_shift_50 (by decide) ?_
      refine aw_icmp_ne 58 dX8_shift_51 (by decide) (fun c51 => ?_) (fun c51 => ?_)
      · refine a_al0 (by decide) dX8_shift_58 ?_
        refine aw_getR (r := 5) 2 rfl dX8_shift_59 fl_X8_24 at_0 rfl rfl ?_
        refine a_il3 dX8_shift_62 ?_
        refine a_il2 dX8_shift_63 ?_
        refine aw_iconst dX8_shift_64 (by decide) ?_
        refine aw_iaddR (by omega) dX8_shift_65 ?_
        refine aw_callV 1 0 0 dX8_shift_66 yw_X3_shiftNumber ml_X8_219 in_X3_shiftNumber se_X3_shiftNumber (ci := 2) rfl at_5 (as := [_, _]) rfl rfl ⟨by decide, by decide, by decide, Nat.le_of_ble_eq_true rfl⟩ ?_
        refine ac_shiftNumber (Or.inl rfl) (by omega) (by omega) ?_
        have e2 := hS.2.2.1.2.2.1 x (w + 1) hx3.1 hx3.2 (by omega) (by omega)
        rw [e2, show 10 + 3 * x + (w + 1) = 10 + 3 * x + 1 + w by omega]
        refine am_ci ?_
        refine aw_iret dX8_shift_69 rfl ?_
        exact k
      · exfalso; omega
  refine ac_of (ls := [(2, 0), (0, t), (0, w), (9, 0)]) pn_X8 rfl (Nat.le_of_ble_eq_true rfl) rfl ?_
  refine a_il1 dX8_shift_0 ?_
  refine aw_if_lt 11 dX8_shift_1 (by decide) (fun c1 => ?_) (fun c1 => ?_)
  · refine aw_throw (i := 18) rfl rfl dX8_shift_11 dX8_shift_14 dX8_shift_15 dX8_shift_17 dX8_shift_20 tw_IllegalArgumentException rfl ⟨rfl, rfl⟩ ⟨by decide, by decide, by decide, rfl⟩ ?_
    exact k1 (by omega)
  · refine a_il1 dX8_shift_4 ?_
    refine aw_sipush dX8_shift_5 (by decide) ?_
    refine aw_icmp_lt 21 dX8_shift_8 (by decide) (fun c8 => ?_) (fun c8 => ?_)
    · refine a_il2 dX8_shift_21 ?_
      refine aw_if_lt 30 dX8_shift_22 (by decide) (fun c22 => ?_) (fun c22 => ?_)
      · refine aw_throw (i := 19) rfl rfl dX8_shift_30 dX8_shift_33 dX8_shift_34 dX8_shift_36 dX8_shift_39 tw_IllegalArgumentException rfl ⟨rfl, rfl⟩ ⟨by decide, by decide, by decide, rfl⟩ ?_
        exact k1 (by omega)
      · refine a_il2 dX8_shift_25 ?_
        refine aw_iconst dX8_shift_26 (by decide) ?_
        refine aw_icmp_le 40 dX8_shift_27 (by decide) (fun c27 => ?_) (fun c27 => ?_)
        · skip
          exact J40 (by omega) (by omega)
        · refine aw_throw (i := 19) rfl rfl dX8_shift_30 dX8_shift_33 dX8_shift_34 dX8_shift_36 dX8_shift_39 tw_IllegalArgumentException rfl ⟨rfl, rfl⟩ ⟨by decide, by decide, by decide, rfl⟩ ?_
          exact k1 (by omega)
    · refine aw_throw (i := 18) rfl rfl dX8_shift_11 dX8_shift_14 dX8_shift_15 dX8_shift_17 dX8_shift_20 tw_IllegalArgumentException rfl ⟨rfl, rfl⟩ ⟨by decide, by decide, by decide, rfl⟩ ?_
      exact k1 (by omega)
theorem cx_ram {r w : Int} {h : AH} {K : AO → Nat → AH → Prop} (hS : SR h 5 h) (k1 : ¬ (0 ≤ r ∧ r < h 141 7) → K (.inr xI) 159 h) (k2 : 0 ≤ r ∧ r < h 141 7 → ¬ (0 ≤ w ∧ w ≤ 4) → K (.inr xA) 159 h) (k0 : 0 ≤ r ∧ r < h 141 7 → 0 ≤ w ∧ w ≤ 4 → K (.inl (some (0, h 141 (346 + 5 * r + w)))) 159 h) : AC mX8_ram 6 1 6 159 [(2, 0), (0, r), (0, w)] h K := by
  have d8 := hS.2.2.1.1.2
  have n7 := hS.2.2.2.2.2.2.1
  refine ac_of (ls := [(2, 0), (0, r), (0, w)]) pn_X8 rfl (Nat.le_of_ble_eq_true rfl) rfl ?_
  refine a_il1 dX8_ram_0 ?_
  refine aw_if_lt 15 dX8_ram_1 (by decide) (fun c1 => ?_) (fun c1 => ?_)
  · refine aw_throw (i := 20) rfl rfl dX8_ram_15 dX8_ram_18 dX8_ram_19 dX8_ram_21 dX8_ram_24 tw_IndexOutOfBoundsException rfl ⟨rfl, rfl⟩ ⟨by decide, by decide, by decide, rfl⟩ ?_
    exact k1 (by omega)
  · refine a_il1 dX8_ram_4 ?_
    refine a_al0 (by decide) dX8_ram_5 ?_
    refine aw_getR (r := 5) 2 rfl dX8_ram_6 fl_X8_24 at_0 rfl rfl ?_
    refine aw_get 8 dX8_ram_9 fl_X8_126 at_5 rfl ?_
    refine aw_icmp_lt 25 dX8_ram_12 (by decide) (fun c12 => ?_) (fun c12 => ?_)
    · rw [d8] at c12
      refine a_il2 dX8_ram_25 ?_
      refine aw_if_lt 34 dX8_ram_26 (by decide) (fun c26 => ?_) (fun c26 => ?_)
      · refine aw_throw (i := 21) rfl rfl dX8_ram_34 dX8_ram_37 dX8_ram_38 dX8_ram_40 dX8_ram_43 tw_IllegalArgumentException rfl ⟨rfl, rfl⟩ ⟨by decide, by decide, by decide, rfl⟩ ?_
        exact k2 (by omega) (by omega)
      · refine a_il2 dX8_ram_29 ?_
        refine aw_iconst dX8_ram_30 (by decide) ?_
        refine aw_icmp_lt 44 dX8_ram_31 (by decide) (fun c31 => ?_) (fun c31 => ?_)
        · refine a_al0 (by decide) dX8_ram_44 ?_
          refine aw_getR (r := 5) 2 rfl dX8_ram_45 fl_X8_24 at_0 rfl rfl ?_
          refine aw_getR (r := 10) 13 rfl dX8_ram_48 fl_X8_226 at_5 rfl rfl ?_
          refine a_il1 dX8_ram_51 ?_
          refine aw_iconst dX8_ram_52 (by decide) ?_
          refine aw_imulR (by omega) dX8_ram_53 ?_
          refine a_il2 dX8_ram_54 ?_
          refine aw_iaddR (by omega) dX8_ram_55 ?_
          refine aw_iald dX8_ram_56 ar_10 (by omega) ?_
          refine aw_iret dX8_ram_57 rfl ?_
          have e := hS.2.2.1.2.2.2.1 r w (by omega) (by omega) (by omega) (by omega)
          rw [show h 10 (r * 5 + w) = h 141 (346 + 5 * r + w) from e]
          exact k0 (by omega) (by omega)
        · refine aw_throw (i := 21) rfl rfl dX8_ram_34 dX8_ram_37 dX8_ram_38 dX8_ram_40 dX8_ram_43 tw_IllegalArgumentException rfl ⟨rfl, rfl⟩ ⟨by decide, by decide, by decide, rfl⟩ ?_
          exact k2 (by omega) (by omega)
    · refine aw_throw (i := 20) rfl rfl dX8_ram_15 dX8_ram_18 dX8_ram_19 dX8_ram_21 dX8_ram_24 tw_IndexOutOfBoundsException rfl ⟨rfl, rfl⟩ ⟨by decide, by decide, by decide, rfl⟩ ?_
      exact k1 (by omega)
theorem SR_si {h g : AH} {t f : Int} (hS : SR h 5 g) (ht : t = g 141 4 ∨ isLg g t) (hf : 0 ≤ f ∧ f < g 141 2) : cSeI h 5 t f = if t = g 141 4 then mSN g f else g 141 (logA g t + f) := by
  have e := SR_lg (t := t) hS
  unfold cSeI
  by_cases z : t = g 141 4
  · rw [if_pos z, if_neg (fun x => by have := (e.mp x).2; omega)]
    exact hS.2.2.1.2.2.2.2.1 f hf.1 hf.2
  · have l := ht.resolve_left z
    rw [if_neg z, if_pos (e.mpr l)]
    exact (hS.2.2.1.2.2.2.2.2 t l).2 f hf.1 hf.2
theorem cx_sealOf {t f : Int} {h : AH} {K : AO → Nat → AH → Prop} (hS : SR h 5 h) (k1 : ¬ ((t = h 141 4 ∨ isLg h t) ∧ 0 ≤ f ∧ f < h 141 2) → K (.inr xI) 159 h) (k0 : (t = h 141 4 ∨ isLg h t) → 0 ≤ f ∧ f < h 141 2 → K (.inl (some (0, if t = h 141 4 then mSN h f else h 141 (logA h t + f)))) 159 h) : AC mX8_sealOf 7 1 6 159 [(2, 0), (0, t), (0, f)] h K := by
  obtain ⟨-, -, d2, d3, d4, -⟩ := hS.1.1
  have n2 := hS.2.2.2.1.2.2.2.2.1
  have r4 : 0 ≤ h 5 4 ∧ h 5 4 ≤ 100000 := by
    have a := hS.2.2.2.2.1
    rw [d4]
    omega
  have e := SR_lg (t := t) hS
  have J32 : (t = h 141 4 ∨ isLg h t) → AW mX8_sealOf 7 1 6 K 159 32 [(2, 0), (0, t), (0, f)] [] h := fun ht => by
    refine a_al0 (by decide) dX8_sealOf_32 ?_
    refine a_il2 dX8_sealOf_33 ?_
    refine aw_callV 6 1 6 dX8_sealOf_34 yw_X8_needFleet ml_X8_156 in_X8_needFleet se_X8_needFleet (ci := 7) rfl at_0 (as := [_]) rfl rfl ⟨by decide, by decide, by decide, Nat.le_of_ble_eq_true rfl⟩ ?_
    refine ac_needFleet (fun q => ?_) (fun q => ?_)
    · rw [d2] at q
      refine am_cv ?_
      refine a_al0 (by decide) dX8_sealOf_37 ?_
      refine aw_getR (r := 5) 2 rfl dX8_sealOf_38 fl_X8_24 at_0 rfl rfl ?_
      try simp (disch := omega) only [up_at, up_ne]
      refine a_il1 dX8_sealOf_41 ?_
      refine a_il2 dX8_sealOf_42 ?_
      refine aw_callV 2 0 0 dX8_sealOf_43 yw_X3_sealIn ml_X8_232 in_X3_sealIn se_X3_sealIn (ci := 2) rfl at_5 (as := [_, _]) rfl rfl ⟨by decide, by decide, by decide, Nat.le_of_ble_eq_true rfl⟩ ?_
      refine ac_sealIn (Or.inl rfl) (by omega) r4 ?_
      rw [SR_si hS ht q]
      refine am_ci ?_
      try simp (disch := omega) only [up_at, up_ne]
      refine aw_iret dX8_sealOf_46 rfl ?_
      exact k0 ht q
    · rw [d2] at q
      exact am_cx rfl (k1 (fun x => q x.2))
  refine ac_of (ls := [(2, 0), (0, t), (0, f)]) pn_X8 rfl (Nat.le_of_ble_eq_true rfl) rfl ?_
  refine a_il1 dX8_sealOf_0 ?_
  refine a_al0 (by decide) dX8_sealOf_1 ?_
  refine aw_getR (r := 5) 2 rfl dX8_sealOf_2 fl_X8_24 at_0 rfl rfl ?_
  refine aw_get 4 dX8_sealOf_5 fl_X8_117 at_5 rfl ?_
  refine aw_icmp_eq 32 dX8_sealOf_8 (by decide) (fun c8 => ?_) (fun c8 => ?_)
  · rw [d4] at c8
    exact J32 (Or.inl c8)
  · rw [d4] at c8
    refine a_al0 (by decide) dX8_sealOf_11 ?_
    refine aw_getR (r := 5) 2 rfl dX8_sealOf_12 fl_X8_24 at_0 rfl rfl ?_
    refine a_il1 dX8_sealOf_15 ?_
    refine aw_callV 1 0 0 dX8_sealOf_16 yw_X3_isLogged ml_X8_229 in_X3_isLogged se_X3_isLogged (ci := 2) rfl at_5 (as := [_]) rfl rfl ⟨by decide, by decide, by decide, Nat.le_of_ble_eq_true rfl⟩ ?_
    refine ac_isLogged (Or.inl rfl) r4 (fun q => ?_) (fun q => ?_)
    · refine am_ci ?_
      refine aw_if_ne_y 32 dX8_sealOf_19 (by decide) (by decide) ?_
      exact J32 (Or.inr (e.mp q))
    · refine am_ci ?_
      refine aw_if_ne_n 32 dX8_sealOf_19 (by decide) (by decide) ?_
      refine aw_throw (i := 18) rfl rfl dX8_sealOf_22 dX8_sealOf_25 dX8_sealOf_26 dX8_sealOf_28 dX8_sealOf_31 tw_IndexOutOfBoundsException rfl ⟨rfl, rfl⟩ ⟨by decide, by decide, by decide, rfl⟩ ?_
      exact k1 (fun x => x.1.elim (fun y => c8 y) (fun y => q (e.mpr y)))
theorem chP_z {g : AH} {fr f i s : Int} (hz : ∀ p, 0 ≤ p → p ≤ 5 → ¬ (0 < g 141 (fr + 4 + 6 * i + p) ∧ g 141 (46 + 25 * i + 0) = f)) : ∀ p : Nat, p ≤ 6 → chP g fr f i p s = s
  | 0, _ => rfl
  | p + 1, hp => by
    show chS g fr f i p (chP g fr f i p s) = s
    unfold chS
    rw [if_neg (hz p (by omega) (by omega)), chP_z hz p (by omega)]
theorem chP_o {g : AH} {fr f i s o : Int} (hf : g 141 (46 + 25 * i + 0) = f) (hz : ∀ p, 0 ≤ p → p ≤ 5 → 0 < g 141 (fr + 4 + 6 * i + p) ∧ cLt o p = g 141 (fr + 4 + 6 * i + p)) : ∀ p : Nat, p ≤ 6 → csP o p s = chP g fr f i p s
  | 0, _ => rfl
  | p + 1, hp => by
    obtain ⟨z1, z2⟩ := hz p (by omega) (by omega)
    show mixI (csP o p s) (cLt o p) = chS g fr f i p (chP g fr f i p s)
    unfold chS
    rw [if_pos ⟨z1, hf⟩, z2, chP_o hf hz p (by omega)]
theorem SR_by {h g : AH} {t f y : Int} (hS : SR h 5 g) (ht : isLg g t) : ∀ i : Nat, i ≤ g 141 3 → csN h 5 t f i y = chN g (logA g t) f i y
  | 0, _ => rfl
  | i + 1, hi => by
    have e := SR_lg (t := t) hS
    obtain ⟨l1, l2⟩ := hS.2.2.1.2.2.2.2.2 t ht
    obtain ⟨l3, l4⟩ := l1 i (by omega) (by omega)
    have rl := (hS.2.2.2.2.2.2.2.2.2 t ht).1
    have s0 := (hS.1.2.1 i (by omega) (by omega)).1 0 (by decide) (by decide)
    have eo : cOrI h 5 t i = h 13 (t % 10 * 12 + i) := by
      unfold cOrI
      rw [if_pos (e.mpr ht)]
      rfl
    show (if ¬ cOrI h 5 t i = 0 ∧ h (5 + 2) ((i : Int) * 11 + 0) = f then csP (cOrI h 5 t i) 6 (csN h 5 t f i y) else csN h 5 t f i y) = chP g (logA g t) f i 6 (chN g (logA g t) f i y)
    rw [SR_by hS ht i (by omega), s0, eo]
    have l3' : ∀ p, 0 ≤ p → p ≤ 5 → cLt (h 13 (t % 10 * 12 + i)) p = g 141 (logA g t + 4 + 6 * (i : Int) + p) := l3
    have l4' : h 13 (t % 10 * 12 + i) = 0 ↔ g 141 (logA g t + 4 + 6 * (i : Int) + 0) = 0 := l4
    by_cases z : ¬ h 13 (t % 10 * 12 + i) = 0 ∧ g 141 (46 + 25 * (i : Int) + 0) = f
    · rw [if_pos z]
      refine chP_o z.2 (fun p p0 p1 => ?_) 6 (Nat.le_refl _)
      obtain ⟨a, c⟩ := rl i p (by omega) (by omega) p0 p1
      have : ¬ g 141 (logA g t + 4 + 6 * (i : Int) + p) = 0 := fun x => z.1 (l4'.mpr (c.mp x))
      exact ⟨by omega, l3' p p0 p1⟩
    · rw [if_neg z]
      refine (chP_z (fun p p0 p1 x => ?_) 6 (Nat.le_refl _)).symm
      obtain ⟨a, c⟩ := rl i p (by omega) (by omega) p0 p1
      exact z ⟨fun w => by have := c.mpr (l4'.mp w); omega, x.2⟩
theorem cx_check {t f y : Int} {h : AH} {K : AO → Nat → AH → Prop} (hS : SR h 5 h) (k1 : ¬ (isLg h t ∧ 0 ≤ f ∧ f < h 141 2) → K (.inr xI) 159 h) (ky : isLg h t → 0 ≤ f ∧ f < h 141 2 → ¬ (0 ≤ y ∧ y ≤ 999999) → K (.inl (some (0, 0))) 159 h) (kt : isLg h t → 0 ≤ f ∧ f < h 141 2 → 0 ≤ y ∧ y ≤ 999999 → h 141 (logA h t + f) = chN h (logA h t) f (h 141 3).toNat y → K (.inl (some (0, 1))) 159 h) (kf : isLg h t → 0 ≤ f ∧ f < h 141 2 → 0 ≤ y ∧ y ≤ 999999 → ¬ h 141 (logA h t + f) = chN h (logA h t) f (h 141 3).toNat y → K (.inl (some (0, 0))) 159 h) : AC mX8_check 7 2 12 159 [(2, 0), (0, t), (0, f), (0, y)] h K := by
  obtain ⟨-, -, d2, d3, d4, -⟩ := hS.1.1
  have n2 := hS.2.2.2.1.2.2.2.2.1
  have n3 := hS.2.2.2.1.2.2.1
  have r4 : 0 ≤ h 5 4 ∧ h 5 4 ≤ 100000 := by
    have a := hS.2.2.2.2.1
    rw [d4]
    omega
  refine ac_of (ls := [(2, 0), (0, t), (0, f), (0, y)]) pn_X8 rfl (Nat.le_of_ble_eq_true rfl) rfl ?_
  refine a_al0 (by decide) dX8_check_0 ?_
  refine a_il1 dX8_check_1 ?_
  refine aw_callV 6 1 6 dX8_check_2 yw_X8_needLogged ml_X8_235 in_X8_needLogged se_X8_needLogged (ci := 7) rfl at_0 (as := [_]) rfl rfl ⟨by decide, by decide, by decide, Nat.le_of_ble_eq_true rfl⟩ ?_
  refine ac_needLogged hS (fun q => ?_) (fun q => ?_)
  · refine am_cv ?_
    refine a_al0 (by decide) dX8_check_5 ?_
    refine a_il2 dX8_check_6 ?_
    refine aw_callV 6 1 6 dX8_check_7 yw_X8_needFleet ml_X8_156 in_X8_needFleet se_X8_needFleet (ci := 7) rfl at_0 (as := [_]) rfl rfl ⟨by decide, by decide, by decide, Nat.le_of_ble_eq_true rfl⟩ ?_
    refine ac_needFleet (fun q2 => ?_) (fun q2 => ?_)
    · rw [d2] at q2
      have e1 := SR_by (f := f) (y := y) hS q (h 141 3).toNat (by omega)
      have e2 := SR_si hS (Or.inr q) q2
      rw [if_neg (by have := q.2; omega)] at e2
      refine am_cv ?_
      refine a_il3 dX8_check_10 ?_
      refine aw_callS 1 0 0 dX8_check_11 yw_X8_isKey ml_X8_238 sm_X8_isKey (as := [_]) rfl rfl ⟨by decide, by decide, by decide, Nat.le_of_ble_eq_true rfl⟩ ?_
      refine ac_isKey (fun q3 => ?_) (fun q3 => ?_)
      · refine am_ci ?_
        refine aw_if_eq_n 43 dX8_check_14 (by decide) (by decide) ?_
        refine a_al0 (by decide) dX8_check_17 ?_
        refine aw_getR (r := 5) 2 rfl dX8_check_18 fl_X8_24 at_0 rfl rfl ?_
        try simp (disch := omega) only [up_at, up_ne]
        refine a_il1 dX8_check_21 ?_
        refine a_il2 dX8_check_22 ?_
        refine a_il3 dX8_check_23 ?_
        refine aw_callV 4 0 0 dX8_check_24 yw_X3_sealBy ml_X8_241 in_X3_sealBy se_X3_sealBy (ci := 2) rfl at_5 (as := [_, _, _]) rfl rfl ⟨by decide, by decide, by decide, Nat.le_of_ble_eq_true rfl⟩ ?_
        refine ac_sealBy (Or.inl rfl) (by rw [d3]; exact n3) r4 q3 ?_
        rw [d3, e1]
        refine am_ci ?_
        try simp (disch := omega) only [up_at, up_ne]
        refine a_al0 (by decide) dX8_check_27 ?_
        refine aw_getR (r := 5) 2 rfl dX8_check_28 fl_X8_24 at_0 rfl rfl ?_
        try simp (disch := omega) only [up_at, up_ne]
        refine a_il1 dX8_check_31 ?_
        refine a_il2 dX8_check_32 ?_
        refine aw_callV 2 0 0 dX8_check_33 yw_X3_sealIn ml_X8_232 in_X3_sealIn se_X3_sealIn (ci := 2) rfl at_5 (as := [_, _]) rfl rfl ⟨by decide, by decide, by decide, Nat.le_of_ble_eq_true rfl⟩ ?_
        refine ac_sealIn (Or.inl rfl) (by omega) r4 ?_
        rw [e2]
        refine am_ci ?_
        try simp (disch := omega) only [up_at, up_ne]
        refine aw_icmp_ne 43 dX8_check_36 (by decide) (fun c36 => ?_) (fun c36 => ?_)
        · refine aw_iconst dX8_check_43 (by decide) ?_
          refine aw_zret dX8_check_44 rfl (by omega) ?_
          exact kf q q2 q3 (by omega)
        · refine aw_iconst dX8_check_39 (by decide) ?_
          refine aw_goto 44 dX8_check_40 (by decide) ?_
          refine aw_zret dX8_check_44 rfl (by omega) ?_
          exact kt q q2 q3 (by omega)
      · refine am_ci ?_
        refine aw_if_eq_y 43 dX8_check_14 (by decide) (by decide) ?_
        refine aw_iconst dX8_check_43 (by decide) ?_
        refine aw_zret dX8_check_44 rfl (by omega) ?_
        exact ky q q2 q3
    · rw [d2] at q2
      exact am_cx rfl (k1 (fun x => q2 x.2))
  · exact am_cx rfl (k1 (fun x => q x.1))
theorem cx_logged {t i p : Int} {h : AH} {K : AO → Nat → AH → Prop} (hS : SR h 5 h) (k1 : ¬ (isLg h t ∧ (0 ≤ i ∧ i < h 141 3) ∧ 0 ≤ p ∧ p ≤ 5) → K (.inr xI) 159 h) (k0 : isLg h t → 0 ≤ i ∧ i < h 141 3 → 0 ≤ p ∧ p ≤ 5 → K (.inl (some (0, h 141 (logA h t + 4 + 6 * i + p)))) 159 h) : AC mX8_logged 7 3 18 159 [(2, 0), (0, t), (0, i), (0, p)] h K := by
  obtain ⟨-, -, d2, d3, d4, -⟩ := hS.1.1
  have n3 := hS.2.2.2.1.2.2.1
  have r4 : 0 ≤ h 5 4 ∧ h 5 4 ≤ 100000 := by
    have a := hS.2.2.2.2.1
    rw [d4]
    omega
  have e := SR_lg (t := t) hS
  refine ac_of (ls := [(2, 0), (0, t), (0, i), (0, p)]) pn_X8 rfl (Nat.le_of_ble_eq_true rfl) rfl ?_
  refine a_al0 (by decide) dX8_logged_0 ?_
  refine a_il1 dX8_logged_1 ?_
  refine aw_callV 6 1 6 dX8_logged_2 yw_X8_needLogged ml_X8_235 in_X8_needLogged se_X8_needLogged (ci := 7) rfl at_0 (as := [_]) rfl rfl ⟨by decide, by decide, by decide, Nat.le_of_ble_eq_true rfl⟩ ?_
  refine ac_needLogged hS (fun q => ?_) (fun q => ?_)
  · refine am_cv ?_
    refine a_al0 (by decide) dX8_logged_5 ?_
    refine a_il2 dX8_logged_6 ?_
    refine aw_callV 6 1 6 dX8_logged_7 yw_X8_needShip ml_X8_147 in_X8_needShip se_X8_needShip (ci := 7) rfl at_0 (as := [_]) rfl rfl ⟨by decide, by decide, by decide, Nat.le_of_ble_eq_true rfl⟩ ?_
    refine ac_needShip (fun q2 => ?_) (fun q2 => ?_)
    · rw [d3] at q2
      refine am_cv ?_
      refine a_il3 dX8_logged_10 ?_
      refine aw_callS 6 1 6 dX8_logged_11 yw_X8_needPulse ml_X8_190 sm_X8_needPulse (as := [_]) rfl rfl ⟨by decide, by decide, by decide, Nat.le_of_ble_eq_true rfl⟩ ?_
      refine ac_needPulse (fun q3 => ?_) (fun q3 => ?_)
      · refine am_cv ?_
        refine a_al0 (by decide) dX8_logged_14 ?_
        refine aw_getR (r := 5) 2 rfl dX8_logged_15 fl_X8_24 at_0 rfl rfl ?_
        try simp (disch := omega) only [up_at, up_ne]
        refine a_il1 dX8_logged_18 ?_
        refine a_il2 dX8_logged_19 ?_
        refine aw_callV 3 0 0 dX8_logged_20 yw_X3_ordersIn ml_X8_245 in_X3_ordersIn se_X3_ordersIn (ci := 2) rfl at_5 (as := [_, _]) rfl rfl ⟨by decide, by decide, by decide, Nat.le_of_ble_eq_true rfl⟩ ?_
        refine ac_ordersIn (Or.inl rfl) (by omega) r4 ?_
        refine am_ci ?_
        try simp (disch := omega) only [up_at, up_ne]
        refine a_il3 dX8_logged_23 ?_
        refine aw_callS 1 0 0 dX8_logged_24 yw_X2_letter ml_X8_196 sm_X2_letter (as := [_, _]) rfl rfl ⟨by decide, by decide, by decide, Nat.le_of_ble_eq_true rfl⟩ ?_
        refine ac_letter q3 ?_
        have l := ((hS.2.2.1.2.2.2.2.2 t q).1 i q2.1 q2.2).1 p q3.1 q3.2
        have eo : cOrI h 5 t i = h (5 + 8) (t % 10 * 12 + i) := by
          unfold cOrI
          rw [if_pos (e.mpr q)]
        rw [eo, l]
        refine am_ci ?_
        try simp (disch := omega) only [up_at, up_ne]
        refine aw_iret dX8_logged_27 rfl ?_
        exact k0 q q2 q3
      · exact am_cx rfl (k1 (fun x => q3 x.2.2))
    · rw [d3] at q2
      exact am_cx rfl (k1 (fun x => q2 x.2.1))
  · exact am_cx rfl (k1 (fun x => q x.1))
