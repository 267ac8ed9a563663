/-! the law from its entry -/
def h0 : AH := mdS hA
theorem hA_f {k j : Int} (hk : 139 ≤ k) : hA k j = hD k j := by
  unfold hA hAa clrF hA9 hA8 hA7 wrR svR shI
  simp (disch := omega) only [up_ne, fillH_ne]
  exact hA6_f (by omega)
theorem hA_z {k : Int} (hk : 141 ≤ k ∧ k ≤ 158) (j : Int) : hA k j = 0 := by
  rw [hA_f (by omega)]
  have q : ∀ k : Fin 159, 141 ≤ k.val → (am_SH k.val).1 % 10 ≠ 2 ∧ ¬ (am_SH k.val).1 < 100 := by decide +kernel
  have q2 := q ⟨k.toNat, by omega⟩ (by dsimp only; omega)
  dsimp only at q2
  unfold hD am_T
  rw [if_neg q2.2, if_neg q2.1]
theorem h0_z {k : Int} (hk : 157 ≤ k ∧ k ≤ 158) (j : Int) : h0 k j = 0 := by
  unfold h0 mdS mdR
  simp (disch := omega) only [up_ne, fillH_ne]
  exact hA_z (by omega) j
theorem gd_none {α : Type} (d : α) : ∀ (l : List α) (f : Nat), l.length ≤ f → l.getD f d = d
  | [], _, _ => rfl
  | _ :: l, 0, h => absurd h (Nat.not_succ_le_zero _)
  | _ :: l, f + 1, h => gd_none d l f (Nat.le_of_succ_le_succ h)
theorem RV_F : ∀ k : Fin 159, ∀ f : Fin 28, (am_RV k.val f.val).all (fun r => decide (h0 (k.val : Int) (f.val : Int) = r)) = true := by decide +kernel
theorem RV_G : ∀ k : Fin 159, (am_SH k.val).1 < 100 ∨ (am_SH k.val).1 % 10 ≠ 2 ∨ k.val = 34 ∨ k.val = 116 := by decide +kernel
theorem FT_len : ∀ c : Fin 10, (am_ftl.getD c.val []).length ≤ 28 := by decide +kernel
theorem FT_0 {c f : Nat} (hf : 28 ≤ f) : am_FT c f = 0 := by
  unfold am_FT
  by_cases q : c < 10
  · have := FT_len ⟨c, q⟩
    dsimp only at this
    exact gd_none 0 _ f (by omega)
  · rw [gd_none [] am_ftl c (by show 9 ≤ c; omega)]
    rfl
theorem RR_0 : am_RR 159 h0 := by
  intro _ k f r hr
  by_cases hk : k < 159
  · by_cases hf : f < 28
    · have q := RV_F ⟨k, hk⟩ ⟨f, hf⟩
      dsimp only at q
      rw [hr] at q
      exact of_decide_eq_true q
    · exfalso
      have q := RV_G ⟨k, hk⟩
      dsimp only at q
      unfold am_RV at hr
      have e : am_T k f = 2 := by
        by_cases z : am_T k f = 2
        · exact z
        · rw [if_neg z] at hr
          cases hr
      rw [if_pos e] at hr
      unfold am_T at e
      rcases q with q | q | q | q
      · rw [if_pos q, FT_0 (by omega)] at e
        cases e
      · by_cases z : (am_SH k).1 < 100
        · rw [if_pos z, FT_0 (by omega)] at e
          cases e
        · rw [if_neg z] at e
          exact q e
      · subst q
        have e2 : am_rvs 34 f = none := gd_none none _ f (by show 8 ≤ f; omega)
        rw [if_neg (by decide), e2] at hr
        cases hr
      · subst q
        have e2 : am_rvs 116 f = none := gd_none none _ f (by show 2 ≤ f; omega)
        rw [if_neg (by decide), e2] at hr
        cases hr
  · exfalso
    have e : am_SH k = (100, 0) := gd_none _ _ k (by show 159 ≤ k; omega)
    have e2 : am_T k f = 0 := by
      unfold am_T
      rw [e]
      rfl
    unfold am_RV at hr
    rw [if_neg (by rw [e2]; decide)] at hr
    cases hr
theorem h0_141 : ∀ x : Fin 50, h0 141 x.val = if x.val = 0 then 10 else if x.val = 1 then 10 else if x.val = 2 then 1 else if x.val = 6 then 5 else 0 := by decide +kernel
theorem LI_0 : LI h0 := by
  have r0 : h0 141 0 = 10 := h0_141 ⟨0, by decide⟩
  have r1 : h0 141 1 = 10 := h0_141 ⟨1, by decide⟩
  have r2 : h0 141 2 = 1 := h0_141 ⟨2, by decide⟩
  have r3 : h0 141 3 = 0 := h0_141 ⟨3, by decide⟩
  have r4 : h0 141 4 = 0 := h0_141 ⟨4, by decide⟩
  have r5 : h0 141 5 = 0 := h0_141 ⟨5, by decide⟩
  have r6 : h0 141 6 = 5 := h0_141 ⟨6, by decide⟩
  have r7 : h0 141 7 = 0 := h0_141 ⟨7, by decide⟩
  have r8 : h0 141 8 = 0 := h0_141 ⟨8, by decide⟩
  have r9 : h0 141 9 = 0 := h0_141 ⟨9, by decide⟩
  have r34 : h0 141 34 = 0 := h0_141 ⟨34, by decide⟩
  have r35 : h0 141 35 = 0 := h0_141 ⟨35, by decide⟩
  have r36 : h0 141 36 = 0 := h0_141 ⟨36, by decide⟩
  have c0 : ∀ x : Fin 9, h0 5 x.val = if x.val = 0 then 10 else if x.val = 1 then 10 else if x.val = 2 then 1 else if x.val = 6 then 5 else 0 := by decide +kernel
  have d0 : h0 5 0 = 10 := c0 ⟨0, by decide⟩
  have d1 : h0 5 1 = 10 := c0 ⟨1, by decide⟩
  have d2 : h0 5 2 = 1 := c0 ⟨2, by decide⟩
  have d3 : h0 5 3 = 0 := c0 ⟨3, by decide⟩
  have d4 : h0 5 4 = 0 := c0 ⟨4, by decide⟩
  have d5 : h0 5 5 = 0 := c0 ⟨5, by decide⟩
  have d6 : h0 5 6 = 5 := c0 ⟨6, by decide⟩
  have d7 : h0 5 7 = 0 := c0 ⟨7, by decide⟩
  have d8 : h0 5 8 = 0 := c0 ⟨8, by decide⟩
  have p0 : h0 11 0 = 0 := by decide +kernel
  have q0 : h0 12 0 = -1 := by decide +kernel
  have a0 : h0 32 1 = 0 ∧ h0 32 2 = 0 ∧ h0 140 6 = 0 := by decide +kernel
  have b0 : (h0 137 0 = 0 ∧ h0 137 1 = 0) ∧ h0 146 0 = 0 ∧ h0 146 1 = 0 := by decide +kernel
  have t0 : h0 140 9 = 0 ∧ h0 2 1 = 0 ∧ h0 2 3 = -1 ∧ h0 140 16 = -1 ∧ h0 140 27 = 0 ∧ h0 138 1 = 0 := by decide +kernel
  obtain ⟨a1, a2, a3⟩ := a0
  obtain ⟨⟨b1, b2⟩, b3, b4⟩ := b0
  obtain ⟨t1, t2, t3, t4, t5, t6⟩ := t0
  have nl : ∀ t, ¬ isLg h0 t := fun t q => by
    unfold isLg at q
    omega
  refine ⟨⟨⟨⟨by omega, by omega, by omega, by omega, by omega, by omega, by omega⟩, fun i i0 i1 => by omega, fun f f0 f1 => ?_⟩, fun i i0 i1 => by omega, ⟨⟨by omega, by omega⟩, fun i i0 i1 => by omega, fun s w s0 s1 => by omega, fun k w k0 k1 => by omega, fun f f0 f1 => ?_, fun t ht => absurd ht (nl t)⟩, ⟨⟨by omega, by omega, by omega, by omega⟩, fun j j0 j1 => by omega, by omega, fun x x0 x1 => by omega, by omega, fun g g0 g1 => ?_, by omega, fun s s0 s1 => by omega, by omega⟩, by omega, ?_, by omega, fun i i0 i1 => by omega, fun f f0 f1 => ?_, fun t ht => absurd ht (nl t)⟩, fun i j i0 ij jn => by omega, ⟨by omega, by omega, by omega, fun e e0 e1 => by omega⟩, fun s s0 s1 => ?_, ⟨fun e e0 e1 => by omega, fun s s0 s1 z => ?_⟩, ⟨by omega, by omega, by omega, fun k k0 k1 => by omega⟩, ⟨by omega, by omega, fun k k0 k1 => by omega⟩⟩
  · have : f = 0 := by omega
    subst this
    show h0 11 0 = h0 141 34
    omega
  · have : f = 0 := by omega
    subst this
    show h0 12 0 = if h0 141 35 = 1 then h0 141 36 else -1
    rw [if_neg (by omega)]
    exact q0
  · have : g = 0 := by omega
    subst this
    show 0 ≤ h0 141 34 ∧ h0 141 34 ≤ 900000
    omega
  · rw [if_pos (by omega)]
    omega
  · have : f = 0 := by omega
    subst this
    show (h0 141 35 = 0 ∨ h0 141 35 = 1) ∧ (h0 141 35 = 1 → 0 ≤ h0 141 36) ∧ 0 ≤ h0 141 34 ∧ h0 141 34 ≤ 648 * h0 141 4
    omega
  · have : s = 0 ∨ s = 1 := by omega
    rcases this with rfl | rfl
    · exact ⟨⟨fun _ => b3, fun _ => b1⟩, fun z => absurd b3 z⟩
    · exact ⟨⟨fun _ => b4, fun _ => b2⟩, fun z => absurd b4 z⟩
  · have : s = 0 ∨ s = 1 := by omega
    rcases this with rfl | rfl
    · exact absurd b3 z
    · exact absurd b4 z
theorem law_all {xx : String × List (Nat × Nat × Nat × Nat)} {qz : Nat × (Nat → Int)} (hz : LQ qz) {K : AO → Nat → AH → Prop} (kk : ∀ h, K (.inl (some (0, 1))) 159 h) : AZ qz (mLw xx) 20 601024 7293034 K 0 0 [(2, 3000), (9, 0), (9, 0), (9, 0), (9, 0), (9, 0), (9, 0), (9, 0)] [] hD := by
  refine zaw_new (by decide) dL_law_0 cls_7 cq_L_8 iq_X8 jq_X8 rfl (by decide) ⟨by decide, by decide⟩ (by decide +kernel) ?_
  refine zaw_dup dL_law_3 rfl ?_
  refine zaw_callD 4 139 7277 dL_law_4 yw_X8_init ml_L_105 in_X8_init rfl rfl (ci := 7) rfl ⟨by decide, by decide, by decide, rfl⟩ (as := []) rfl rfl ⟨by decide, by decide, by decide, Nat.le_of_ble_eq_true rfl⟩ ?_
  refine ac_X8_init ?_
  refine az_cv ?_
  refine za_as1 (by decide) rfl rfl dL_law_7 ?_
  refine zaw_new (by decide) dL_law_8 cls_8 cq_L_106 iq_X9 jq_X9 rfl (by decide) ⟨by decide, by decide⟩ (by decide +kernel) ?_
  refine zaw_dup dL_law_11 rfl ?_
  refine zaw_callI 2 16 18094 dL_law_12 yw_X9_init ml_L_108 in_X9_init rfl rfl (ci := 8) rfl ⟨by decide, by decide, by decide, rfl⟩ (as := []) rfl rfl ⟨by decide, by decide, by decide, Nat.le_of_ble_eq_true rfl⟩ ?_
  refine ac_X9_init (hA_z (by decide)) (hA_z (by decide)) (hA_z (by decide)) (hA_z (by decide)) (hA_z (by decide)) (hA_z (by decide)) (hA_z (by decide)) (hA_z (by decide)) (hA_z (by decide)) (hA_z (by decide)) (hA_z (by decide)) (hA_z (by decide)) (hA_z (by decide)) (hA_z (by decide)) (hA_z (by decide)) (hA_z (by decide)) ?_
  refine az_cv ?_
  refine za_as2 (by decide) rfl rfl dL_law_15 ?_
  refine zaw_iconst dL_law_16 (by decide) ?_
  refine zaw_nal (N := 1) (by decide) (am_RR_lt (by decide)) dL_law_17 aq_l rfl (by decide) (Nat.le_of_ble_eq_true rfl) ⟨by decide, by decide⟩ (h0_z (by decide)) ?_
  refine za_as3 (by decide) rfl rfl dL_law_19 ?_
  refine zaw_iconst dL_law_20 (by decide) ?_
  refine zaw_nad (N := 1) (by decide) RR_0 dL_law_21 aq_d rfl (by decide) (Nat.le_of_ble_eq_true rfl) ⟨by decide, by decide⟩ (h0_z (by decide)) ?_
  refine za_as4 (by decide) rfl rfl dL_law_23 ?_
  refine zaw_iconst dL_law_25 (by decide) ?_
  refine za_is5 rfl rfl dL_law_26 ?_
  exact law_lp hz kk 512 0 h0 _ _ _ _ LI_0 rfl (by decide) (by decide) (by have := hz.1; omega) (by decide) (by decide)
