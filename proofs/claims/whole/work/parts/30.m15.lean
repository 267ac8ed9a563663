/-! the model: what is asked of the sheet -/
def sumN (f : Int → Int) : Nat → Int
  | 0 => 0
  | m + 1 => sumN f m + f m
theorem sumN_s (f : Int → Int) {i : Int} (hi : 0 ≤ i) : sumN f (i + 1).toNat = sumN f i.toNat + f i := by
  rw [show (i + 1).toNat = i.toNat + 1 by omega]
  show sumN f i.toNat + f (i.toNat : Int) = _
  rw [Int.toNat_of_nonneg hi]
theorem sumN_rg {f : Int → Int} {B : Int} (hf : ∀ i, 0 ≤ f i ∧ f i ≤ B) : ∀ m : Nat, 0 ≤ sumN f m ∧ sumN f m ≤ m * B
  | 0 => by simp [sumN]
  | m + 1 => by
    have h1 := sumN_rg hf m
    have h2 := hf m
    show 0 ≤ sumN f m + f m ∧ sumN f m + f m ≤ ((m + 1 : Nat) : Int) * B
    have : ((m + 1 : Nat) : Int) * B = m * B + B := by rw [Int.natCast_add, Int.add_mul]; simp
    omega
theorem ac_thrown {h : AH} {K : AO → Nat → AH → Prop} (k : K (.inl (some (0, h 140 7))) 159 h) : AC mX9_thrown 1 0 0 159 [(2, 140)] h K := by
  refine ac_of (ls := [(2, 140)]) pn_X9 rfl (Nat.le_of_ble_eq_true rfl) rfl ?_
  refine a_al0 (by decide) dX9_thrown_0 ?_
  refine aw_get 7 dX9_thrown_1 fl_X9_66 at_140 rfl ?_
  refine aw_iret dX9_thrown_4 rfl ?_
  exact k
theorem ac_errorPosition {h : AH} {K : AO → Nat → AH → Prop} (k : K (.inl (some (0, h 140 16))) 159 (up h 140 7 0)) : AC mX9_errorPosition 1 0 0 159 [(2, 140)] h K := by
  refine ac_of (ls := [(2, 140)]) pn_X9 rfl (Nat.le_of_ble_eq_true rfl) rfl ?_
  refine a_al0 (by decide) dX9_errorPosition_0 ?_
  refine aw_iconst dX9_errorPosition_1 (by decide) ?_
  refine aw_put 7 dX9_errorPosition_2 fp_X9_66 at_140 rfl ?_
  refine a_al0 (by decide) dX9_errorPosition_5 ?_
  refine aw_get 16 dX9_errorPosition_6 fl_X9_32 at_140 rfl ?_
  try simp (disch := omega) only [up_at, up_ne]
  refine aw_iret dX9_errorPosition_9 rfl ?_
  exact k
def flN (h : AH) (i : Int) : Int := if h 141 (46 + 25 * i + 10) = -1 then 1 else 0
theorem ac_sailing {h : AH} {K : AO → Nat → AH → Prop} (hn : 0 ≤ h 141 3 ∧ h 141 3 ≤ 12) (k : K (.inl (some (0, sumN (flN h) (h 141 3).toNat))) 159 h) : AC mX9_sailing 3 0 0 159 [(2, 140)] h K := by
  have rg := sumN_rg (f := flN h) (B := 1) (fun i => by unfold flN; split <;> decide)
  refine ac_of (ls := [(2, 140), (9, 0), (9, 0)]) pn_X9 rfl (Nat.le_of_ble_eq_true rfl) rfl ?_
  refine aw_iconst dX9_sailing_0 (by decide) ?_
  refine a_is1 rfl rfl dX9_sailing_1 ?_
  refine aw_iconst dX9_sailing_2 (by decide) ?_
  refine a_is2 rfl rfl dX9_sailing_3 ?_
  refine aw_loop (fun q : Int × Int => 0 ≤ q.1 ∧ q.1 ≤ h 141 3 ∧ q.2 = sumN (flN h) q.1.toNat) (fun q => (h 141 3 - q.1).toNat) (fun q => AW mX9_sailing 3 0 0 K 159 4 [(2, 140), (0, q.2), (0, q.1)] [] h) (fun q hq ih => ?_) (0, 0) ⟨by dsimp only; omega, hn.1, rfl⟩
  obtain ⟨i, a⟩ := q
  obtain ⟨i0, i1, ea⟩ := hq
  dsimp only at i0 i1 ea ih ⊢
  have ra := rg i.toNat
  have es := sumN_s (flN h) i0
  refine a_il2 dX9_sailing_4 ?_
  refine a_al0 (by decide) dX9_sailing_5 ?_
  refine aw_getR (r := 141) 0 rfl dX9_sailing_6 fl_X9_7 at_140 rfl rfl ?_
  refine aw_iconst dX9_sailing_9 (by decide) ?_
  refine aw_iald dX9_sailing_10 ar_141 (by omega) ?_
  refine aw_icmp_ge 36 dX9_sailing_11 (by decide) (fun c11 => ?_) (fun c11 => ?_)
  · refine a_il1 dX9_sailing_36 ?_
    refine aw_iret dX9_sailing_37 rfl ?_
    rw [ea, show i = h 141 3 by omega]
    exact k
  · refine a_il1 dX9_sailing_14 ?_
    refine a_al0 (by decide) dX9_sailing_15 ?_
    refine a_il2 dX9_sailing_16 ?_
    refine aw_callV 2 0 0 dX9_sailing_17 yw_X9_sails ml_X9_216 in_X9_sails se_X9_sails (ci := 8) rfl at_140 (as := [_]) rfl rfl ⟨by decide, by decide, by decide, Nat.le_of_ble_eq_true rfl⟩ ?_
    refine ac_sails (by omega) (fun q1 => ?_) (fun q1 => ?_)
    · refine am_ci ?_
      refine aw_if_eq_n 27 dX9_sailing_20 (by decide) (by decide) ?_
      refine aw_iconst dX9_sailing_23 (by decide) ?_
      refine aw_goto 28 dX9_sailing_24 (by decide) ?_
      refine aw_iaddR (by omega) dX9_sailing_28 ?_
      refine a_is1 rfl rfl dX9_sailing_29 ?_
      refine a_iiR2 (by omega) rfl rfl dX9_sailing_30 ?_
      refine aw_goto 4 dX9_sailing_33 (by decide) ?_
      exact ih (i + 1, a + 1) ⟨by dsimp only; omega, by dsimp only; omega, by dsimp only; rw [es, ea]; unfold flN; rw [if_pos q1]⟩ (by dsimp only; omega)
    · refine am_ci ?_
      refine aw_if_eq_y 27 dX9_sailing_20 (by decide) (by decide) ?_
      refine aw_iconst dX9_sailing_27 (by decide) ?_
      refine aw_iaddR (by omega) dX9_sailing_28 ?_
      refine a_is1 rfl rfl dX9_sailing_29 ?_
      refine a_iiR2 (by omega) rfl rfl dX9_sailing_30 ?_
      refine aw_goto 4 dX9_sailing_33 (by decide) ?_
      exact ih (i + 1, a + 0) ⟨by dsimp only; omega, by dsimp only; omega, by dsimp only; rw [es, ea]; unfold flN; rw [if_neg q1]⟩ (by dsimp only; omega)
/-- r is the only fleet that sails, or -1 -/
def isOnly (h : AH) (r : Int) : Prop := (∃ i, 0 ≤ i ∧ i < h 141 3 ∧ h 141 (46 + 25 * i + 10) = -1 ∧ h 141 (46 + 25 * i + 0) = r ∧ ∀ j, 0 ≤ j → j < h 141 3 → h 141 (46 + 25 * j + 10) = -1 → h 141 (46 + 25 * j + 0) = r) ∨ (r = -1 ∧ ((∀ j, 0 ≤ j → j < h 141 3 → ¬ h 141 (46 + 25 * j + 10) = -1) ∨ ∃ i j, 0 ≤ i ∧ i < h 141 3 ∧ 0 ≤ j ∧ j < h 141 3 ∧ h 141 (46 + 25 * i + 10) = -1 ∧ h 141 (46 + 25 * j + 10) = -1 ∧ ¬ h 141 (46 + 25 * i + 0) = h 141 (46 + 25 * j + 0)))
theorem ac_onlyFleet {h : AH} {K : AO → Nat → AH → Prop} (hn : 0 ≤ h 141 3 ∧ h 141 3 ≤ 12) (hf : ∀ i, 0 ≤ i → i < h 141 3 → 0 ≤ h 141 (46 + 25 * i + 0)) (k : ∀ r, isOnly h r → K (.inl (some (0, r))) 159 h) : AC mX9_onlyFleet 3 0 0 159 [(2, 140)] h K := by
  refine ac_of (ls := [(2, 140), (9, 0), (9, 0)]) pn_X9 rfl (Nat.le_of_ble_eq_true rfl) rfl ?_
  refine aw_iconst dX9_onlyFleet_0 (by decide) ?_
  refine a_is1 rfl rfl dX9_onlyFleet_1 ?_
  refine aw_iconst dX9_onlyFleet_2 (by decide) ?_
  refine a_is2 rfl rfl dX9_onlyFleet_3 ?_
  refine aw_loop (fun q : Int × Int => 0 ≤ q.1 ∧ q.1 ≤ h 141 3 ∧ ((q.2 = -1 ∧ ∀ j, 0 ≤ j → j < q.1 → ¬ h 141 (46 + 25 * j + 10) = -1) ∨ (∃ i, 0 ≤ i ∧ i < q.1 ∧ h 141 (46 + 25 * i + 10) = -1 ∧ h 141 (46 + 25 * i + 0) = q.2 ∧ ∀ j, 0 ≤ j → j < q.1 → h 141 (46 + 25 * j + 10) = -1 → h 141 (46 + 25 * j + 0) = q.2))) (fun q => (h 141 3 - q.1).toNat) (fun q => AW mX9_onlyFleet 3 0 0 K 159 4 [(2, 140), (0, q.2), (0, q.1)] [] h) (fun q hq ih => ?_) (0, -1) ⟨by dsimp only; omega, hn.1, Or.inl ⟨rfl, fun j j0 j1 => by dsimp only at j1; omega⟩⟩
  obtain ⟨i, a⟩ := q
  obtain ⟨i0, i1, ea⟩ := hq
  dsimp only at i0 i1 ea ih ⊢
  refine a_il2 dX9_onlyFleet_4 ?_
  refine a_al0 (by decide) dX9_onlyFleet_5 ?_
  refine aw_getR (r := 141) 0 rfl dX9_onlyFleet_6 fl_X9_7 at_140 rfl rfl ?_
  refine aw_iconst dX9_onlyFleet_9 (by decide) ?_
  refine aw_iald dX9_onlyFleet_10 ar_141 (by omega) ?_
  refine aw_icmp_ge 55 dX9_onlyFleet_11 (by decide) (fun c11 => ?_) (fun c11 => ?_)
  · refine a_il1 dX9_onlyFleet_55 ?_
    refine aw_iret dX9_onlyFleet_56 rfl ?_
    have ei : i = h 141 3 := by omega
    subst ei
    rcases ea with ⟨e1, e2⟩ | ⟨x, x0, x1, x2, x3, x4⟩
    · exact k a (Or.inr ⟨e1, Or.inl e2⟩)
    · exact k a (Or.inl ⟨x, x0, x1, x2, x3, x4⟩)
  · refine a_al0 (by decide) dX9_onlyFleet_14 ?_
    refine a_il2 dX9_onlyFleet_15 ?_
    refine aw_callV 2 0 0 dX9_onlyFleet_16 yw_X9_sails ml_X9_216 in_X9_sails se_X9_sails (ci := 8) rfl at_140 (as := [_]) rfl rfl ⟨by decide, by decide, by decide, Nat.le_of_ble_eq_true rfl⟩ ?_
    refine ac_sails (by omega) (fun q1 => ?_) (fun q1 => ?_)
    · have fin : a = -1 ∨ h 141 (46 + 25 * i + 0) = a → AW mX9_onlyFleet 3 0 0 K 159 4 [(2, 140), (0, h 141 (46 + 25 * i + 0)), (0, i + 1)] [] h := fun c => by
        refine ih (i + 1, h 141 (46 + 25 * i + 0)) ⟨by dsimp only; omega, by dsimp only; omega, Or.inr ⟨i, i0, by dsimp only; omega, q1, rfl, fun j j0 j1 j2 => ?_⟩⟩ (by dsimp only; omega)
        dsimp only at j1 ⊢
        by_cases e : j = i
        · rw [e]
        · rcases ea with ⟨e1, e2⟩ | ⟨x, x0, x1, x2, x3, x4⟩
          · exact absurd j2 (e2 j j0 (by omega))
          · have fx := hf x x0 (by omega)
            rw [x4 j j0 (by omega) j2]
            omega
      refine am_ci ?_
      refine aw_if_ne_y 25 dX9_onlyFleet_19 (by decide) (by decide) ?_
      refine a_il1 dX9_onlyFleet_25 ?_
      refine aw_iconst dX9_onlyFleet_26 (by decide) ?_
      refine aw_icmp_eq 42 dX9_onlyFleet_27 (by decide) (fun c27 => ?_) (fun c27 => ?_)
      · refine a_al0 (by decide) dX9_onlyFleet_42 ?_
        refine a_il2 dX9_onlyFleet_43 ?_
        refine aw_iconst dX9_onlyFleet_44 (by decide) ?_
        refine aw_callV 1 0 0 dX9_onlyFleet_45 yw_X9_of ml_X9_213 in_X9_of se_X9_of (ci := 8) rfl at_140 (as := [_, _]) rfl rfl ⟨by decide, by decide, by decide, Nat.le_of_ble_eq_true rfl⟩ ?_
        refine ac_of_ (by omega) (by decide) ?_
        refine am_ci ?_
        refine a_is1 rfl rfl dX9_onlyFleet_48 ?_
        refine a_iiR2 (by omega) rfl rfl dX9_onlyFleet_49 ?_
        refine aw_goto 4 dX9_onlyFleet_52 (by decide) ?_
        exact fin (by omega)
      · refine a_il1 dX9_onlyFleet_30 ?_
        refine a_al0 (by decide) dX9_onlyFleet_31 ?_
        refine a_il2 dX9_onlyFleet_32 ?_
        refine aw_iconst dX9_onlyFleet_33 (by decide) ?_
        refine aw_callV 1 0 0 dX9_onlyFleet_34 yw_X9_of ml_X9_213 in_X9_of se_X9_of (ci := 8) rfl at_140 (as := [_, _]) rfl rfl ⟨by decide, by decide, by decide, Nat.le_of_ble_eq_true rfl⟩ ?_
        refine ac_of_ (by omega) (by decide) ?_
        refine am_ci ?_
        refine aw_icmp_eq 42 dX9_onlyFleet_37 (by decide) (fun c37 => ?_) (fun c37 => ?_)
        · refine a_al0 (by decide) dX9_onlyFleet_42 ?_
          refine a_il2 dX9_onlyFleet_43 ?_
          refine aw_iconst dX9_onlyFleet_44 (by decide) ?_
          refine aw_callV 1 0 0 dX9_onlyFleet_45 yw_X9_of ml_X9_213 in_X9_of se_X9_of (ci := 8) rfl at_140 (as := [_, _]) rfl rfl ⟨by decide, by decide, by decide, Nat.le_of_ble_eq_true rfl⟩ ?_
          refine ac_of_ (by omega) (by decide) ?_
          refine am_ci ?_
          refine a_is1 rfl rfl dX9_onlyFleet_48 ?_
          refine a_iiR2 (by omega) rfl rfl dX9_onlyFleet_49 ?_
          refine aw_goto 4 dX9_onlyFleet_52 (by decide) ?_
          exact fin (by omega)
        · refine aw_iconst dX9_onlyFleet_40 (by decide) ?_
          refine aw_iret dX9_onlyFleet_41 rfl ?_
          rcases ea with ⟨e1, e2⟩ | ⟨x, x0, x1, x2, x3, x4⟩
          · omega
          · refine k (-1) (Or.inr ⟨rfl, Or.inr ⟨x, i, x0, by omega, i0, by omega, x2, q1, by omega⟩⟩)
    · refine am_ci ?_
      refine aw_if_ne_n 25 dX9_onlyFleet_19 (by decide) (by decide) ?_
      refine aw_goto 49 dX9_onlyFleet_22 (by decide) ?_
      refine a_iiR2 (by omega) rfl rfl dX9_onlyFleet_49 ?_
      refine aw_goto 4 dX9_onlyFleet_52 (by decide) ?_
      refine ih (i + 1, a) ⟨by dsimp only; omega, by dsimp only; omega, ?_⟩ (by dsimp only; omega)
      dsimp only
      rcases ea with ⟨e1, e2⟩ | ⟨x, x0, x1, x2, x3, x4⟩
      · refine Or.inl ⟨e1, fun j j0 j1 => ?_⟩
        by_cases e : j = i
        · rw [e]; exact q1
        · exact e2 j j0 (by omega)
      · refine Or.inr ⟨x, x0, by omega, x2, x3, fun j j0 j1 j2 => ?_⟩
        by_cases e : j = i
        · rw [e] at j2; exact absurd j2 q1
        · exact x4 j j0 (by omega) j2
theorem ac_count {w : Int} {h : AH} {K : AO → Nat → AH → Prop} (hn : 0 ≤ h 141 3 ∧ h 141 3 ≤ 12) (hf : ∀ i, 0 ≤ i → i < h 141 3 → 0 ≤ h 141 (46 + 25 * i + 0)) (k1 : ¬ (0 ≤ w ∧ w ≤ 10) → K (.inl (some (0, 0))) 159 (up h 140 7 1)) (k0 : 0 ≤ w ∧ w < 9 → K (.inl (some (0, h 141 w))) 159 (up h 140 7 0)) (k9 : w = 9 → K (.inl (some (0, sumN (flN (up h 140 7 0)) (h 141 3).toNat))) 159 (up h 140 7 0)) (k10 : w = 10 → ∀ r, isOnly (up h 140 7 0) r → K (.inl (some (0, r))) 159 (up h 140 7 0)) : AC mX9_count 4 0 0 159 [(2, 140), (0, w)] h K := by
  have e3 : up h 140 7 0 141 3 = h 141 3 := up_ne (by omega)
  refine ac_of (ls := [(2, 140), (0, w)]) pn_X9 rfl (Nat.le_of_ble_eq_true rfl) rfl ?_
  refine a_al0 (by decide) dX9_count_0 ?_
  refine a_il1 dX9_count_1 ?_
  refine aw_iconst dX9_count_2 (by decide) ?_
  refine aw_bipush dX9_count_3 (by decide) ?_
  refine aw_callS 1 0 0 dX9_count_5 yw_X9_isIn ml_X9_76 sm_X9_isIn (as := [_, _, _]) rfl rfl ⟨by decide, by decide, by decide, Nat.le_of_ble_eq_true rfl⟩ ?_
  refine ac_isIn (fun q => ?_) (fun q => ?_)
  · refine am_ci ?_
    refine aw_if_eq_n 15 dX9_count_8 (by decide) (by decide) ?_
    refine aw_iconst dX9_count_11 (by decide) ?_
    refine aw_goto 16 dX9_count_12 (by decide) ?_
    refine aw_put 7 dX9_count_16 fp_X9_66 at_140 rfl ?_
    refine a_al0 (by decide) dX9_count_19 ?_
    refine aw_get 7 dX9_count_20 fl_X9_66 at_140 rfl ?_
    try simp (disch := omega) only [up_at, up_ne]
    refine aw_if_le_y 28 dX9_count_23 (by decide) (by decide) ?_
    refine a_il1 dX9_count_28 ?_
    refine aw_bipush dX9_count_29 (by decide) ?_
    refine aw_icmp_ge 43 dX9_count_31 (by decide) (fun c31 => ?_) (fun c31 => ?_)
    · refine a_il1 dX9_count_43 ?_
      refine aw_bipush dX9_count_44 (by decide) ?_
      refine aw_icmp_ne 56 dX9_count_46 (by decide) (fun c46 => ?_) (fun c46 => ?_)
      · refine a_al0 (by decide) dX9_count_56 ?_
        refine aw_callV 3 0 0 dX9_count_57 yw_X9_onlyFleet ml_X9_293 in_X9_onlyFleet se_X9_onlyFleet (ci := 8) rfl at_140 (as := []) rfl rfl ⟨by decide, by decide, by decide, Nat.le_of_ble_eq_true rfl⟩ ?_
        refine ac_onlyFleet (by rw [e3]; exact hn) (fun i i0 i1 => by rw [up_ne (by omega)]; exact hf i i0 (by omega)) (fun r hr => ?_)
        refine am_ci ?_
        try simp (disch := omega) only [up_at, up_ne]
        refine aw_iret dX9_count_60 rfl ?_
        exact k10 (by omega) r hr
      · refine a_al0 (by decide) dX9_count_49 ?_
        refine aw_callV 3 0 0 dX9_count_50 yw_X9_sailing ml_X9_290 in_X9_sailing se_X9_sailing (ci := 8) rfl at_140 (as := []) rfl rfl ⟨by decide, by decide, by decide, Nat.le_of_ble_eq_true rfl⟩ ?_
        refine ac_sailing (by rw [e3]; exact hn) ?_
        refine am_ci ?_
        try simp (disch := omega) only [up_at, up_ne]
        refine aw_goto 60 dX9_count_53 (by decide) ?_
        refine aw_iret dX9_count_60 rfl ?_
        exact k9 (by omega)
    · refine a_al0 (by decide) dX9_count_34 ?_
      refine aw_getR (r := 141) 0 rfl dX9_count_35 fl_X9_7 at_140 rfl rfl ?_
      try simp (disch := omega) only [up_at, up_ne]
      refine a_il1 dX9_count_38 ?_
      refine aw_iald dX9_count_39 ar_141 (by omega) ?_
      try simp (disch := omega) only [up_at, up_ne]
      refine aw_goto 60 dX9_count_40 (by decide) ?_
      refine aw_iret dX9_count_60 rfl ?_
      exact k0 (by omega)
  · refine am_ci ?_
    refine aw_if_eq_y 15 dX9_count_8 (by decide) (by decide) ?_
    refine aw_iconst dX9_count_15 (by decide) ?_
    refine aw_put 7 dX9_count_16 fp_X9_66 at_140 rfl ?_
    refine a_al0 (by decide) dX9_count_19 ?_
    refine aw_get 7 dX9_count_20 fl_X9_66 at_140 rfl ?_
    try simp (disch := omega) only [up_at, up_ne]
    refine aw_if_le_n 28 dX9_count_23 (by decide) (by decide) ?_
    refine aw_iconst dX9_count_26 (by decide) ?_
    refine aw_iret dX9_count_27 rfl ?_
    exact k1 q
theorem ac_ship {i w : Int} {h : AH} {K : AO → Nat → AH → Prop} (hn : 0 ≤ h 141 3 ∧ h 141 3 ≤ 12) (k1 : ¬ (0 ≤ i ∧ i < h 141 3) → K (.inl (some (0, 0))) 159 (up h 140 7 1)) (k2 : 0 ≤ i ∧ i < h 141 3 → ¬ (0 ≤ w ∧ w ≤ 10) → K (.inl (some (0, 0))) 159 (up h 140 7 2)) (k0 : 0 ≤ i ∧ i < h 141 3 → 0 ≤ w ∧ w ≤ 10 → K (.inl (some (0, h 141 (46 + 25 * i + w)))) 159 (up h 140 7 0)) : AC mX9_ship 3 0 0 159 [(2, 140), (0, i), (0, w)] h K := by
  refine ac_of (ls := [(2, 140), (0, i), (0, w)]) pn_X9 rfl (Nat.le_of_ble_eq_true rfl) rfl ?_
  refine a_al0 (by decide) dX9_ship_0 ?_
  refine a_al0 (by decide) dX9_ship_1 ?_
  refine a_il1 dX9_ship_2 ?_
  refine aw_callV 2 0 0 dX9_ship_3 yw_X9_isShip ml_X9_296 in_X9_isShip se_X9_isShip (ci := 8) rfl at_140 (as := [_]) rfl rfl ⟨by decide, by decide, by decide, Nat.le_of_ble_eq_true rfl⟩ ?_
  refine ac_isShip hn.1 (fun q => ?_) (fun q => ?_)
  · refine am_ci ?_
    refine aw_if_ne_y 13 dX9_ship_6 (by decide) (by decide) ?_
    refine a_il2 dX9_ship_13 ?_
    refine aw_iconst dX9_ship_14 (by decide) ?_
    refine aw_bipush dX9_ship_15 (by decide) ?_
    refine aw_callS 1 0 0 dX9_ship_17 yw_X9_isIn ml_X9_76 sm_X9_isIn (as := [_, _, _]) rfl rfl ⟨by decide, by decide, by decide, Nat.le_of_ble_eq_true rfl⟩ ?_
    refine ac_isIn (fun q2 => ?_) (fun q2 => ?_)
    · refine am_ci ?_
      refine aw_if_eq_n 27 dX9_ship_20 (by decide) (by decide) ?_
      refine aw_iconst dX9_ship_23 (by decide) ?_
      refine aw_goto 28 dX9_ship_24 (by decide) ?_
      refine aw_put 7 dX9_ship_28 fp_X9_66 at_140 rfl ?_
      refine a_al0 (by decide) dX9_ship_31 ?_
      refine aw_get 7 dX9_ship_32 fl_X9_66 at_140 rfl ?_
      try simp (disch := omega) only [up_at, up_ne]
      refine aw_if_le_y 42 dX9_ship_35 (by decide) (by decide) ?_
      refine a_al0 (by decide) dX9_ship_42 ?_
      refine a_il1 dX9_ship_43 ?_
      refine a_il2 dX9_ship_44 ?_
      refine aw_callV 1 0 0 dX9_ship_45 yw_X9_of ml_X9_213 in_X9_of se_X9_of (ci := 8) rfl at_140 (as := [_, _]) rfl rfl ⟨by decide, by decide, by decide, Nat.le_of_ble_eq_true rfl⟩ ?_
      refine ac_of_ (by omega) (by omega) ?_
      refine am_ci ?_
      try simp (disch := omega) only [up_at, up_ne]
      refine aw_iret dX9_ship_48 rfl ?_
      exact k0 q q2
    · refine am_ci ?_
      refine aw_if_eq_y 27 dX9_ship_20 (by decide) (by decide) ?_
      refine aw_iconst dX9_ship_27 (by decide) ?_
      refine aw_put 7 dX9_ship_28 fp_X9_66 at_140 rfl ?_
      refine a_al0 (by decide) dX9_ship_31 ?_
      refine aw_get 7 dX9_ship_32 fl_X9_66 at_140 rfl ?_
      try simp (disch := omega) only [up_at, up_ne]
      refine aw_if_le_n 42 dX9_ship_35 (by decide) (by decide) ?_
      refine aw_iconst dX9_ship_38 (by decide) ?_
      refine aw_goto 48 dX9_ship_39 (by decide) ?_
      refine aw_iret dX9_ship_48 rfl ?_
      exact k2 q q2
  · refine am_ci ?_
    refine aw_if_ne_n 13 dX9_ship_6 (by decide) (by decide) ?_
    refine aw_iconst dX9_ship_9 (by decide) ?_
    refine aw_goto 28 dX9_ship_10 (by decide) ?_
    refine aw_put 7 dX9_ship_28 fp_X9_66 at_140 rfl ?_
    refine a_al0 (by decide) dX9_ship_31 ?_
    refine aw_get 7 dX9_ship_32 fl_X9_66 at_140 rfl ?_
    try simp (disch := omega) only [up_at, up_ne]
    refine aw_if_le_n 42 dX9_ship_35 (by decide) (by decide) ?_
    refine aw_iconst dX9_ship_38 (by decide) ?_
    refine aw_goto 48 dX9_ship_39 (by decide) ?_
    refine aw_iret dX9_ship_48 rfl ?_
    exact k1 q
theorem ac_at {c r : Int} {h : AH} {K : AO → Nat → AH → Prop} (hn : 0 ≤ h 141 3 ∧ h 141 3 ≤ 12) (h0 : 0 ≤ h 141 0 ∧ h 141 0 ≤ 100) (h1 : 0 ≤ h 141 1 ∧ h 141 1 ≤ 100) (k1 : ¬ ((0 ≤ c ∧ c < h 141 0) ∧ (0 ≤ r ∧ r < h 141 1)) → K (.inl (some (0, 0))) 159 (up h 140 7 1)) (k0 : 0 ≤ c ∧ c < h 141 0 → 0 ≤ r ∧ r < h 141 1 → ∀ x, isFst (mAt (up h 140 7 0) c r) (h 141 3) x → K (.inl (some (0, x))) 159 (up h 140 7 0)) : AC mX9_at 4 0 0 159 [(2, 140), (0, c), (0, r)] h K := by
  have e3 : up h 140 7 0 141 3 = h 141 3 := up_ne (by omega)
  refine ac_of (ls := [(2, 140), (0, c), (0, r)]) pn_X9 rfl (Nat.le_of_ble_eq_true rfl) rfl ?_
  refine a_al0 (by decide) dX9_at_0 ?_
  refine a_il1 dX9_at_1 ?_
  refine aw_iconst dX9_at_2 (by decide) ?_
  refine a_al0 (by decide) dX9_at_3 ?_
  refine aw_getR (r := 141) 0 rfl dX9_at_4 fl_X9_7 at_140 rfl rfl ?_
  refine aw_iconst dX9_at_7 (by decide) ?_
  refine aw_iald dX9_at_8 ar_141 (by omega) ?_
  refine aw_iconst dX9_at_9 (by decide) ?_
  refine aw_isubR (by omega) dX9_at_10 ?_
  refine aw_callS 1 0 0 dX9_at_11 yw_X9_isIn ml_X9_76 sm_X9_isIn (as := [_, _, _]) rfl rfl ⟨by decide, by decide, by decide, Nat.le_of_ble_eq_true rfl⟩ ?_
  refine ac_isIn (fun q => ?_) (fun q => ?_)
  · refine am_ci ?_
    refine aw_if_eq_n 37 dX9_at_14 (by decide) (by decide) ?_
    refine a_il2 dX9_at_17 ?_
    refine aw_iconst dX9_at_18 (by decide) ?_
    refine a_al0 (by decide) dX9_at_19 ?_
    refine aw_getR (r := 141) 0 rfl dX9_at_20 fl_X9_7 at_140 rfl rfl ?_
    refine aw_iconst dX9_at_23 (by decide) ?_
    refine aw_iald dX9_at_24 ar_141 (by omega) ?_
    refine aw_iconst dX9_at_25 (by decide) ?_
    refine aw_isubR (by omega) dX9_at_26 ?_
    refine aw_callS 1 0 0 dX9_at_27 yw_X9_isIn ml_X9_76 sm_X9_isIn (as := [_, _, _]) rfl rfl ⟨by decide, by decide, by decide, Nat.le_of_ble_eq_true rfl⟩ ?_
    refine ac_isIn (fun q2 => ?_) (fun q2 => ?_)
    · refine am_ci ?_
      refine aw_if_eq_n 37 dX9_at_30 (by decide) (by decide) ?_
      refine aw_iconst dX9_at_33 (by decide) ?_
      refine aw_goto 38 dX9_at_34 (by decide) ?_
      refine aw_put 7 dX9_at_38 fp_X9_66 at_140 rfl ?_
      refine a_al0 (by decide) dX9_at_41 ?_
      refine aw_get 7 dX9_at_42 fl_X9_66 at_140 rfl ?_
      try simp (disch := omega) only [up_at, up_ne]
      refine aw_if_le_y 52 dX9_at_45 (by decide) (by decide) ?_
      refine a_al0 (by decide) dX9_at_52 ?_
      refine a_il1 dX9_at_53 ?_
      refine a_il2 dX9_at_54 ?_
      refine aw_callV 3 0 0 dX9_at_55 yw_X9_shipAt ml_X9_187 in_X9_shipAt se_X9_shipAt (ci := 8) rfl at_140 (as := [_, _]) rfl rfl ⟨by decide, by decide, by decide, Nat.le_of_ble_eq_true rfl⟩ ?_
      refine ac_shipAt (by rw [e3]; exact hn) (fun x hx => ?_)
      rw [e3] at hx
      refine am_ci ?_
      try simp (disch := omega) only [up_at, up_ne]
      refine aw_iret dX9_at_58 rfl ?_
      exact k0 (by omega) (by omega) x hx
    · refine am_ci ?_
      refine aw_if_eq_y 37 dX9_at_30 (by decide) (by decide) ?_
      refine aw_iconst dX9_at_37 (by decide) ?_
      refine aw_put 7 dX9_at_38 fp_X9_66 at_140 rfl ?_
      refine a_al0 (by decide) dX9_at_41 ?_
      refine aw_get 7 dX9_at_42 fl_X9_66 at_140 rfl ?_
      try simp (disch := omega) only [up_at, up_ne]
      refine aw_if_le_n 52 dX9_at_45 (by decide) (by decide) ?_
      refine aw_iconst dX9_at_48 (by decide) ?_
      refine aw_goto 58 dX9_at_49 (by decide) ?_
      refine aw_iret dX9_at_58 rfl ?_
      exact k1 (by omega)
  · refine am_ci ?_
    refine aw_if_eq_y 37 dX9_at_14 (by decide) (by decide) ?_
    refine aw_iconst dX9_at_37 (by decide) ?_
    refine aw_put 7 dX9_at_38 fp_X9_66 at_140 rfl ?_
    refine a_al0 (by decide) dX9_at_41 ?_
    refine aw_get 7 dX9_at_42 fl_X9_66 at_140 rfl ?_
    try simp (disch := omega) only [up_at, up_ne]
    refine aw_if_le_n 52 dX9_at_45 (by decide) (by decide) ?_
    refine aw_iconst dX9_at_48 (by decide) ?_
    refine aw_goto 58 dX9_at_49 (by decide) ?_
    refine aw_iret dX9_at_58 rfl ?_
    exact k1 (by omega)
theorem ac_isPulse {p : Int} {h : AH} {K : AO → Nat → AH → Prop} (k1 : 0 ≤ p ∧ p ≤ 5 → K (.inl (some (0, 1))) 159 h) (k0 : ¬ (0 ≤ p ∧ p ≤ 5) → K (.inl (some (0, 0))) 159 h) : AC mX9_isPulse 2 0 0 159 [(0, p)] h K := by
  refine ac_of (ls := [(0, p)]) pn_X9 rfl (Nat.le_of_ble_eq_true rfl) rfl ?_
  refine a_il0 dX9_isPulse_0 ?_
  refine aw_iconst dX9_isPulse_1 (by decide) ?_
  refine aw_iconst dX9_isPulse_2 (by decide) ?_
  refine aw_callS 1 0 0 dX9_isPulse_3 yw_X9_isIn ml_X9_76 sm_X9_isIn (as := [_, _, _]) rfl rfl ⟨by decide, by decide, by decide, Nat.le_of_ble_eq_true rfl⟩ ?_
  refine ac_isIn (fun q => ?_) (fun q => ?_)
  · refine am_ci ?_
    refine aw_zret dX9_isPulse_6 rfl (by omega) ?_
    exact k1 q
  · refine am_ci ?_
    refine aw_zret dX9_isPulse_6 rfl (by omega) ?_
    exact k0 q
theorem ac_order {i p : Int} {h : AH} {K : AO → Nat → AH → Prop} (hn : 0 ≤ h 141 3 ∧ h 141 3 ≤ 12) (k1 : ¬ ((0 ≤ i ∧ i < h 141 3) ∧ (0 ≤ p ∧ p ≤ 5)) → K (.inl (some (0, 0))) 159 (up h 140 7 1)) (k0 : (0 ≤ i ∧ i < h 141 3) → (0 ≤ p ∧ p ≤ 5) → K (.inl (some (0, h 141 (46 + 25 * i + (11 + p))))) 159 (up h 140 7 0)) : AC mX9_order 3 0 0 159 [(2, 140), (0, i), (0, p)] h K := by
  refine ac_of (ls := [(2, 140), (0, i), (0, p)]) pn_X9 rfl (Nat.le_of_ble_eq_true rfl) rfl ?_
  refine a_al0 (by decide) dX9_order_0 ?_
  refine a_al0 (by decide) dX9_order_1 ?_
  refine a_il1 dX9_order_2 ?_
  refine aw_callV 2 0 0 dX9_order_3 yw_X9_isShip ml_X9_296 in_X9_isShip se_X9_isShip (ci := 8) rfl at_140 (as := [_]) rfl rfl ⟨by decide, by decide, by decide, Nat.le_of_ble_eq_true rfl⟩ ?_
  refine ac_isShip hn.1 (fun q => ?_) (fun q => ?_)
  · refine am_ci ?_
    refine aw_if_eq_n 20 dX9_order_6 (by decide) (by decide) ?_
    refine a_il2 dX9_order_9 ?_
    refine aw_callS 2 0 0 dX9_order_10 yw_X9_isPulse ml_X9_311 sm_X9_isPulse (as := [_]) rfl rfl ⟨by decide, by decide, by decide, Nat.le_of_ble_eq_true rfl⟩ ?_
    refine ac_isPulse (fun q2 => ?_) (fun q2 => ?_)
    · refine am_ci ?_
      refine aw_if_eq_n 20 dX9_order_13 (by decide) (by decide) ?_
      refine aw_iconst dX9_order_16 (by decide) ?_
      refine aw_goto 21 dX9_order_17 (by decide) ?_
      refine aw_put 7 dX9_order_21 fp_X9_66 at_140 rfl ?_
      refine a_al0 (by decide) dX9_order_24 ?_
      refine aw_get 7 dX9_order_25 fl_X9_66 at_140 rfl ?_
      try simp (disch := omega) only [up_at, up_ne]
      refine aw_if_le_y 35 dX9_order_28 (by decide) (by decide) ?_
      refine a_al0 (by decide) dX9_order_35 ?_
      refine a_il1 dX9_order_36 ?_
      refine aw_bipush dX9_order_37 (by decide) ?_
      refine a_il2 dX9_order_39 ?_
      refine aw_iaddR (by omega) dX9_order_40 ?_
      refine aw_callV 1 0 0 dX9_order_41 yw_X9_of ml_X9_213 in_X9_of se_X9_of (ci := 8) rfl at_140 (as := [_, _]) rfl rfl ⟨by decide, by decide, by decide, Nat.le_of_ble_eq_true rfl⟩ ?_
      refine ac_of_ (by omega) (by omega) ?_
      refine am_ci ?_
      try simp (disch := omega) only [up_at, up_ne]
      refine aw_iret dX9_order_44 rfl ?_
      exact k0 q q2
    · refine am_ci ?_
      refine aw_if_eq_y 20 dX9_order_13 (by decide) (by decide) ?_
      refine aw_iconst dX9_order_20 (by decide) ?_
      refine aw_put 7 dX9_order_21 fp_X9_66 at_140 rfl ?_
      refine a_al0 (by decide) dX9_order_24 ?_
      refine aw_get 7 dX9_order_25 fl_X9_66 at_140 rfl ?_
      try simp (disch := omega) only [up_at, up_ne]
      refine aw_if_le_n 35 dX9_order_28 (by decide) (by decide) ?_
      refine aw_iconst dX9_order_31 (by decide) ?_
      refine aw_goto 44 dX9_order_32 (by decide) ?_
      refine aw_iret dX9_order_44 rfl ?_
      exact k1 (fun x => q2 x.2)
  · refine am_ci ?_
    refine aw_if_eq_y 20 dX9_order_6 (by decide) (by decide) ?_
    refine aw_iconst dX9_order_20 (by decide) ?_
    refine aw_put 7 dX9_order_21 fp_X9_66 at_140 rfl ?_
    refine a_al0 (by decide) dX9_order_24 ?_
    refine aw_get 7 dX9_order_25 fl_X9_66 at_140 rfl ?_
    try simp (disch := omega) only [up_at, up_ne]
    refine aw_if_le_n 35 dX9_order_28 (by decide) (by decide) ?_
    refine aw_iconst dX9_order_31 (by decide) ?_
    refine aw_goto 44 dX9_order_32 (by decide) ?_
    refine aw_iret dX9_order_44 rfl ?_
    exact k1 (fun x => q x.1)
theorem ac_gain {i d : Int} {h : AH} {K : AO → Nat → AH → Prop} (hn : 0 ≤ h 141 3 ∧ h 141 3 ≤ 12) (h5 : 0 ≤ h 141 5 ∧ h 141 5 ≤ 7) (h6 : 0 ≤ h 141 6 ∧ h 141 6 ≤ 9) (hs : ∀ i, 0 ≤ i → i < h 141 3 → 0 ≤ h 141 (46 + 25 * i + 6) ∧ h 141 (46 + 25 * i + 6) ≤ 9) (k1 : ¬ (0 ≤ i ∧ i < h 141 3) → K (.inl (some (0, 0))) 159 (up h 140 7 1)) (k2 : 0 ≤ i ∧ i < h 141 3 → ¬ (0 ≤ d ∧ d ≤ 7) → K (.inl (some (0, 0))) 159 (up h 140 7 2)) (k0 : 0 ≤ i ∧ i < h 141 3 → 0 ≤ d ∧ d ≤ 7 → K (.inl (some (0, h 141 (46 + 25 * i + 6) * h 141 6 * tab0 (ang d (h 141 5))))) 159 (up h 140 7 0)) : AC mX9_gain 4 0 0 159 [(2, 140), (0, i), (0, d)] h K := by
  refine ac_of (ls := [(2, 140), (0, i), (0, d)]) pn_X9 rfl (Nat.le_of_ble_eq_true rfl) rfl ?_
  refine a_al0 (by decide) dX9_gain_0 ?_
  refine a_al0 (by decide) dX9_gain_1 ?_
  refine a_il1 dX9_gain_2 ?_
  refine aw_callV 2 0 0 dX9_gain_3 yw_X9_isShip ml_X9_296 in_X9_isShip se_X9_isShip (ci := 8) rfl at_140 (as := [_]) rfl rfl ⟨by decide, by decide, by decide, Nat.le_of_ble_eq_true rfl⟩ ?_
  refine ac_isShip hn.1 (fun q => ?_) (fun q => ?_)
  · refine am_ci ?_
    refine aw_if_ne_y 13 dX9_gain_6 (by decide) (by decide) ?_
    refine a_il2 dX9_gain_13 ?_
    refine aw_iconst dX9_gain_14 (by decide) ?_
    refine aw_bipush dX9_gain_15 (by decide) ?_
    refine aw_callS 1 0 0 dX9_gain_17 yw_X9_isIn ml_X9_76 sm_X9_isIn (as := [_, _, _]) rfl rfl ⟨by decide, by decide, by decide, Nat.le_of_ble_eq_true rfl⟩ ?_
    refine ac_isIn (fun q2 => ?_) (fun q2 => ?_)
    · refine am_ci ?_
      refine aw_if_eq_n 27 dX9_gain_20 (by decide) (by decide) ?_
      refine aw_iconst dX9_gain_23 (by decide) ?_
      refine aw_goto 28 dX9_gain_24 (by decide) ?_
      refine aw_put 7 dX9_gain_28 fp_X9_66 at_140 rfl ?_
      refine a_al0 (by decide) dX9_gain_31 ?_
      refine aw_get 7 dX9_gain_32 fl_X9_66 at_140 rfl ?_
      try simp (disch := omega) only [up_at, up_ne]
      refine aw_if_le_y 42 dX9_gain_35 (by decide) (by decide) ?_
      refine a_al0 (by decide) dX9_gain_42 ?_
      refine a_il1 dX9_gain_43 ?_
      refine a_il2 dX9_gain_44 ?_
      refine aw_callV 3 0 0 dX9_gain_45 yw_X9_gainOf ml_X9_232 in_X9_gainOf se_X9_gainOf (ci := 8) rfl at_140 (as := [_, _]) rfl rfl ⟨by decide, by decide, by decide, Nat.le_of_ble_eq_true rfl⟩ ?_
      refine ac_gainOf (by omega) q2 ?_ ?_ ?_ ?_
      · rw [up_ne (by omega)]; exact h5
      · rw [up_ne (by omega)]; exact h6
      · rw [up_ne (by omega)]; exact hs i q.1 q.2
      simp (disch := omega) only [up_ne]
      refine am_ci ?_
      try simp (disch := omega) only [up_at, up_ne]
      refine aw_iret dX9_gain_48 rfl ?_
      exact k0 q q2
    · refine am_ci ?_
      refine aw_if_eq_y 27 dX9_gain_20 (by decide) (by decide) ?_
      refine aw_iconst dX9_gain_27 (by decide) ?_
      refine aw_put 7 dX9_gain_28 fp_X9_66 at_140 rfl ?_
      refine a_al0 (by decide) dX9_gain_31 ?_
      refine aw_get 7 dX9_gain_32 fl_X9_66 at_140 rfl ?_
      try simp (disch := omega) only [up_at, up_ne]
      refine aw_if_le_n 42 dX9_gain_35 (by decide) (by decide) ?_
      refine aw_iconst dX9_gain_38 (by decide) ?_
      refine aw_goto 48 dX9_gain_39 (by decide) ?_
      refine aw_iret dX9_gain_48 rfl ?_
      exact k2 q q2
  · refine am_ci ?_
    refine aw_if_ne_n 13 dX9_gain_6 (by decide) (by decide) ?_
    refine aw_iconst dX9_gain_9 (by decide) ?_
    refine aw_goto 28 dX9_gain_10 (by decide) ?_
    refine aw_put 7 dX9_gain_28 fp_X9_66 at_140 rfl ?_
    refine a_al0 (by decide) dX9_gain_31 ?_
    refine aw_get 7 dX9_gain_32 fl_X9_66 at_140 rfl ?_
    try simp (disch := omega) only [up_at, up_ne]
    refine aw_if_le_n 42 dX9_gain_35 (by decide) (by decide) ?_
    refine aw_iconst dX9_gain_38 (by decide) ?_
    refine aw_goto 48 dX9_gain_39 (by decide) ?_
    refine aw_iret dX9_gain_48 rfl ?_
    exact k1 q
