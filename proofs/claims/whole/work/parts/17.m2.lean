/-! the model: numbers, places, rows -/
/-- x is the first of 0 .. n-1 that has P, or -1 where none has -/
def isFst (P : Int → Prop) (n x : Int) : Prop := (0 ≤ x ∧ x < n ∧ P x ∧ ∀ j, 0 ≤ j → j < x → ¬ P j) ∨ (x = -1 ∧ ∀ j, 0 ≤ j → j < n → ¬ P j)
theorem isFst_one {P P' : Int → Prop} {n x x' : Int} (hP : ∀ j, 0 ≤ j → j < n → (P j ↔ P' j)) (h : isFst P n x) (h' : isFst P' n x') : x = x' := by
  rcases h with ⟨a1, a2, a3, a4⟩ | ⟨a1, a2⟩ <;> rcases h' with ⟨b1, b2, b3, b4⟩ | ⟨b1, b2⟩
  · rcases Int.lt_trichotomy x x' with q | q | q
    · exact absurd ((hP x a1 a2).mp a3) (b4 x a1 q)
    · exact q
    · exact absurd ((hP x' b1 b2).mpr b3) (a4 x' b1 q)
  · exact absurd ((hP x a1 a2).mp a3) (b2 x a1 a2)
  · exact absurd ((hP x' b1 b2).mpr b3) (a2 x' b1 b2)
  · omega
theorem fst_nxt {P : Int → Prop} {i : Int} (h : ∀ j, 0 ≤ j → j < i → ¬ P j) (hi : ¬ P i) : ∀ j, 0 ≤ j → j < i + 1 → ¬ P j := fun j h1 h2 => by
  by_cases e : j = i
  · rw [e]; exact hi
  · exact h j h1 (by omega)
theorem fst_yes {P : Int → Prop} {n i : Int} (h : ∀ j, 0 ≤ j → j < i → ¬ P j) (h0 : 0 ≤ i) (h1 : i < n) (hi : P i) : isFst P n i := Or.inl ⟨h0, h1, hi, h⟩
theorem fst_no {P : Int → Prop} {n i : Int} (h : ∀ j, 0 ≤ j → j < i → ¬ P j) (h1 : n ≤ i) : isFst P n (-1) := Or.inr ⟨rfl, fun j a b => h j a (by omega)⟩
def mAt (h : AH) (c r i : Int) : Prop := h 141 (46 + 25 * i + 10) = -1 ∧ h 141 (46 + 25 * i + 1) = c ∧ h 141 (46 + 25 * i + 2) = r
theorem ac_shipAt {c r : Int} {h : AH} {K : AO → Nat → AH → Prop} (hn : 0 ≤ h 141 3 ∧ h 141 3 ≤ 12) (k : ∀ x, isFst (mAt h c r) (h 141 3) x → K (.inl (some (0, x))) 159 h) : AC mX9_shipAt 3 0 0 159 [(2, 140), (0, c), (0, r)] h K := by
  refine ac_of (ls := [(2, 140), (0, c), (0, r), (9, 0)]) pn_X9 rfl (Nat.le_of_ble_eq_true rfl) rfl ?_
  refine aw_iconst dX9_shipAt_0 (by decide) ?_
  refine a_is3 rfl rfl dX9_shipAt_1 ?_
  refine aw_loop (fun i : Int => 0 ≤ i ∧ i ≤ h 141 3 ∧ ∀ j, 0 ≤ j → j < i → ¬ mAt h c r j) (fun i => (h 141 3 - i).toNat) (fun i => AW mX9_shipAt 3 0 0 K 159 2 [(2, 140), (0, c), (0, r), (0, i)] [] h) (fun i hi ih => ?_) 0 ⟨by omega, by omega, fun j _ _ => by omega⟩
  obtain ⟨h0, h1, hno⟩ := hi
  refine a_il3 dX9_shipAt_2 ?_
  refine a_al0 (by decide) dX9_shipAt_3 ?_
  refine aw_getR (r := 141) 0 rfl dX9_shipAt_4 fl_X9_7 at_140 rfl rfl ?_
  refine aw_iconst dX9_shipAt_7 (by decide) ?_
  refine aw_iald dX9_shipAt_8 ar_141 (by omega) ?_
  refine aw_icmp_ge 48 dX9_shipAt_9 (by decide) (fun c9 => ?_) (fun c9 => ?_)
  · refine aw_iconst dX9_shipAt_48 (by decide) ?_
    refine aw_iret dX9_shipAt_49 rfl ?_
    exact k _ (fst_no hno (by omega))
  · refine a_al0 (by decide) dX9_shipAt_12 ?_
    refine a_il3 dX9_shipAt_13 ?_
    refine aw_callV 2 0 0 dX9_shipAt_14 yw_X9_sails ml_X9_216 in_X9_sails se_X9_sails (ci := 8) rfl at_140 (as := [_]) rfl rfl ⟨by decide, by decide, by decide, Nat.le_of_ble_eq_true rfl⟩ ?_
    refine ac_sails (by omega) (fun q1 => ?_) (fun q1 => ?_)
    · refine am_ci ?_
      refine aw_if_eq_n 42 dX9_shipAt_17 (by decide) (by decide) ?_
      refine a_al0 (by decide) dX9_shipAt_20 ?_
      refine a_il3 dX9_shipAt_21 ?_
      refine aw_iconst dX9_shipAt_22 (by decide) ?_
      refine aw_callV 1 0 0 dX9_shipAt_23 yw_X9_of ml_X9_213 in_X9_of se_X9_of (ci := 8) rfl at_140 (as := [_, _]) rfl rfl ⟨by decide, by decide, by decide, Nat.le_of_ble_eq_true rfl⟩ ?_
      refine ac_of_ (by omega) (by decide) ?_
      refine am_ci ?_
      refine a_il1 dX9_shipAt_26 ?_
      refine aw_icmp_ne 42 dX9_shipAt_27 (by decide) (fun c27 => ?_) (fun c27 => ?_)
      · refine a_iiR3 (by omega) rfl rfl dX9_shipAt_42 ?_
        refine aw_goto 2 dX9_shipAt_45 (by decide) ?_
        exact ih (i + 1) ⟨by omega, by omega, fst_nxt hno (by unfold mAt; omega)⟩ (by omega)
      · refine a_al0 (by decide) dX9_shipAt_30 ?_
        refine a_il3 dX9_shipAt_31 ?_
        refine aw_iconst dX9_shipAt_32 (by decide) ?_
        refine aw_callV 1 0 0 dX9_shipAt_33 yw_X9_of ml_X9_213 in_X9_of se_X9_of (ci := 8) rfl at_140 (as := [_, _]) rfl rfl ⟨by decide, by decide, by decide, Nat.le_of_ble_eq_true rfl⟩ ?_
        refine ac_of_ (by omega) (by decide) ?_
        refine am_ci ?_
        refine a_il2 dX9_shipAt_36 ?_
        refine aw_icmp_ne 42 dX9_shipAt_37 (by decide) (fun c37 => ?_) (fun c37 => ?_)
        · refine a_iiR3 (by omega) rfl rfl dX9_shipAt_42 ?_
          refine aw_goto 2 dX9_shipAt_45 (by decide) ?_
          exact ih (i + 1) ⟨by omega, by omega, fst_nxt hno (by unfold mAt; omega)⟩ (by omega)
        · refine a_il3 dX9_shipAt_40 ?_
          refine aw_iret dX9_shipAt_41 rfl ?_
          exact k _ (fst_yes hno h0 (by omega) (by unfold mAt; omega))
    · refine am_ci ?_
      refine aw_if_eq_y 42 dX9_shipAt_17 (by decide) (by decide) ?_
      refine a_iiR3 (by omega) rfl rfl dX9_shipAt_42 ?_
      refine aw_goto 2 dX9_shipAt_45 (by decide) ?_
      exact ih (i + 1) ⟨by omega, by omega, fst_nxt hno (by unfold mAt; omega)⟩ (by omega)
theorem ac_floorMod8 {a : Int} {n : Nat} {h : AH} {K : AO → Nat → AH → Prop} (ha : -7 ≤ a ∧ a ≤ 7) (k : K (.inl (some (0, a % 8))) n h) : AC mJ9_floorMod_7cf53 1 0 0 n [(0, a), (0, 8)] h K := by
  have hx : (i_xor a 8 < 0 ↔ a < 0) := by
    have : a = -7 ∨ a = -6 ∨ a = -5 ∨ a = -4 ∨ a = -3 ∨ a = -2 ∨ a = -1 ∨ a = 0 ∨ a = 1 ∨ a = 2 ∨ a = 3 ∨ a = 4 ∨ a = 5 ∨ a = 6 ∨ a = 7 := by omega
    rcases this with rfl | rfl | rfl | rfl | rfl | rfl | rfl | rfl | rfl | rfl | rfl | rfl | rfl | rfl | rfl <;> decide
  have hm : 0 ≤ a → a.tmod 8 = a % 8 := fun q => Int.tmod_eq_emod_of_nonneg q
  have hm2 : a < 0 → a.tmod 8 = a := fun q => by
    have h2 : (-a).tmod 8 = (-a) % 8 := Int.tmod_eq_emod_of_nonneg (by omega)
    rw [Int.neg_tmod] at h2
    omega
  refine ac_ofF (ls := [(0, a), (0, 8), (9, 0)]) pf_J9 rfl (Nat.le_of_ble_eq_true rfl) rfl ?_
  refine a_il0 dJ9_floorMod_7cf53_0 ?_
  refine a_il1 dJ9_floorMod_7cf53_1 ?_
  refine aw_irem dJ9_floorMod_7cf53_2 (by omega) ?_
  refine a_is2 rfl rfl dJ9_floorMod_7cf53_3 ?_
  refine a_il0 dJ9_floorMod_7cf53_4 ?_
  refine a_il1 dJ9_floorMod_7cf53_5 ?_
  refine aw_ixor dJ9_floorMod_7cf53_6 ?_
  refine aw_if_ge 18 dJ9_floorMod_7cf53_7 (by decide) (fun c7 => ?_) (fun c7 => ?_)
  · refine a_il2 dJ9_floorMod_7cf53_18 ?_
    refine aw_iret dJ9_floorMod_7cf53_19 rfl ?_
    rw [hm (by omega)]
    exact k
  · refine a_il2 dJ9_floorMod_7cf53_10 ?_
    refine aw_if_eq 18 dJ9_floorMod_7cf53_11 (by decide) (fun c11 => ?_) (fun c11 => ?_)
    · refine a_il2 dJ9_floorMod_7cf53_18 ?_
      refine aw_iret dJ9_floorMod_7cf53_19 rfl ?_
      exact absurd c11 (by rw [hm2 (by omega)]; omega)
    · refine a_il2 dJ9_floorMod_7cf53_14 ?_
      refine a_il1 dJ9_floorMod_7cf53_15 ?_
      refine aw_iaddR (by rw [hm2 (by omega)]; omega) dJ9_floorMod_7cf53_16 ?_
      refine aw_iret dJ9_floorMod_7cf53_17 rfl ?_
      rw [hm2 (by omega), show a + 8 = a % 8 by omega]
      exact k
