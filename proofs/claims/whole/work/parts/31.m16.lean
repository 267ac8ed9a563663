/-! the model: what is asked of fleets and of the log -/
abbrev fSail (h : AH) (f i : Int) : Prop := h 141 (46 + 25 * i + 10) = -1 ∧ h 141 (46 + 25 * i + 0) = f
def orN (P : Int → Prop) [DecidablePred P] : Nat → Int
  | 0 => 0
  | m + 1 => if P m then i_or (orN P m) (i_shl 1 m) else orN P m
theorem i_or_0 {x : Int} (h1 : -2147483648 ≤ x) (h2 : x < 2147483648) : i_or x 0 = x := by
  unfold i_or
  rw [show Int32.ofInt 0 = 0 from rfl, Int32.or_zero, am_toI h1 h2]
theorem i_or_rg (a b : Int) : -2147483648 ≤ i_or a b ∧ i_or a b < 2147483648 := by
  unfold i_or
  have h1 := Int32.le_toInt (Int32.ofInt a ||| Int32.ofInt b)
  have h2 := Int32.toInt_lt (Int32.ofInt a ||| Int32.ofInt b)
  omega
theorem orN_rg (P : Int → Prop) [DecidablePred P] : ∀ m : Nat, -2147483648 ≤ orN P m ∧ orN P m < 2147483648
  | 0 => ⟨by show (-2147483648 : Int) ≤ 0; decide, by show (0 : Int) < 2147483648; decide⟩
  | m + 1 => by
    show -2147483648 ≤ (if P m then i_or (orN P m) (i_shl 1 m) else orN P m) ∧ (if P m then i_or (orN P m) (i_shl 1 m) else orN P m) < 2147483648
    split
    · exact i_or_rg _ _
    · exact orN_rg P m
theorem orN_s (P : Int → Prop) [DecidablePred P] {i : Int} (hi : 0 ≤ i) : orN P (i + 1).toNat = if P i then i_or (orN P i.toNat) (i_shl 1 i) else orN P i.toNat := by
  rw [show (i + 1).toNat = i.toNat + 1 by omega]
  show (if P (i.toNat : Int) then i_or (orN P i.toNat) (i_shl 1 (i.toNat : Int)) else orN P i.toNat) = _
  rw [Int.toNat_of_nonneg hi]
theorem sumN_rgc {f : Int → Int} {B : Int} : ∀ m : Nat, (∀ i : Int, 0 ≤ i → i < m → -B ≤ f i ∧ f i ≤ B) → -(m * B) ≤ sumN f m ∧ sumN f m ≤ m * B
  | 0, _ => by simp [sumN]
  | m + 1, hf => by
    have h1 := sumN_rgc m (fun i i0 i1 => hf i i0 (by omega))
    have h2 := hf m (by omega) (by omega)
    show -(((m + 1 : Nat) : Int) * B) ≤ sumN f m + f m ∧ sumN f m + f m ≤ ((m + 1 : Nat) : Int) * B
    have : ((m + 1 : Nat) : Int) * B = m * B + B := by rw [Int.natCast_add, Int.add_mul]; simp
    omega
theorem ac_setOf {f : Int} {h : AH} {K : AO → Nat → AH → Prop} (hn : 0 ≤ h 141 3 ∧ h 141 3 ≤ 12) (k : K (.inl (some (0, orN (fSail h f) (h 141 3).toNat))) 159 h) : AC mX9_setOf 4 0 0 159 [(2, 140), (0, f)] h K := by
  refine ac_of (ls := [(2, 140), (0, f), (9, 0), (9, 0)]) pn_X9 rfl (Nat.le_of_ble_eq_true rfl) rfl ?_
  refine aw_iconst dX9_setOf_0 (by decide) ?_
  refine a_is2 rfl rfl dX9_setOf_1 ?_
  refine aw_iconst dX9_setOf_2 (by decide) ?_
  refine a_is3 rfl rfl dX9_setOf_3 ?_
  refine aw_loop (fun q : Int × Int => 0 ≤ q.1 ∧ q.1 ≤ h 141 3 ∧ q.2 = orN (fSail h f) q.1.toNat) (fun q => (h 141 3 - q.1).toNat) (fun q => AW mX9_setOf 4 0 0 K 159 4 [(2, 140), (0, f), (0, q.2), (0, q.1)] [] h) (fun q hq ih => ?_) (0, 0) ⟨by dsimp only; omega, hn.1, rfl⟩
  obtain ⟨i, a⟩ := q
  obtain ⟨i0, i1, ea⟩ := hq
  dsimp only at i0 i1 ea ih ⊢
  have ra := orN_rg (fSail h f) i.toNat
  have es := orN_s (fSail h f) i0
  refine a_il3 dX9_setOf_4 ?_
  refine a_al0 (by decide) dX9_setOf_5 ?_
  refine aw_getR (r := 141) 0 rfl dX9_setOf_6 fl_X9_7 at_140 rfl rfl ?_
  refine aw_iconst dX9_setOf_9 (by decide) ?_
  refine aw_iald dX9_setOf_10 ar_141 (by omega) ?_
  refine aw_icmp_ge 39 dX9_setOf_11 (by decide) (fun c11 => ?_) (fun c11 => ?_)
  · refine a_il2 dX9_setOf_39 ?_
    refine aw_iret dX9_setOf_40 rfl ?_
    rw [ea, show i = h 141 3 by omega]
    exact k
  · refine a_il2 dX9_setOf_14 ?_
    refine a_al0 (by decide) dX9_setOf_15 ?_
    refine a_il3 dX9_setOf_16 ?_
    refine a_il1 dX9_setOf_17 ?_
    refine aw_callV 3 0 0 dX9_setOf_18 yw_X9_sailsFor ml_X9_299 in_X9_sailsFor se_X9_sailsFor (ci := 8) rfl at_140 (as := [_, _]) rfl rfl ⟨by decide, by decide, by decide, Nat.le_of_ble_eq_true rfl⟩ ?_
    refine ac_sailsFor (by omega) (fun q1 => ?_) (fun q1 => ?_)
    · rw [if_pos q1] at es
      refine am_ci ?_
      refine aw_if_eq_n 30 dX9_setOf_21 (by decide) (by decide) ?_
      refine aw_iconst dX9_setOf_24 (by decide) ?_
      refine a_il3 dX9_setOf_25 ?_
      refine aw_ishl dX9_setOf_26 ?_
      refine aw_goto 31 dX9_setOf_27 (by decide) ?_
      refine aw_ior dX9_setOf_31 ?_
      refine a_is2 rfl rfl dX9_setOf_32 ?_
      refine a_iiR3 (by omega) rfl rfl dX9_setOf_33 ?_
      refine aw_goto 4 dX9_setOf_36 (by decide) ?_
      exact ih (i + 1, i_or a (i_shl 1 i)) ⟨by dsimp only; omega, by dsimp only; omega, by dsimp only; rw [es, ea]⟩ (by dsimp only; omega)
    · rw [if_neg q1] at es
      refine am_ci ?_
      refine aw_if_eq_y 30 dX9_setOf_21 (by decide) (by decide) ?_
      refine aw_iconst dX9_setOf_30 (by decide) ?_
      refine aw_ior dX9_setOf_31 ?_
      refine a_is2 rfl rfl dX9_setOf_32 ?_
      refine a_iiR3 (by omega) rfl rfl dX9_setOf_33 ?_
      refine aw_goto 4 dX9_setOf_36 (by decide) ?_
      exact ih (i + 1, i_or a 0) ⟨by dsimp only; omega, by dsimp only; omega, by dsimp only; rw [es, ← ea, i_or_0 (by omega) (by omega)]⟩ (by dsimp only; omega)
def hulN (h : AH) (f i : Int) : Int := if fSail h f i then h 141 (46 + 25 * i + 4) else 0
theorem ac_hullsOf {f : Int} {h : AH} {K : AO → Nat → AH → Prop} (hn : 0 ≤ h 141 3 ∧ h 141 3 ≤ 12) (hh : ∀ i, 0 ≤ i → i < h 141 3 → -100000 ≤ h 141 (46 + 25 * i + 4) ∧ h 141 (46 + 25 * i + 4) ≤ 100000) (k : K (.inl (some (0, sumN (hulN h f) (h 141 3).toNat))) 159 h) : AC mX9_hullsOf 4 0 0 159 [(2, 140), (0, f)] h K := by
  refine ac_of (ls := [(2, 140), (0, f), (9, 0), (9, 0)]) pn_X9 rfl (Nat.le_of_ble_eq_true rfl) rfl ?_
  refine aw_iconst dX9_hullsOf_0 (by decide) ?_
  refine a_is2 rfl rfl dX9_hullsOf_1 ?_
  refine aw_iconst dX9_hullsOf_2 (by decide) ?_
  refine a_is3 rfl rfl dX9_hullsOf_3 ?_
  refine aw_loop (fun q : Int × Int => 0 ≤ q.1 ∧ q.1 ≤ h 141 3 ∧ q.2 = sumN (hulN h f) q.1.toNat) (fun q => (h 141 3 - q.1).toNat) (fun q => AW mX9_hullsOf 4 0 0 K 159 4 [(2, 140), (0, f), (0, q.2), (0, q.1)] [] h) (fun q hq ih => ?_) (0, 0) ⟨by dsimp only; omega, hn.1, rfl⟩
  obtain ⟨i, a⟩ := q
  obtain ⟨i0, i1, ea⟩ := hq
  dsimp only at i0 i1 ea ih ⊢
  have ra := sumN_rgc (f := hulN h f) (B := 100000) i.toNat (fun j j0 j1 => by
    have := hh j j0 (by omega)
    unfold hulN
    split <;> omega)
  have es := sumN_s (hulN h f) i0
  refine a_il3 dX9_hullsOf_4 ?_
  refine a_al0 (by decide) dX9_hullsOf_5 ?_
  refine aw_getR (r := 141) 0 rfl dX9_hullsOf_6 fl_X9_7 at_140 rfl rfl ?_
  refine aw_iconst dX9_hullsOf_9 (by decide) ?_
  refine aw_iald dX9_hullsOf_10 ar_141 (by omega) ?_
  refine aw_icmp_ge 42 dX9_hullsOf_11 (by decide) (fun c11 => ?_) (fun c11 => ?_)
  · refine a_il2 dX9_hullsOf_42 ?_
    refine aw_iret dX9_hullsOf_43 rfl ?_
    rw [ea, show i = h 141 3 by omega]
    exact k
  · have hi := hh i i0 (by omega)
    refine a_il2 dX9_hullsOf_14 ?_
    refine a_al0 (by decide) dX9_hullsOf_15 ?_
    refine a_il3 dX9_hullsOf_16 ?_
    refine a_il1 dX9_hullsOf_17 ?_
    refine aw_callV 3 0 0 dX9_hullsOf_18 yw_X9_sailsFor ml_X9_299 in_X9_sailsFor se_X9_sailsFor (ci := 8) rfl at_140 (as := [_, _]) rfl rfl ⟨by decide, by decide, by decide, Nat.le_of_ble_eq_true rfl⟩ ?_
    refine ac_sailsFor (by omega) (fun q1 => ?_) (fun q1 => ?_)
    · have ex : hulN h f i = h 141 (46 + 25 * i + 4) := if_pos q1
      refine am_ci ?_
      refine aw_if_eq_n 33 dX9_hullsOf_21 (by decide) (by decide) ?_
      refine a_al0 (by decide) dX9_hullsOf_24 ?_
      refine a_il3 dX9_hullsOf_25 ?_
      refine aw_iconst dX9_hullsOf_26 (by decide) ?_
      refine aw_callV 1 0 0 dX9_hullsOf_27 yw_X9_of ml_X9_213 in_X9_of se_X9_of (ci := 8) rfl at_140 (as := [_, _]) rfl rfl ⟨by decide, by decide, by decide, Nat.le_of_ble_eq_true rfl⟩ ?_
      refine ac_of_ (by omega) (by decide) ?_
      refine am_ci ?_
      refine aw_goto 34 dX9_hullsOf_30 (by decide) ?_
      refine aw_iaddR (by omega) dX9_hullsOf_34 ?_
      refine a_is2 rfl rfl dX9_hullsOf_35 ?_
      refine a_iiR3 (by omega) rfl rfl dX9_hullsOf_36 ?_
      refine aw_goto 4 dX9_hullsOf_39 (by decide) ?_
      exact ih (i + 1, a + h 141 (46 + 25 * i + 4)) ⟨by dsimp only; omega, by dsimp only; omega, by dsimp only; rw [es, ea, ex]⟩ (by dsimp only; omega)
    · have ex : hulN h f i = 0 := if_neg q1
      refine am_ci ?_
      refine aw_if_eq_y 33 dX9_hullsOf_21 (by decide) (by decide) ?_
      refine aw_iconst dX9_hullsOf_33 (by decide) ?_
      refine aw_iaddR (by omega) dX9_hullsOf_34 ?_
      refine a_is2 rfl rfl dX9_hullsOf_35 ?_
      refine a_iiR3 (by omega) rfl rfl dX9_hullsOf_36 ?_
      refine aw_goto 4 dX9_hullsOf_39 (by decide) ?_
      exact ih (i + 1, a + 0) ⟨by dsimp only; omega, by dsimp only; omega, by dsimp only; rw [es, ea, ex]⟩ (by dsimp only; omega)
def letN (h : AH) (f i p : Int) : Int := if fSail h f i ∧ ¬ h 141 (46 + 25 * i + (11 + p)) = 1 then 1 else 0
theorem ac_lettersOf {f : Int} {h : AH} {K : AO → Nat → AH → Prop} (hn : 0 ≤ h 141 3 ∧ h 141 3 ≤ 12) (k : K (.inl (some (0, sumN (fun i => sumN (letN h f i) 6) (h 141 3).toNat))) 159 h) : AC mX9_lettersOf 4 0 0 159 [(2, 140), (0, f)] h K := by
  have hb : ∀ i p, -1 ≤ letN h f i p ∧ letN h f i p ≤ 1 := fun i p => by unfold letN; split <;> decide
  have hb6 : ∀ i, -6 ≤ sumN (letN h f i) 6 ∧ sumN (letN h f i) 6 ≤ 6 := fun i => sumN_rgc 6 (fun j _ _ => hb i j)
  refine ac_of (ls := [(2, 140), (0, f), (9, 0), (9, 0), (9, 0)]) pn_X9 rfl (Nat.le_of_ble_eq_true rfl) rfl ?_
  refine aw_iconst dX9_lettersOf_0 (by decide) ?_
  refine a_is2 rfl rfl dX9_lettersOf_1 ?_
  refine aw_iconst dX9_lettersOf_2 (by decide) ?_
  refine a_is3 rfl rfl dX9_lettersOf_3 ?_
  refine aw_loop (fun q : Int × Int × AV => 0 ≤ q.1 ∧ q.1 ≤ h 141 3 ∧ q.2.1 = sumN (fun i => sumN (letN h f i) 6) q.1.toNat ∧ am_n2 q.2.2 = true) (fun q => (h 141 3 - q.1).toNat) (fun q => AW mX9_lettersOf 4 0 0 K 159 4 [(2, 140), (0, f), (0, q.2.1), (0, q.1), q.2.2] [] h) (fun q hq ih => ?_) (0, 0, (9, 0)) ⟨by dsimp only; omega, hn.1, rfl, rfl⟩
  obtain ⟨i, a, v⟩ := q
  obtain ⟨i0, i1, ea, hv⟩ := hq
  dsimp only at i0 i1 ea ih hv ⊢
  have ra := sumN_rgc (f := fun i => sumN (letN h f i) 6) (B := 6) i.toNat (fun j _ _ => hb6 j)
  have es := sumN_s (fun i => sumN (letN h f i) 6) i0
  refine a_il3 dX9_lettersOf_4 ?_
  refine a_al0 (by decide) dX9_lettersOf_5 ?_
  refine aw_getR (r := 141) 0 rfl dX9_lettersOf_6 fl_X9_7 at_140 rfl rfl ?_
  refine aw_iconst dX9_lettersOf_9 (by decide) ?_
  refine aw_iald dX9_lettersOf_10 ar_141 (by omega) ?_
  refine aw_icmp_ge 67 dX9_lettersOf_11 (by decide) (fun c11 => ?_) (fun c11 => ?_)
  · refine a_il2 dX9_lettersOf_67 ?_
    refine aw_iret dX9_lettersOf_68 rfl ?_
    rw [ea, show i = h 141 3 by omega]
    exact k
  · refine aw_iconst dX9_lettersOf_14 (by decide) ?_
    refine a_is4 rfl rfl dX9_lettersOf_15 ?_
    refine aw_loop (fun q : Int × Int => 0 ≤ q.1 ∧ q.1 ≤ 6 ∧ q.2 = a + sumN (letN h f i) q.1.toNat) (fun q => (6 - q.1).toNat) (fun q => AW mX9_lettersOf 4 0 0 K 159 17 [(2, 140), (0, f), (0, q.2), (0, i), (0, q.1)] [] h) (fun q hq ih2 => ?_) (0, a) ⟨by dsimp only; omega, by dsimp only; omega, by show a = a + 0; omega⟩
    obtain ⟨p, b⟩ := q
    obtain ⟨p0, p6, eb⟩ := hq
    dsimp only at p0 p6 eb ih2 ⊢
    have rp := sumN_rgc (f := letN h f i) (B := 1) p.toNat (fun j _ _ => hb i j)
    have ep := sumN_s (letN h f i) p0
    have hi12 : i < 12 := by omega
    refine a_il4 dX9_lettersOf_17 ?_
    refine aw_bipush dX9_lettersOf_19 (by decide) ?_
    refine aw_icmp_ge 61 dX9_lettersOf_21 (by decide) (fun c21 => ?_) (fun c21 => ?_)
    · refine a_iiR3 (by omega) rfl rfl dX9_lettersOf_61 ?_
      refine aw_goto 4 dX9_lettersOf_64 (by decide) ?_
      refine ih (i + 1, b, (0, p)) ⟨by dsimp only; omega, by dsimp only; omega, ?_, rfl⟩ (by dsimp only; omega)
      dsimp only
      rw [es, eb, ea, show p = 6 by omega]
      rfl
    · refine a_il2 dX9_lettersOf_24 ?_
      refine a_al0 (by decide) dX9_lettersOf_25 ?_
      refine a_il3 dX9_lettersOf_26 ?_
      refine a_il1 dX9_lettersOf_27 ?_
      refine aw_callV 3 0 0 dX9_lettersOf_28 yw_X9_sailsFor ml_X9_299 in_X9_sailsFor se_X9_sailsFor (ci := 8) rfl at_140 (as := [_, _]) rfl rfl ⟨by decide, by decide, by decide, Nat.le_of_ble_eq_true rfl⟩ ?_
      refine ac_sailsFor (by omega) (fun q1 => ?_) (fun q1 => ?_)
      · refine am_ci ?_
        refine aw_if_eq_n 52 dX9_lettersOf_31 (by decide) (by decide) ?_
        refine a_al0 (by decide) dX9_lettersOf_34 ?_
        refine a_il3 dX9_lettersOf_35 ?_
        refine aw_bipush dX9_lettersOf_36 (by decide) ?_
        refine a_il4 dX9_lettersOf_38 ?_
        refine aw_iaddR (by omega) dX9_lettersOf_40 ?_
        refine aw_callV 1 0 0 dX9_lettersOf_41 yw_X9_of ml_X9_213 in_X9_of se_X9_of (ci := 8) rfl at_140 (as := [_, _]) rfl rfl ⟨by decide, by decide, by decide, Nat.le_of_ble_eq_true rfl⟩ ?_
        refine ac_of_ (by omega) (by omega) ?_
        refine am_ci ?_
        refine aw_iconst dX9_lettersOf_44 (by decide) ?_
        refine aw_icmp_eq 52 dX9_lettersOf_45 (by decide) (fun c45 => ?_) (fun c45 => ?_)
        · refine aw_iconst dX9_lettersOf_52 (by decide) ?_
          refine aw_iaddR (by omega) dX9_lettersOf_53 ?_
          refine a_is2 rfl rfl dX9_lettersOf_54 ?_
          refine a_iiR4 (by omega) rfl rfl dX9_lettersOf_55 ?_
          refine aw_goto 17 dX9_lettersOf_58 (by decide) ?_
          have ex : letN h f i p = 0 := if_neg (fun q => q.2 (by omega))
          exact ih2 (p + 1, b + 0) ⟨by dsimp only; omega, by dsimp only; omega, by dsimp only; rw [ep, eb, ex]; omega⟩ (by dsimp only; omega)
        · refine aw_iconst dX9_lettersOf_48 (by decide) ?_
          refine aw_goto 53 dX9_lettersOf_49 (by decide) ?_
          refine aw_iaddR (by omega) dX9_lettersOf_53 ?_
          refine a_is2 rfl rfl dX9_lettersOf_54 ?_
          refine a_iiR4 (by omega) rfl rfl dX9_lettersOf_55 ?_
          refine aw_goto 17 dX9_lettersOf_58 (by decide) ?_
          have ex : letN h f i p = 1 := if_pos ⟨q1, by omega⟩
          exact ih2 (p + 1, b + 1) ⟨by dsimp only; omega, by dsimp only; omega, by dsimp only; rw [ep, eb, ex]; omega⟩ (by dsimp only; omega)
      · have ex : letN h f i p = 0 := if_neg (fun q => q1 q.1)
        refine am_ci ?_
        refine aw_if_eq_y 52 dX9_lettersOf_31 (by decide) (by decide) ?_
        refine aw_iconst dX9_lettersOf_52 (by decide) ?_
        refine aw_iaddR (by omega) dX9_lettersOf_53 ?_
        refine a_is2 rfl rfl dX9_lettersOf_54 ?_
        refine a_iiR4 (by omega) rfl rfl dX9_lettersOf_55 ?_
        refine aw_goto 17 dX9_lettersOf_58 (by decide) ?_
        exact ih2 (p + 1, b + 0) ⟨by dsimp only; omega, by dsimp only; omega, by dsimp only; rw [ep, eb, ex]; omega⟩ (by dsimp only; omega)
theorem ac_fleet {f w : Int} {h : AH} {K : AO → Nat → AH → Prop} (hn : 0 ≤ h 141 3 ∧ h 141 3 ≤ 12) (h2 : 0 ≤ h 141 2 ∧ h 141 2 ≤ 4) (hh : ∀ i, 0 ≤ i → i < h 141 3 → -100000 ≤ h 141 (46 + 25 * i + 4) ∧ h 141 (46 + 25 * i + 4) ≤ 100000) (k1 : ¬ (0 ≤ f ∧ f < h 141 2) → K (.inl (some (0, 0))) 159 (up h 140 7 1)) (k2 : 0 ≤ f ∧ f < h 141 2 → ¬ (0 ≤ w ∧ w ≤ 4) → K (.inl (some (0, 0))) 159 (up h 140 7 2)) (k0 : 0 ≤ f ∧ f < h 141 2 → 0 ≤ w ∧ w ≤ 4 → K (.inl (some (0, if w = 0 then orN (fSail (up h 140 7 0) f) (h 141 3).toNat else if w = 1 then h 141 (34 + 3 * f) else if w = 2 then sumN (hulN (up h 140 7 0) f) (h 141 3).toNat else if w = 3 then h 141 (34 + 3 * f + 1) else sumN (fun i => sumN (letN (up h 140 7 0) f i) 6) (h 141 3).toNat))) 159 (up h 140 7 0)) : AC mX9_fleet 5 0 0 159 [(2, 140), (0, f), (0, w)] h K := by
  have e3 : up h 140 7 0 141 3 = h 141 3 := up_ne (by omega)
  refine ac_of (ls := [(2, 140), (0, f), (0, w)]) pn_X9 rfl (Nat.le_of_ble_eq_true rfl) rfl ?_
  refine a_al0 (by decide) dX9_fleet_0 ?_
  refine a_al0 (by decide) dX9_fleet_1 ?_
  refine a_il1 dX9_fleet_2 ?_
  refine aw_callV 2 0 0 dX9_fleet_3 yw_X9_isFleet ml_X9_275 in_X9_isFleet se_X9_isFleet (ci := 8) rfl at_140 (as := [_]) rfl rfl ⟨by decide, by decide, by decide, Nat.le_of_ble_eq_true rfl⟩ ?_
  refine ac_isFleet h2.1 (fun q => ?_) (fun q => ?_)
  · refine am_ci ?_
    refine aw_if_ne_y 13 dX9_fleet_6 (by decide) (by decide) ?_
    refine a_il2 dX9_fleet_13 ?_
    refine aw_iconst dX9_fleet_14 (by decide) ?_
    refine aw_iconst dX9_fleet_15 (by decide) ?_
    refine aw_callS 1 0 0 dX9_fleet_16 yw_X9_isIn ml_X9_76 sm_X9_isIn (as := [_, _, _]) rfl rfl ⟨by decide, by decide, by decide, Nat.le_of_ble_eq_true rfl⟩ ?_
    refine ac_isIn (fun q2 => ?_) (fun q2 => ?_)
    · have k9 := k0 q q2
      refine am_ci ?_
      refine aw_if_eq_n 26 dX9_fleet_19 (by decide) (by decide) ?_
      refine aw_iconst dX9_fleet_22 (by decide) ?_
      refine aw_goto 27 dX9_fleet_23 (by decide) ?_
      refine aw_put 7 dX9_fleet_27 fp_X9_66 at_140 rfl ?_
      refine a_al0 (by decide) dX9_fleet_30 ?_
      refine aw_get 7 dX9_fleet_31 fl_X9_66 at_140 rfl ?_
      try simp (disch := omega) only [up_at, up_ne]
      refine aw_if_le_y 39 dX9_fleet_34 (by decide) (by decide) ?_
      refine a_il2 dX9_fleet_39 ?_
      rcases (show w = 0 ∨ w = 1 ∨ w = 2 ∨ w = 3 ∨ w = 4 by omega) with rfl | rfl | rfl | rfl | rfl
      · refine aw_tsw_in 72 dX9_fleet_40 (by omega) rfl (by decide) ?_
        refine a_al0 (by decide) dX9_fleet_72 ?_
        refine a_il1 dX9_fleet_73 ?_
        refine aw_callV 4 0 0 dX9_fleet_74 yw_X9_setOf ml_X9_302 in_X9_setOf se_X9_setOf (ci := 8) rfl at_140 (as := [_]) rfl rfl ⟨by decide, by decide, by decide, Nat.le_of_ble_eq_true rfl⟩ ?_
        refine ac_setOf (by rw [e3]; exact hn) ?_
        refine am_ci ?_
        try simp (disch := omega) only [up_at, up_ne]
        refine aw_iret dX9_fleet_77 rfl ?_
        exact k9
      · refine aw_tsw_in 78 dX9_fleet_40 (by omega) rfl (by decide) ?_
        refine a_al0 (by decide) dX9_fleet_78 ?_
        refine aw_getR (r := 141) 0 rfl dX9_fleet_79 fl_X9_7 at_140 rfl rfl ?_
        try simp (disch := omega) only [up_at, up_ne]
        refine aw_bipush dX9_fleet_82 (by decide) ?_
        refine aw_iconst dX9_fleet_84 (by decide) ?_
        refine a_il1 dX9_fleet_85 ?_
        refine aw_imulR (by omega) dX9_fleet_86 ?_
        refine aw_iaddR (by omega) dX9_fleet_87 ?_
        refine aw_iald dX9_fleet_88 ar_141 (by omega) ?_
        try simp (disch := omega) only [up_at, up_ne]
        refine aw_iret dX9_fleet_89 rfl ?_
        exact k9
      · refine aw_tsw_in 90 dX9_fleet_40 (by omega) rfl (by decide) ?_
        refine a_al0 (by decide) dX9_fleet_90 ?_
        refine a_il1 dX9_fleet_91 ?_
        refine aw_callV 4 0 0 dX9_fleet_92 yw_X9_hullsOf ml_X9_305 in_X9_hullsOf se_X9_hullsOf (ci := 8) rfl at_140 (as := [_]) rfl rfl ⟨by decide, by decide, by decide, Nat.le_of_ble_eq_true rfl⟩ ?_
        refine ac_hullsOf (by rw [e3]; exact hn) (fun i i0 i1 => by rw [up_ne (by omega)]; exact hh i i0 (by omega)) ?_
        refine am_ci ?_
        try simp (disch := omega) only [up_at, up_ne]
        refine aw_iret dX9_fleet_95 rfl ?_
        exact k9
      · refine aw_tsw_in 96 dX9_fleet_40 (by omega) rfl (by decide) ?_
        refine a_al0 (by decide) dX9_fleet_96 ?_
        refine aw_getR (r := 141) 0 rfl dX9_fleet_97 fl_X9_7 at_140 rfl rfl ?_
        try simp (disch := omega) only [up_at, up_ne]
        refine aw_bipush dX9_fleet_100 (by decide) ?_
        refine aw_iconst dX9_fleet_102 (by decide) ?_
        refine a_il1 dX9_fleet_103 ?_
        refine aw_imulR (by omega) dX9_fleet_104 ?_
        refine aw_iaddR (by omega) dX9_fleet_105 ?_
        refine aw_iconst dX9_fleet_106 (by decide) ?_
        refine aw_iaddR (by omega) dX9_fleet_107 ?_
        refine aw_iald dX9_fleet_108 ar_141 (by omega) ?_
        try simp (disch := omega) only [up_at, up_ne]
        refine aw_iret dX9_fleet_109 rfl ?_
        exact k9
      · refine aw_tsw_out 110 dX9_fleet_40 (by omega) (by decide) ?_
        refine a_al0 (by decide) dX9_fleet_110 ?_
        refine a_il1 dX9_fleet_111 ?_
        refine aw_callV 4 0 0 dX9_fleet_112 yw_X9_lettersOf ml_X9_308 in_X9_lettersOf se_X9_lettersOf (ci := 8) rfl at_140 (as := [_]) rfl rfl ⟨by decide, by decide, by decide, Nat.le_of_ble_eq_true rfl⟩ ?_
        refine ac_lettersOf (by rw [e3]; exact hn) ?_
        refine am_ci ?_
        try simp (disch := omega) only [up_at, up_ne]
        refine aw_iret dX9_fleet_115 rfl ?_
        exact k9
    · refine am_ci ?_
      refine aw_if_eq_y 26 dX9_fleet_19 (by decide) (by decide) ?_
      refine aw_iconst dX9_fleet_26 (by decide) ?_
      refine aw_put 7 dX9_fleet_27 fp_X9_66 at_140 rfl ?_
      refine a_al0 (by decide) dX9_fleet_30 ?_
      refine aw_get 7 dX9_fleet_31 fl_X9_66 at_140 rfl ?_
      try simp (disch := omega) only [up_at, up_ne]
      refine aw_if_le_n 39 dX9_fleet_34 (by decide) (by decide) ?_
      refine aw_iconst dX9_fleet_37 (by decide) ?_
      refine aw_iret dX9_fleet_38 rfl ?_
      exact k2 q q2
  · refine am_ci ?_
    refine aw_if_ne_n 13 dX9_fleet_6 (by decide) (by decide) ?_
    refine aw_iconst dX9_fleet_9 (by decide) ?_
    refine aw_goto 27 dX9_fleet_10 (by decide) ?_
    refine aw_put 7 dX9_fleet_27 fp_X9_66 at_140 rfl ?_
    refine a_al0 (by decide) dX9_fleet_30 ?_
    refine aw_get 7 dX9_fleet_31 fl_X9_66 at_140 rfl ?_
    try simp (disch := omega) only [up_at, up_ne]
    refine aw_if_le_n 39 dX9_fleet_34 (by decide) (by decide) ?_
    refine aw_iconst dX9_fleet_37 (by decide) ?_
    refine aw_iret dX9_fleet_38 rfl ?_
    exact k1 q
def mNear (h : AH) (i j : Int) : Prop := (-5 ≤ h 141 (46 + 25 * i + 1) - h 141 (46 + 25 * j + 1) ∧ h 141 (46 + 25 * i + 1) - h 141 (46 + 25 * j + 1) ≤ 5) ∧ (-5 ≤ h 141 (46 + 25 * i + 2) - h 141 (46 + 25 * j + 2) ∧ h 141 (46 + 25 * i + 2) - h 141 (46 + 25 * j + 2) ≤ 5)
def cOk (h : AH) (i : Int) : Prop := (-1 ≤ h 141 (46 + 25 * i + 1) ∧ h 141 (46 + 25 * i + 1) ≤ 30) ∧ (-1 ≤ h 141 (46 + 25 * i + 2) ∧ h 141 (46 + 25 * i + 2) ≤ 30)
theorem ac_isNear {i j : Int} {h : AH} {K : AO → Nat → AH → Prop} (hi : 0 ≤ i ∧ i ≤ 11) (hj : 0 ≤ j ∧ j ≤ 11) (ci : cOk h i) (cj : cOk h j) (k1 : mNear h i j → K (.inl (some (0, 1))) 159 h) (k0 : ¬ mNear h i j → K (.inl (some (0, 0))) 159 h) : AC mX9_isNear 2 0 0 159 [(2, 140), (0, i), (0, j)] h K := by
  obtain ⟨ci1, ci2⟩ := ci
  obtain ⟨cj1, cj2⟩ := cj
  refine ac_of (ls := [(2, 140), (0, i), (0, j)]) pn_X9 rfl (Nat.le_of_ble_eq_true rfl) rfl ?_
  refine a_al0 (by decide) dX9_isNear_0 ?_
  refine a_il1 dX9_isNear_1 ?_
  refine aw_iconst dX9_isNear_2 (by decide) ?_
  refine aw_callV 1 0 0 dX9_isNear_3 yw_X9_of ml_X9_213 in_X9_of se_X9_of (ci := 8) rfl at_140 (as := [_, _]) rfl rfl ⟨by decide, by decide, by decide, Nat.le_of_ble_eq_true rfl⟩ ?_
  refine ac_of_ (by omega) (by decide) ?_
  refine am_ci ?_
  refine a_al0 (by decide) dX9_isNear_6 ?_
  refine a_il2 dX9_isNear_7 ?_
  refine aw_iconst dX9_isNear_8 (by decide) ?_
  refine aw_callV 1 0 0 dX9_isNear_9 yw_X9_of ml_X9_213 in_X9_of se_X9_of (ci := 8) rfl at_140 (as := [_, _]) rfl rfl ⟨by decide, by decide, by decide, Nat.le_of_ble_eq_true rfl⟩ ?_
  refine ac_of_ (by omega) (by decide) ?_
  refine am_ci ?_
  refine aw_isubR (by omega) dX9_isNear_12 ?_
  refine aw_bipush dX9_isNear_13 (by decide) ?_
  refine aw_iconst dX9_isNear_15 (by decide) ?_
  refine aw_callS 1 0 0 dX9_isNear_16 yw_X9_isIn ml_X9_76 sm_X9_isIn (as := [_, _, _]) rfl rfl ⟨by decide, by decide, by decide, Nat.le_of_ble_eq_true rfl⟩ ?_
  refine ac_isIn (fun q => ?_) (fun q => ?_)
  · refine am_ci ?_
    refine aw_if_eq_n 48 dX9_isNear_19 (by decide) (by decide) ?_
    refine a_al0 (by decide) dX9_isNear_22 ?_
    refine a_il1 dX9_isNear_23 ?_
    refine aw_iconst dX9_isNear_24 (by decide) ?_
    refine aw_callV 1 0 0 dX9_isNear_25 yw_X9_of ml_X9_213 in_X9_of se_X9_of (ci := 8) rfl at_140 (as := [_, _]) rfl rfl ⟨by decide, by decide, by decide, Nat.le_of_ble_eq_true rfl⟩ ?_
    refine ac_of_ (by omega) (by decide) ?_
    refine am_ci ?_
    refine a_al0 (by decide) dX9_isNear_28 ?_
    refine a_il2 dX9_isNear_29 ?_
    refine aw_iconst dX9_isNear_30 (by decide) ?_
    refine aw_callV 1 0 0 dX9_isNear_31 yw_X9_of ml_X9_213 in_X9_of se_X9_of (ci := 8) rfl at_140 (as := [_, _]) rfl rfl ⟨by decide, by decide, by decide, Nat.le_of_ble_eq_true rfl⟩ ?_
    refine ac_of_ (by omega) (by decide) ?_
    refine am_ci ?_
    refine aw_isubR (by omega) dX9_isNear_34 ?_
    refine aw_bipush dX9_isNear_35 (by decide) ?_
    refine aw_iconst dX9_isNear_37 (by decide) ?_
    refine aw_callS 1 0 0 dX9_isNear_38 yw_X9_isIn ml_X9_76 sm_X9_isIn (as := [_, _, _]) rfl rfl ⟨by decide, by decide, by decide, Nat.le_of_ble_eq_true rfl⟩ ?_
    refine ac_isIn (fun q2 => ?_) (fun q2 => ?_)
    · refine am_ci ?_
      refine aw_if_eq_n 48 dX9_isNear_41 (by decide) (by decide) ?_
      refine aw_iconst dX9_isNear_44 (by decide) ?_
      refine aw_goto 49 dX9_isNear_45 (by decide) ?_
      refine aw_zret dX9_isNear_49 rfl (by omega) ?_
      exact k1 ⟨q, q2⟩
    · refine am_ci ?_
      refine aw_if_eq_y 48 dX9_isNear_41 (by decide) (by decide) ?_
      refine aw_iconst dX9_isNear_48 (by decide) ?_
      refine aw_zret dX9_isNear_49 rfl (by omega) ?_
      exact k0 (fun x => q2 x.2)
  · refine am_ci ?_
    refine aw_if_eq_y 48 dX9_isNear_19 (by decide) (by decide) ?_
    refine aw_iconst dX9_isNear_48 (by decide) ?_
    refine aw_zret dX9_isNear_49 rfl (by omega) ?_
    exact k0 (fun x => q x.1)
def mSees (h : AH) (f i : Int) : Prop := h 141 (46 + 25 * i + 0) = f ∨ (h 141 (46 + 25 * i + 10) = -1 ∧ ∃ j, 0 ≤ j ∧ j < h 141 3 ∧ fSail h f j ∧ mNear h j i)
theorem ac_sees {f i : Int} {h : AH} {K : AO → Nat → AH → Prop} (hn : 0 ≤ h 141 3 ∧ h 141 3 ≤ 12) (h2 : 0 ≤ h 141 2 ∧ h 141 2 ≤ 4) (hc : ∀ i, 0 ≤ i → i < h 141 3 → cOk h i) (k1 : ¬ ((0 ≤ f ∧ f < h 141 2) ∧ 0 ≤ i ∧ i < h 141 3) → K (.inl (some (0, 0))) 159 (up h 140 7 1)) (kt : (0 ≤ f ∧ f < h 141 2) → (0 ≤ i ∧ i < h 141 3) → mSees (up h 140 7 0) f i → K (.inl (some (0, 1))) 159 (up h 140 7 0)) (kf : (0 ≤ f ∧ f < h 141 2) → (0 ≤ i ∧ i < h 141 3) → ¬ mSees (up h 140 7 0) f i → K (.inl (some (0, 0))) 159 (up h 140 7 0)) : AC mX9_sees 4 0 0 159 [(2, 140), (0, f), (0, i)] h K := by
  have e3 : up h 140 7 0 141 3 = h 141 3 := up_ne (by omega)
  have hc' : ∀ i, 0 ≤ i → i < h 141 3 → cOk (up h 140 7 0) i := fun j j0 j1 => by
    have := hc j j0 j1
    unfold cOk at this ⊢
    simp (disch := omega) only [up_ne]
    exact this
  refine ac_of (ls := [(2, 140), (0, f), (0, i), (9, 0)]) pn_X9 rfl (Nat.le_of_ble_eq_true rfl) rfl ?_
  refine a_al0 (by decide) dX9_sees_0 ?_
  refine a_al0 (by decide) dX9_sees_1 ?_
  refine a_il1 dX9_sees_2 ?_
  refine aw_callV 2 0 0 dX9_sees_3 yw_X9_isFleet ml_X9_275 in_X9_isFleet se_X9_isFleet (ci := 8) rfl at_140 (as := [_]) rfl rfl ⟨by decide, by decide, by decide, Nat.le_of_ble_eq_true rfl⟩ ?_
  refine ac_isFleet h2.1 (fun q => ?_) (fun q => ?_)
  · refine am_ci ?_
    refine aw_if_eq_n 21 dX9_sees_6 (by decide) (by decide) ?_
    refine a_al0 (by decide) dX9_sees_9 ?_
    refine a_il2 dX9_sees_10 ?_
    refine aw_callV 2 0 0 dX9_sees_11 yw_X9_isShip ml_X9_296 in_X9_isShip se_X9_isShip (ci := 8) rfl at_140 (as := [_]) rfl rfl ⟨by decide, by decide, by decide, Nat.le_of_ble_eq_true rfl⟩ ?_
    refine ac_isShip hn.1 (fun q2 => ?_) (fun q2 => ?_)
    · refine am_ci ?_
      refine aw_if_eq_n 21 dX9_sees_14 (by decide) (by decide) ?_
      refine aw_iconst dX9_sees_17 (by decide) ?_
      refine aw_goto 22 dX9_sees_18 (by decide) ?_
      refine aw_put 7 dX9_sees_22 fp_X9_66 at_140 rfl ?_
      refine a_al0 (by decide) dX9_sees_25 ?_
      refine aw_get 7 dX9_sees_26 fl_X9_66 at_140 rfl ?_
      try simp (disch := omega) only [up_at, up_ne]
      refine aw_if_le_y 34 dX9_sees_29 (by decide) (by decide) ?_
      refine a_al0 (by decide) dX9_sees_34 ?_
      refine a_il2 dX9_sees_35 ?_
      refine aw_iconst dX9_sees_36 (by decide) ?_
      refine aw_callV 1 0 0 dX9_sees_37 yw_X9_of ml_X9_213 in_X9_of se_X9_of (ci := 8) rfl at_140 (as := [_, _]) rfl rfl ⟨by decide, by decide, by decide, Nat.le_of_ble_eq_true rfl⟩ ?_
      refine ac_of_ (by omega) (by decide) ?_
      refine am_ci ?_
      try simp (disch := omega) only [up_at, up_ne]
      refine a_il1 dX9_sees_40 ?_
      refine aw_icmp_ne 46 dX9_sees_41 (by decide) (fun c41 => ?_) (fun c41 => ?_)
      · refine aw_iconst dX9_sees_46 (by decide) ?_
        refine a_is3 rfl rfl dX9_sees_47 ?_
        refine aw_loop (fun j : Int => 0 ≤ j ∧ j ≤ h 141 3 ∧ (up h 140 7 0 141 (46 + 25 * i + 10) = -1 → ∀ x, 0 ≤ x → x < j → ¬ (fSail (up h 140 7 0) f x ∧ mNear (up h 140 7 0) x i))) (fun j => (h 141 3 - j).toNat) (fun j => AW mX9_sees 4 0 0 K 159 48 [(2, 140), (0, f), (0, i), (0, j)] [] (up h 140 7 0)) (fun j hj ih => ?_) 0 ⟨by omega, hn.1, fun _ x x0 x1 => by omega⟩
        obtain ⟨j0, j1, hx⟩ := hj
        refine a_il3 dX9_sees_48 ?_
        refine a_al0 (by decide) dX9_sees_49 ?_
        refine aw_getR (r := 141) 0 rfl dX9_sees_50 fl_X9_7 at_140 rfl rfl ?_
        try simp (disch := omega) only [up_at, up_ne]
        refine aw_iconst dX9_sees_53 (by decide) ?_
        refine aw_iald dX9_sees_54 ar_141 (by omega) ?_
        try simp (disch := omega) only [up_at, up_ne]
        refine aw_icmp_ge 92 dX9_sees_55 (by decide) (fun c55 => ?_) (fun c55 => ?_)
        · refine aw_iconst dX9_sees_92 (by decide) ?_
          refine aw_zret dX9_sees_93 rfl (by omega) ?_
          have e0 : ¬ h 141 (46 + 25 * i + 0) = f := by assumption
          refine kf q q2 (fun hs => ?_)
          rcases hs with hs | ⟨s1, x, x0, x1, x2, x3⟩
          · rw [up_ne (by omega)] at hs
            exact e0 hs
          · exact hx s1 x x0 (by omega) ⟨x2, x3⟩
        · refine a_al0 (by decide) dX9_sees_58 ?_
          refine a_il2 dX9_sees_59 ?_
          refine aw_callV 2 0 0 dX9_sees_60 yw_X9_sails ml_X9_216 in_X9_sails se_X9_sails (ci := 8) rfl at_140 (as := [_]) rfl rfl ⟨by decide, by decide, by decide, Nat.le_of_ble_eq_true rfl⟩ ?_
          refine ac_sails (by omega) (fun q3 => ?_) (fun q3 => ?_)
          · refine am_ci ?_
            refine aw_if_eq_n 86 dX9_sees_63 (by decide) (by decide) ?_
            refine a_al0 (by decide) dX9_sees_66 ?_
            refine a_il3 dX9_sees_67 ?_
            refine a_il1 dX9_sees_68 ?_
            refine aw_callV 3 0 0 dX9_sees_69 yw_X9_sailsFor ml_X9_299 in_X9_sailsFor se_X9_sailsFor (ci := 8) rfl at_140 (as := [_, _]) rfl rfl ⟨by decide, by decide, by decide, Nat.le_of_ble_eq_true rfl⟩ ?_
            refine ac_sailsFor (by omega) (fun q4 => ?_) (fun q4 => ?_)
            · refine am_ci ?_
              refine aw_if_eq_n 86 dX9_sees_72 (by decide) (by decide) ?_
              refine a_al0 (by decide) dX9_sees_75 ?_
              refine a_il3 dX9_sees_76 ?_
              refine a_il2 dX9_sees_77 ?_
              refine aw_callV 2 0 0 dX9_sees_78 yw_X9_isNear ml_X9_314 in_X9_isNear se_X9_isNear (ci := 8) rfl at_140 (as := [_, _]) rfl rfl ⟨by decide, by decide, by decide, Nat.le_of_ble_eq_true rfl⟩ ?_
              refine ac_isNear (by omega) (by omega) (hc' j j0 (by omega)) (hc' i q2.1 q2.2) (fun q5 => ?_) (fun q5 => ?_)
              · refine am_ci ?_
                refine aw_if_eq_n 86 dX9_sees_81 (by decide) (by decide) ?_
                refine aw_iconst dX9_sees_84 (by decide) ?_
                refine aw_zret dX9_sees_85 rfl (by omega) ?_
                exact kt q q2 (Or.inr ⟨q3, j, j0, by omega, q4, q5⟩)
              · refine am_ci ?_
                refine aw_if_eq_y 86 dX9_sees_81 (by decide) (by decide) ?_
                refine a_iiR3 (by omega) rfl rfl dX9_sees_86 ?_
                refine aw_goto 48 dX9_sees_89 (by decide) ?_
                refine ih (j + 1) ⟨by omega, by omega, fun s x x0 x1 => ?_⟩ (by omega)
                by_cases e : x = j
                · rw [e]; exact fun y => q5 y.2
                · exact hx s x x0 (by omega)
            · refine am_ci ?_
              refine aw_if_eq_y 86 dX9_sees_72 (by decide) (by decide) ?_
              refine a_iiR3 (by omega) rfl rfl dX9_sees_86 ?_
              refine aw_goto 48 dX9_sees_89 (by decide) ?_
              refine ih (j + 1) ⟨by omega, by omega, fun s x x0 x1 => ?_⟩ (by omega)
              by_cases e : x = j
              · rw [e]; exact fun y => q4 y.1
              · exact hx s x x0 (by omega)
          · refine am_ci ?_
            refine aw_if_eq_y 86 dX9_sees_63 (by decide) (by decide) ?_
            refine a_iiR3 (by omega) rfl rfl dX9_sees_86 ?_
            refine aw_goto 48 dX9_sees_89 (by decide) ?_
            exact ih (j + 1) ⟨by omega, by omega, fun s => absurd s q3⟩ (by omega)
      · refine aw_iconst dX9_sees_44 (by decide) ?_
        refine aw_zret dX9_sees_45 rfl (by omega) ?_
        have e0 : h 141 (46 + 25 * i + 0) = f := by omega
        exact kt q q2 (Or.inl (by rw [up_ne (by omega)]; exact e0))
    · refine am_ci ?_
      refine aw_if_eq_y 21 dX9_sees_14 (by decide) (by decide) ?_
      refine aw_iconst dX9_sees_21 (by decide) ?_
      refine aw_put 7 dX9_sees_22 fp_X9_66 at_140 rfl ?_
      refine a_al0 (by decide) dX9_sees_25 ?_
      refine aw_get 7 dX9_sees_26 fl_X9_66 at_140 rfl ?_
      try simp (disch := omega) only [up_at, up_ne]
      refine aw_if_le_n 34 dX9_sees_29 (by decide) (by decide) ?_
      refine aw_iconst dX9_sees_32 (by decide) ?_
      refine aw_zret dX9_sees_33 rfl (by omega) ?_
      exact k1 (fun x => q2 x.2)
  · refine am_ci ?_
    refine aw_if_eq_y 21 dX9_sees_6 (by decide) (by decide) ?_
    refine aw_iconst dX9_sees_21 (by decide) ?_
    refine aw_put 7 dX9_sees_22 fp_X9_66 at_140 rfl ?_
    refine a_al0 (by decide) dX9_sees_25 ?_
    refine aw_get 7 dX9_sees_26 fl_X9_66 at_140 rfl ?_
    try simp (disch := omega) only [up_at, up_ne]
    refine aw_if_le_n 34 dX9_sees_29 (by decide) (by decide) ?_
    refine aw_iconst dX9_sees_32 (by decide) ?_
    refine aw_zret dX9_sees_33 rfl (by omega) ?_
    exact k1 (fun x => q x.1)
theorem ac_shift {t w : Int} {h : AH} {K : AO → Nat → AH → Prop} (hn : 0 ≤ h 141 9 ∧ h 141 9 ≤ 8) (k1 : ¬ ((0 ≤ t ∧ t ≤ 999) ∧ 0 ≤ w ∧ w ≤ 1) → K (.inl (some (0, 0))) 159 (up h 140 7 1)) (k0 : (0 ≤ t ∧ t ≤ 999) → (0 ≤ w ∧ w ≤ 1) → ∀ x, isFst (mSh (up h 140 7 0) t) (h 141 9) x → K (.inl (some (0, if x = -1 then -1 else h 141 (10 + 3 * x + 1 + w)))) 159 (up h 140 7 0)) : AC mX9_shift 2 0 0 159 [(2, 140), (0, t), (0, w)] h K := by
  have e3 : up h 140 7 0 141 9 = h 141 9 := up_ne (by omega)
  refine ac_of (ls := [(2, 140), (0, t), (0, w), (9, 0)]) pn_X9 rfl (Nat.le_of_ble_eq_true rfl) rfl ?_
  refine a_al0 (by decide) dX9_shift_0 ?_
  refine a_il1 dX9_shift_1 ?_
  refine aw_iconst dX9_shift_2 (by decide) ?_
  refine aw_sipush dX9_shift_3 (by decide) ?_
  refine aw_callS 1 0 0 dX9_shift_6 yw_X9_isIn ml_X9_76 sm_X9_isIn (as := [_, _, _]) rfl rfl ⟨by decide, by decide, by decide, Nat.le_of_ble_eq_true rfl⟩ ?_
  refine ac_isIn (fun q => ?_) (fun q => ?_)
  · refine am_ci ?_
    refine aw_if_eq_n 25 dX9_shift_9 (by decide) (by decide) ?_
    refine a_il2 dX9_shift_12 ?_
    refine aw_iconst dX9_shift_13 (by decide) ?_
    refine aw_iconst dX9_shift_14 (by decide) ?_
    refine aw_callS 1 0 0 dX9_shift_15 yw_X9_isIn ml_X9_76 sm_X9_isIn (as := [_, _, _]) rfl rfl ⟨by decide, by decide, by decide, Nat.le_of_ble_eq_true rfl⟩ ?_
    refine ac_isIn (fun q2 => ?_) (fun q2 => ?_)
    · refine am_ci ?_
      refine aw_if_eq_n 25 dX9_shift_18 (by decide) (by decide) ?_
      refine aw_iconst dX9_shift_21 (by decide) ?_
      refine aw_goto 26 dX9_shift_22 (by decide) ?_
      refine aw_put 7 dX9_shift_26 fp_X9_66 at_140 rfl ?_
      refine a_al0 (by decide) dX9_shift_29 ?_
      refine aw_get 7 dX9_shift_30 fl_X9_66 at_140 rfl ?_
      try simp (disch := omega) only [up_at, up_ne]
      refine aw_if_le_y 38 dX9_shift_33 (by decide) (by decide) ?_
      refine a_al0 (by decide) dX9_shift_38 ?_
      refine a_il1 dX9_shift_39 ?_
      refine aw_callV 1 0 0 dX9_shift_40 yw_X9_shiftOf ml_X9_150 in_X9_shiftOf se_X9_shiftOf (ci := 8) rfl at_140 (as := [_]) rfl rfl ⟨by decide, by decide, by decide, Nat.le_of_ble_eq_true rfl⟩ ?_
      refine ac_shiftOf (by rw [e3]; exact hn) (fun x hx => ?_)
      rw [e3] at hx
      have k9 := k0 q q2 x hx
      by_cases e : x = -1
      · rw [if_pos e] at k9 ⊢
        refine am_ci ?_
        try simp (disch := omega) only [up_at, up_ne]
        refine a_is3 rfl rfl dX9_shift_43 ?_
        refine a_il3 dX9_shift_44 ?_
        refine aw_iconst dX9_shift_45 (by decide) ?_
        refine aw_icmp_ne 53 dX9_shift_46 (by decide) (fun c46 => ?_) (fun c46 => ?_)
        · exfalso; omega
        · refine aw_iconst dX9_shift_49 (by decide) ?_
          refine aw_goto 63 dX9_shift_50 (by decide) ?_
          refine aw_iret dX9_shift_63 rfl ?_
          exact k9
      · have hx2 : 0 ≤ x ∧ x < h 141 9 := by
          rcases hx with y | y
          · exact ⟨y.1, y.2.1⟩
          · exact absurd y.1 e
        rw [if_neg e] at k9 ⊢
        refine am_ci ?_
        try simp (disch := omega) only [up_at, up_ne]
        refine a_is3 rfl rfl dX9_shift_43 ?_
        refine a_il3 dX9_shift_44 ?_
        refine aw_iconst dX9_shift_45 (by decide) ?_
        refine aw_icmp_ne 53 dX9_shift_46 (by decide) (fun c46 => ?_) (fun c46 => ?_)
        · refine a_al0 (by decide) dX9_shift_53 ?_
          refine aw_getR (r := 141) 0 rfl dX9_shift_54 fl_X9_7 at_140 rfl rfl ?_
          try simp (disch := omega) only [up_at, up_ne]
          refine a_il3 dX9_shift_57 ?_
          refine aw_iconst dX9_shift_58 (by decide) ?_
          refine aw_iaddR (by omega) dX9_shift_59 ?_
          refine a_il2 dX9_shift_60 ?_
          refine aw_iaddR (by omega) dX9_shift_61 ?_
          refine aw_iald dX9_shift_62 ar_141 (by omega) ?_
          try simp (disch := omega) only [up_at, up_ne]
          refine aw_iret dX9_shift_63 rfl ?_
          exact k9
        · exfalso; omega
    · refine am_ci ?_
      refine aw_if_eq_y 25 dX9_shift_18 (by decide) (by decide) ?_
      refine aw_iconst dX9_shift_25 (by decide) ?_
      refine aw_put 7 dX9_shift_26 fp_X9_66 at_140 rfl ?_
      refine a_al0 (by decide) dX9_shift_29 ?_
      refine aw_get 7 dX9_shift_30 fl_X9_66 at_140 rfl ?_
      try simp (disch := omega) only [up_at, up_ne]
      refine aw_if_le_n 38 dX9_shift_33 (by decide) (by decide) ?_
      refine aw_iconst dX9_shift_36 (by decide) ?_
      refine aw_iret dX9_shift_37 rfl ?_
      exact k1 (fun x => q2 x.2)
  · refine am_ci ?_
    refine aw_if_eq_y 25 dX9_shift_9 (by decide) (by decide) ?_
    refine aw_iconst dX9_shift_25 (by decide) ?_
    refine aw_put 7 dX9_shift_26 fp_X9_66 at_140 rfl ?_
    refine a_al0 (by decide) dX9_shift_29 ?_
    refine aw_get 7 dX9_shift_30 fl_X9_66 at_140 rfl ?_
    try simp (disch := omega) only [up_at, up_ne]
    refine aw_if_le_n 38 dX9_shift_33 (by decide) (by decide) ?_
    refine aw_iconst dX9_shift_36 (by decide) ?_
    refine aw_iret dX9_shift_37 rfl ?_
    exact k1 (fun x => q x.1)
theorem ac_ram {r w : Int} {h : AH} {K : AO → Nat → AH → Prop} (hn : 0 ≤ h 141 7 ∧ h 141 7 ≤ 30) (k1 : ¬ (0 ≤ r ∧ r < h 141 7) → K (.inl (some (0, 0))) 159 (up h 140 7 1)) (k2 : 0 ≤ r ∧ r < h 141 7 → ¬ (0 ≤ w ∧ w ≤ 4) → K (.inl (some (0, 0))) 159 (up h 140 7 2)) (k0 : 0 ≤ r ∧ r < h 141 7 → 0 ≤ w ∧ w ≤ 4 → K (.inl (some (0, h 141 (346 + 5 * r + w)))) 159 (up h 140 7 0)) : AC mX9_ram 2 0 0 159 [(2, 140), (0, r), (0, w)] h K := by
  refine ac_of (ls := [(2, 140), (0, r), (0, w)]) pn_X9 rfl (Nat.le_of_ble_eq_true rfl) rfl ?_
  refine a_al0 (by decide) dX9_ram_0 ?_
  refine a_il1 dX9_ram_1 ?_
  refine aw_iconst dX9_ram_2 (by decide) ?_
  refine a_al0 (by decide) dX9_ram_3 ?_
  refine aw_getR (r := 141) 0 rfl dX9_ram_4 fl_X9_7 at_140 rfl rfl ?_
  refine aw_bipush dX9_ram_7 (by decide) ?_
  refine aw_iald dX9_ram_9 ar_141 (by omega) ?_
  refine aw_iconst dX9_ram_10 (by decide) ?_
  refine aw_isubR (by omega) dX9_ram_11 ?_
  refine aw_callS 1 0 0 dX9_ram_12 yw_X9_isIn ml_X9_76 sm_X9_isIn (as := [_, _, _]) rfl rfl ⟨by decide, by decide, by decide, Nat.le_of_ble_eq_true rfl⟩ ?_
  refine ac_isIn (fun q => ?_) (fun q => ?_)
  · refine am_ci ?_
    refine aw_if_ne_y 22 dX9_ram_15 (by decide) (by decide) ?_
    refine a_il2 dX9_ram_22 ?_
    refine aw_iconst dX9_ram_23 (by decide) ?_
    refine aw_iconst dX9_ram_24 (by decide) ?_
    refine aw_callS 1 0 0 dX9_ram_25 yw_X9_isIn ml_X9_76 sm_X9_isIn (as := [_, _, _]) rfl rfl ⟨by decide, by decide, by decide, Nat.le_of_ble_eq_true rfl⟩ ?_
    refine ac_isIn (fun q2 => ?_) (fun q2 => ?_)
    · refine am_ci ?_
      refine aw_if_eq_n 35 dX9_ram_28 (by decide) (by decide) ?_
      refine aw_iconst dX9_ram_31 (by decide) ?_
      refine aw_goto 36 dX9_ram_32 (by decide) ?_
      refine aw_put 7 dX9_ram_36 fp_X9_66 at_140 rfl ?_
      refine a_al0 (by decide) dX9_ram_39 ?_
      refine aw_get 7 dX9_ram_40 fl_X9_66 at_140 rfl ?_
      try simp (disch := omega) only [up_at, up_ne]
      refine aw_if_le_y 50 dX9_ram_43 (by decide) (by decide) ?_
      refine a_al0 (by decide) dX9_ram_50 ?_
      refine aw_getR (r := 141) 0 rfl dX9_ram_51 fl_X9_7 at_140 rfl rfl ?_
      try simp (disch := omega) only [up_at, up_ne]
      refine aw_sipush dX9_ram_54 (by decide) ?_
      refine aw_iconst dX9_ram_57 (by decide) ?_
      refine a_il1 dX9_ram_58 ?_
      refine aw_imulR (by omega) dX9_ram_59 ?_
      refine aw_iaddR (by omega) dX9_ram_60 ?_
      refine a_il2 dX9_ram_61 ?_
      refine aw_iaddR (by omega) dX9_ram_62 ?_
      refine aw_iald dX9_ram_63 ar_141 (by omega) ?_
      try simp (disch := omega) only [up_at, up_ne]
      refine aw_iret dX9_ram_64 rfl ?_
      exact k0 (by omega) q2
    · refine am_ci ?_
      refine aw_if_eq_y 35 dX9_ram_28 (by decide) (by decide) ?_
      refine aw_iconst dX9_ram_35 (by decide) ?_
      refine aw_put 7 dX9_ram_36 fp_X9_66 at_140 rfl ?_
      refine a_al0 (by decide) dX9_ram_39 ?_
      refine aw_get 7 dX9_ram_40 fl_X9_66 at_140 rfl ?_
      try simp (disch := omega) only [up_at, up_ne]
      refine aw_if_le_n 50 dX9_ram_43 (by decide) (by decide) ?_
      refine aw_iconst dX9_ram_46 (by decide) ?_
      refine aw_goto 64 dX9_ram_47 (by decide) ?_
      refine aw_iret dX9_ram_64 rfl ?_
      exact k2 (by omega) q2
  · refine am_ci ?_
    refine aw_if_ne_n 22 dX9_ram_15 (by decide) (by decide) ?_
    refine aw_iconst dX9_ram_18 (by decide) ?_
    refine aw_goto 36 dX9_ram_19 (by decide) ?_
    refine aw_put 7 dX9_ram_36 fp_X9_66 at_140 rfl ?_
    refine a_al0 (by decide) dX9_ram_39 ?_
    refine aw_get 7 dX9_ram_40 fl_X9_66 at_140 rfl ?_
    try simp (disch := omega) only [up_at, up_ne]
    refine aw_if_le_n 50 dX9_ram_43 (by decide) (by decide) ?_
    refine aw_iconst dX9_ram_46 (by decide) ?_
    refine aw_goto 64 dX9_ram_47 (by decide) ?_
    refine aw_iret dX9_ram_64 rfl ?_
    exact k1 (by omega)
abbrev isLg (h : AH) (t : Int) : Prop := h 141 4 - h 141 8 ≤ t ∧ t < h 141 4
def logA (h : AH) (t : Int) : Int := 496 + 76 * (t - (h 141 4 - h 141 8))
def lgOk (h : AH) : Prop := (0 ≤ h 141 4 ∧ h 141 4 ≤ 100000) ∧ (0 ≤ h 141 8 ∧ h 141 8 ≤ 10)
theorem ac_logOf {t : Int} {h : AH} {K : AO → Nat → AH → Prop} (hb : lgOk h) (k1 : isLg h t → K (.inl (some (0, logA h t))) 159 h) (k0 : ¬ isLg h t → K (.inl (some (0, -1))) 159 h) : AC mX9_logOf 2 0 0 159 [(2, 140), (0, t)] h K := by
  refine ac_inv (fun hO hI => ?_)
  have ht := (am_oksh (am_okst hO)).1 rfl
  dsimp only at ht
  obtain ⟨b4, b8⟩ := hb
  refine ac_of (ls := [(2, 140), (0, t), (9, 0)]) pn_X9 rfl (Nat.le_of_ble_eq_true rfl) rfl ?_
  refine a_il1 dX9_logOf_0 ?_
  refine a_al0 (by decide) dX9_logOf_1 ?_
  refine aw_getR (r := 141) 0 rfl dX9_logOf_2 fl_X9_7 at_140 rfl rfl ?_
  refine aw_iconst dX9_logOf_5 (by decide) ?_
  refine aw_iald dX9_logOf_6 ar_141 (by omega) ?_
  refine a_al0 (by decide) dX9_logOf_7 ?_
  refine aw_getR (r := 141) 0 rfl dX9_logOf_8 fl_X9_7 at_140 rfl rfl ?_
  refine aw_bipush dX9_logOf_11 (by decide) ?_
  refine aw_iald dX9_logOf_13 ar_141 (by omega) ?_
  refine aw_isubR (by omega) dX9_logOf_14 ?_
  refine aw_isub dX9_logOf_15 ?_
  refine a_is2 rfl rfl dX9_logOf_16 ?_
  refine a_il1 dX9_logOf_17 ?_
  refine a_al0 (by decide) dX9_logOf_18 ?_
  refine aw_getR (r := 141) 0 rfl dX9_logOf_19 fl_X9_7 at_140 rfl rfl ?_
  refine aw_iconst dX9_logOf_22 (by decide) ?_
  refine aw_iald dX9_logOf_23 ar_141 (by omega) ?_
  refine aw_icmp_gt 44 dX9_logOf_24 (by decide) (fun c24 => ?_) (fun c24 => ?_)
  · refine aw_iconst dX9_logOf_44 (by decide) ?_
    refine aw_goto 56 dX9_logOf_45 (by decide) ?_
    refine aw_iret dX9_logOf_56 rfl ?_
    exact k0 (fun x => by unfold isLg at x; omega)
  · refine a_il2 dX9_logOf_27 ?_
    refine aw_iconst dX9_logOf_28 (by decide) ?_
    refine a_al0 (by decide) dX9_logOf_29 ?_
    refine aw_getR (r := 141) 0 rfl dX9_logOf_30 fl_X9_7 at_140 rfl rfl ?_
    refine aw_bipush dX9_logOf_33 (by decide) ?_
    refine aw_iald dX9_logOf_35 ar_141 (by omega) ?_
    refine aw_iconst dX9_logOf_36 (by decide) ?_
    refine aw_isubR (by omega) dX9_logOf_37 ?_
    refine aw_callS 1 0 0 dX9_logOf_38 yw_X9_isIn ml_X9_76 sm_X9_isIn (as := [_, _, _]) rfl rfl ⟨by decide, by decide, by decide, Nat.le_of_ble_eq_true rfl⟩ ?_
    refine ac_isIn (fun q => ?_) (fun q => ?_)
    · have q' : 0 ≤ t - (h 141 4 - h 141 8) ∧ t - (h 141 4 - h 141 8) ≤ h 141 8 - 1 := by unfold wr at q; omega
      have ew : wr (t - (h 141 4 - h 141 8)) = t - (h 141 4 - h 141 8) := wr_id (by omega) (by omega)
      rw [ew]
      refine am_ci ?_
      refine aw_if_ne_y 48 dX9_logOf_41 (by decide) (by decide) ?_
      refine aw_sipush dX9_logOf_48 (by decide) ?_
      refine aw_bipush dX9_logOf_51 (by decide) ?_
      refine a_il2 dX9_logOf_53 ?_
      refine aw_imulR (by omega) dX9_logOf_54 ?_
      refine aw_iaddR (by omega) dX9_logOf_55 ?_
      refine aw_iret dX9_logOf_56 rfl ?_
      exact k1 (by unfold isLg; omega)
    · refine am_ci ?_
      refine aw_if_ne_n 48 dX9_logOf_41 (by decide) (by decide) ?_
      refine aw_iconst dX9_logOf_44 (by decide) ?_
      refine aw_goto 56 dX9_logOf_45 (by decide) ?_
      refine aw_iret dX9_logOf_56 rfl ?_
      refine k0 (fun x => q ?_)
      unfold isLg at x
      rw [wr_id (by omega) (by omega)]
      omega
theorem lgOk_u {h : AH} {v : Int} (hb : lgOk h) : lgOk (up h 140 7 v) := by
  unfold lgOk at hb ⊢
  simp (disch := omega) only [up_ne]
  exact hb
theorem isLg_u {h : AH} {v t : Int} : isLg (up h 140 7 v) t ↔ isLg h t := by
  unfold isLg
  simp (disch := omega) only [up_ne]
theorem ac_sealOf {t f : Int} {h : AH} {K : AO → Nat → AH → Prop} (hb : lgOk h) (h2 : 0 ≤ h 141 2 ∧ h 141 2 ≤ 4) (k1 : ¬ ((t = h 141 4 ∨ isLg h t) ∧ 0 ≤ f ∧ f < h 141 2) → K (.inl (some (0, 0))) 159 (up h 140 7 1)) (k0 : (t = h 141 4 ∨ isLg h t) → 0 ≤ f ∧ f < h 141 2 → K (.inl (some (0, if t = h 141 4 then mSN h f else h 141 (logA h t + f)))) 159 (up h 140 7 0)) : AC mX9_sealOf 4 0 0 159 [(2, 140), (0, t), (0, f)] h K := by
  obtain ⟨b4, b8⟩ := hb
  have hb' : lgOk (up h 140 7 0) := lgOk_u ⟨b4, b8⟩
  have J : (t = h 141 4 ∨ isLg h t) → AW mX9_sealOf 4 0 0 K 159 20 [(2, 140), (0, t), (0, f)] [(2, 140)] h := fun hj => by
    refine a_al0 (by decide) dX9_sealOf_20 ?_
    refine a_il2 dX9_sealOf_21 ?_
    refine aw_callV 2 0 0 dX9_sealOf_22 yw_X9_isFleet ml_X9_275 in_X9_isFleet se_X9_isFleet (ci := 8) rfl at_140 (as := [_]) rfl rfl ⟨by decide, by decide, by decide, Nat.le_of_ble_eq_true rfl⟩ ?_
    refine ac_isFleet h2.1 (fun q => ?_) (fun q => ?_)
    · have k9 := k0 hj q
      refine am_ci ?_
      refine aw_if_eq_n 32 dX9_sealOf_25 (by decide) (by decide) ?_
      refine aw_iconst dX9_sealOf_28 (by decide) ?_
      refine aw_goto 33 dX9_sealOf_29 (by decide) ?_
      refine aw_put 7 dX9_sealOf_33 fp_X9_66 at_140 rfl ?_
      refine a_al0 (by decide) dX9_sealOf_36 ?_
      refine aw_get 7 dX9_sealOf_37 fl_X9_66 at_140 rfl ?_
      try simp (disch := omega) only [up_at, up_ne]
      refine aw_if_le_y 45 dX9_sealOf_40 (by decide) (by decide) ?_
      refine a_il1 dX9_sealOf_45 ?_
      refine a_al0 (by decide) dX9_sealOf_46 ?_
      refine aw_getR (r := 141) 0 rfl dX9_sealOf_47 fl_X9_7 at_140 rfl rfl ?_
      try simp (disch := omega) only [up_at, up_ne]
      refine aw_iconst dX9_sealOf_50 (by decide) ?_
      refine aw_iald dX9_sealOf_51 ar_141 (by omega) ?_
      try simp (disch := omega) only [up_at, up_ne]
      refine aw_icmp_ne 63 dX9_sealOf_52 (by decide) (fun c52 => ?_) (fun c52 => ?_)
      · refine a_al0 (by decide) dX9_sealOf_63 ?_
        refine aw_getR (r := 141) 0 rfl dX9_sealOf_64 fl_X9_7 at_140 rfl rfl ?_
        try simp (disch := omega) only [up_at, up_ne]
        refine a_al0 (by decide) dX9_sealOf_67 ?_
        refine a_il1 dX9_sealOf_68 ?_
        refine aw_callV 2 0 0 dX9_sealOf_69 yw_X9_logOf ml_X9_317 in_X9_logOf se_X9_logOf (ci := 8) rfl at_140 (as := [_]) rfl rfl ⟨by decide, by decide, by decide, Nat.le_of_ble_eq_true rfl⟩ ?_
        have hne : ¬ t = h 141 4 := by omega
        rw [if_neg hne] at k9
        refine ac_logOf hb' (fun q2 => ?_) (fun q2 => ?_)
        · have eA : logA (up h 140 7 0) t = logA h t := by unfold logA; simp (disch := omega) only [up_ne]
          have rA : 496 ≤ logA h t ∧ logA h t ≤ 496 + 76 * 9 := by
            have := isLg_u.mp q2
            unfold isLg at this
            unfold logA
            omega
          rw [eA]
          refine am_ci ?_
          try simp (disch := omega) only [up_at, up_ne]
          refine a_il2 dX9_sealOf_72 ?_
          refine aw_iaddR (by omega) dX9_sealOf_73 ?_
          refine aw_iald dX9_sealOf_74 ar_141 (by omega) ?_
          try simp (disch := omega) only [up_at, up_ne]
          refine aw_iret dX9_sealOf_75 rfl ?_
          exact k9
        · exact absurd (isLg_u.mpr (hj.resolve_left hne)) q2
      · refine a_al0 (by decide) dX9_sealOf_55 ?_
        refine a_il2 dX9_sealOf_56 ?_
        refine aw_callV 1 0 0 dX9_sealOf_57 yw_X9_sealNow ml_X9_278 in_X9_sealNow se_X9_sealNow (ci := 8) rfl at_140 (as := [_]) rfl rfl ⟨by decide, by decide, by decide, Nat.le_of_ble_eq_true rfl⟩ ?_
        have he : t = h 141 4 := by omega
        rw [if_pos he] at k9
        refine ac_sealNow (by omega) ?_
        refine am_ci ?_
        try simp (disch := omega) only [up_at, up_ne]
        refine aw_goto 75 dX9_sealOf_60 (by decide) ?_
        refine aw_iret dX9_sealOf_75 rfl ?_
        have eS : mSN (up h 140 7 0) f = mSN h f := by unfold mSN; simp (disch := omega) only [up_ne]
        rw [eS]
        exact k9
    · refine am_ci ?_
      refine aw_if_eq_y 32 dX9_sealOf_25 (by decide) (by decide) ?_
      refine aw_iconst dX9_sealOf_32 (by decide) ?_
      refine aw_put 7 dX9_sealOf_33 fp_X9_66 at_140 rfl ?_
      refine a_al0 (by decide) dX9_sealOf_36 ?_
      refine aw_get 7 dX9_sealOf_37 fl_X9_66 at_140 rfl ?_
      try simp (disch := omega) only [up_at, up_ne]
      refine aw_if_le_n 45 dX9_sealOf_40 (by decide) (by decide) ?_
      refine aw_iconst dX9_sealOf_43 (by decide) ?_
      refine aw_iret dX9_sealOf_44 rfl ?_
      exact k1 (fun x => q x.2)
  refine ac_of (ls := [(2, 140), (0, t), (0, f)]) pn_X9 rfl (Nat.le_of_ble_eq_true rfl) rfl ?_
  refine a_al0 (by decide) dX9_sealOf_0 ?_
  refine a_il1 dX9_sealOf_1 ?_
  refine a_al0 (by decide) dX9_sealOf_2 ?_
  refine aw_getR (r := 141) 0 rfl dX9_sealOf_3 fl_X9_7 at_140 rfl rfl ?_
  refine aw_iconst dX9_sealOf_6 (by decide) ?_
  refine aw_iald dX9_sealOf_7 ar_141 (by omega) ?_
  refine aw_icmp_eq 20 dX9_sealOf_8 (by decide) (fun c8 => ?_) (fun c8 => ?_)
  · skip
    exact J (Or.inl (by omega))
  · refine a_al0 (by decide) dX9_sealOf_11 ?_
    refine a_il1 dX9_sealOf_12 ?_
    refine aw_callV 2 0 0 dX9_sealOf_13 yw_X9_logOf ml_X9_317 in_X9_logOf se_X9_logOf (ci := 8) rfl at_140 (as := [_]) rfl rfl ⟨by decide, by decide, by decide, Nat.le_of_ble_eq_true rfl⟩ ?_
    refine ac_logOf ⟨b4, b8⟩ (fun q => ?_) (fun q => ?_)
    · have rA : 496 ≤ logA h t := by unfold isLg at q; unfold logA; omega
      refine am_ci ?_
      refine aw_iconst dX9_sealOf_16 (by decide) ?_
      refine aw_icmp_eq 32 dX9_sealOf_17 (by decide) (fun c17 => ?_) (fun c17 => ?_)
      · exfalso; omega
      · skip
        exact J (Or.inr q)
    · refine am_ci ?_
      refine aw_iconst dX9_sealOf_16 (by decide) ?_
      refine aw_icmp_eq 32 dX9_sealOf_17 (by decide) (fun c17 => ?_) (fun c17 => ?_)
      · refine aw_iconst dX9_sealOf_32 (by decide) ?_
        refine aw_put 7 dX9_sealOf_33 fp_X9_66 at_140 rfl ?_
        refine a_al0 (by decide) dX9_sealOf_36 ?_
        refine aw_get 7 dX9_sealOf_37 fl_X9_66 at_140 rfl ?_
        try simp (disch := omega) only [up_at, up_ne]
        refine aw_if_le_n 45 dX9_sealOf_40 (by decide) (by decide) ?_
        refine aw_iconst dX9_sealOf_43 (by decide) ?_
        refine aw_iret dX9_sealOf_44 rfl ?_
        exact k1 (fun x => x.1.elim (fun y => by omega) q)
      · exfalso; omega
def mixI (s l : Int) : Int := (31 * s + l).tmod 1000003
theorem mixI_rg {s l : Int} (hs : 0 ≤ s) (hl : 0 ≤ l) : 0 ≤ mixI s l ∧ mixI s l ≤ 1000002 := by
  unfold mixI
  rw [Int.tmod_eq_emod_of_nonneg (by omega)]
  omega
theorem ac_mixes {s l : Int} {h : AH} {K : AO → Nat → AH → Prop} (hs : 0 ≤ s ∧ s ≤ 1000002) (hl : 0 ≤ l ∧ l ≤ 10) (k : K (.inl (some (0, mixI s l))) 159 h) : AC mX9_mixes 1 0 0 159 [(0, s), (0, l)] h K := by
  refine ac_of (ls := [(0, s), (0, l)]) pn_X9 rfl (Nat.le_of_ble_eq_true rfl) rfl ?_
  refine aw_bipush dX9_mixes_0 (by decide) ?_
  refine a_il0 dX9_mixes_2 ?_
  refine aw_imulR (by omega) dX9_mixes_3 ?_
  refine a_il1 dX9_mixes_4 ?_
  refine aw_iaddR (by omega) dX9_mixes_5 ?_
  refine aw_ldcw dX9_mixes_6 kc_X9_320 (by decide) ?_
  refine aw_irem dX9_mixes_9 (by omega) ?_
  refine aw_iret dX9_mixes_10 rfl ?_
  exact k
