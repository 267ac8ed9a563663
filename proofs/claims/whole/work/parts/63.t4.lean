/-! the class: ships go, hulls sink -/
def cCaF (h : AH) (b q : Int) (h' : AH) : Prop := ∀ k x, ¬ (k = b + 2 ∧ 0 ≤ x ∧ x < 11 * q ∧ (x % 11 = 1 ∨ x % 11 = 2 ∨ x % 11 = 8)) → ¬ (k = 30 ∧ 0 ≤ x ∧ x < q) → h' k x = h k x
def cCaP (h : AH) (b : Int) (h' : AH) (j : Int) : Prop :=
  (h 26 j = 0 → h' (b + 2) (j * 11 + 1) = h (b + 2) (j * 11 + 1) ∧ h' (b + 2) (j * 11 + 2) = h (b + 2) (j * 11 + 2) ∧ h' (b + 2) (j * 11 + 8) = h (b + 2) (j * 11 + 8) ∧ h' 30 j = h 30 j) ∧
  (¬ h 26 j = 0 → h' (b + 2) (j * 11 + 1) = h 28 j / 100 ∧ h' (b + 2) (j * 11 + 2) = h 28 j % 100 ∧ h' (b + 2) (j * 11 + 8) = mx 0 (h (b + 2) (j * 11 + 8) - 90) ∧ h' 30 j = h 30 j + 1)
def cCame (h : AH) (b n : Int) (h' : AH) : Prop := cCaF h b n h' ∧ ∀ j, 0 ≤ j → j < n → cCaP h b h' j
theorem ac_goAll {b : Int} {h : AH} {K : AO → Nat → AH → Prop} (hB : b = 5 ∨ b = 15) (hn : 0 ≤ h b 3 ∧ h b 3 ≤ 12) (hs : ∀ j, 0 ≤ j → j < h b 3 → (0 ≤ h 28 j ∨ h 26 j = 0) ∧ (0 ≤ h (b + 2) (j * 11 + 8) ∧ h (b + 2) (j * 11 + 8) ≤ 180) ∧ (0 ≤ h 30 j ∧ h 30 j ≤ 1000000)) (kk : ∀ h', cCame h b (h b 3) h' → K (.inl none) 159 h') : AC mX6_goAll 2 0 0 159 [(2, 25), (2, b)] h K := by
  have hb := sh_ab hB
  refine ac_of (ls := [(2, 25), (2, b), (9, 0)]) pn_X6 rfl (Nat.le_of_ble_eq_true rfl) rfl ?_
  refine aw_iconst dX6_goAll_0 (by decide) ?_
  refine a_is2 rfl rfl dX6_goAll_1 ?_
  refine aw_loop (fun q : Int × AH => 0 ≤ q.1 ∧ q.1 ≤ h b 3 ∧ cCame h b q.1 q.2) (fun q => (h b 3 - q.1).toNat) (fun q => AW mX6_goAll 2 0 0 K 159 2 [(2, 25), (2, b), (0, q.1)] [] q.2) (fun q hq ih => ?_) (0, h) ⟨by dsimp only; omega, hn.1, fun _ _ _ _ => rfl, fun j a c => by dsimp only at c; omega⟩
  obtain ⟨i, g⟩ := q
  obtain ⟨i0, i1, fr, st⟩ := hq
  dsimp only at i0 i1 fr st ih ⊢
  have nx : ∀ g2, (∀ k x, ¬ (k = b + 2 ∧ (x = i * 11 + 1 ∨ x = i * 11 + 2 ∨ x = i * 11 + 8)) → ¬ (k = 30 ∧ x = i) → g2 k x = g k x) → cCaP h b g2 i → i < h b 3 → AW mX6_goAll 2 0 0 K 159 80 [(2, 25), (2, b), (0, i)] [] g2 := fun g2 f2 s2 il => by
    refine a_iiR2 (by omega) rfl rfl dX6_goAll_80 ?_
    refine aw_goto 2 dX6_goAll_83 (by decide) ?_
    refine ih (i + 1, g2) ⟨by dsimp only; omega, by dsimp only; omega, fun k x a c => ?_, fun j j0 j1 => ?_⟩ (by dsimp only; omega)
    · dsimp only at a c ⊢
      rw [f2 k x (by omega) (by omega)]
      exact fr k x (by omega) (by omega)
    · dsimp only at j1 ⊢
      by_cases e : j = i
      · rw [e]; exact s2
      · have g9 := st j j0 (by omega)
        unfold cCaP at g9 ⊢
        rw [f2 (b + 2) (j * 11 + 1) (by omega) (by omega), f2 (b + 2) (j * 11 + 2) (by omega) (by omega), f2 (b + 2) (j * 11 + 8) (by omega) (by omega), f2 30 j (by omega) (by omega)]
        exact g9
  have g3 : g b 3 = h b 3 := fr _ _ (by omega) (by omega)
  refine a_il2 dX6_goAll_2 ?_
  refine a_al1 (am_sh_rg hb) dX6_goAll_3 ?_
  refine aw_get 3 dX6_goAll_4 fl_X6_58 (am_sh_at hb) rfl ?_
  refine aw_icmp_ge 86 dX6_goAll_7 (by decide) (fun c7 => ?_) (fun c7 => ?_)
  · refine aw_vret dX6_goAll_86 rfl ?_
    have e : i = h b 3 := by omega
    rw [e] at fr st
    exact kk _ ⟨fr, st⟩
  · have il : i < h b 3 := by omega
    have e26 : g 26 i = h 26 i := fr _ _ (by omega) (by omega)
    have e28 : g 28 i = h 28 i := fr _ _ (by omega) (by omega)
    have e30 : g 30 i = h 30 i := fr _ _ (by omega) (by omega)
    have e1 : g (b + 2) (i * 11 + 1) = h (b + 2) (i * 11 + 1) := fr _ _ (by omega) (by omega)
    have e2 : g (b + 2) (i * 11 + 2) = h (b + 2) (i * 11 + 2) := fr _ _ (by omega) (by omega)
    have e8 : g (b + 2) (i * 11 + 8) = h (b + 2) (i * 11 + 8) := fr _ _ (by omega) (by omega)
    obtain ⟨so, sw, sc⟩ := hs i i0 il
    refine a_al0 (by decide) dX6_goAll_10 ?_
    refine aw_getR (r := 26) 0 rfl dX6_goAll_11 fl_X6_9 at_25 rfl rfl ?_
    refine a_il2 dX6_goAll_14 ?_
    refine aw_zald dX6_goAll_15 ar_26 (by omega) ?_
    refine aw_if_eq 80 dX6_goAll_16 (by decide) (fun c16 => ?_) (fun c16 => ?_)
    · have z : h 26 i = 0 := by omega
      refine nx g (fun _ _ _ _ => rfl) ⟨fun _ => ⟨e1, e2, e8, e30⟩, fun q => absurd z q⟩ il
    · have z : ¬ h 26 i = 0 := by omega
      have so2 := so.resolve_right z
      have d1 : (h 28 i).tdiv 100 = h 28 i / 100 := Int.tdiv_eq_ediv_of_nonneg so2
      have d2 : (h 28 i).tmod 100 = h 28 i % 100 := Int.tmod_eq_emod_of_nonneg so2
      refine a_al1 (am_sh_rg hb) dX6_goAll_19 ?_
      refine a_il2 dX6_goAll_20 ?_
      refine aw_iconst dX6_goAll_21 (by decide) ?_
      refine a_al0 (by decide) dX6_goAll_22 ?_
      refine aw_getR (r := 28) 2 rfl dX6_goAll_23 fl_X6_19 at_25 rfl rfl ?_
      refine a_il2 dX6_goAll_26 ?_
      refine aw_iald dX6_goAll_27 ar_28 (by omega) ?_
      rw [e28]
      refine aw_bipush dX6_goAll_28 (by decide) ?_
      refine aw_idiv dX6_goAll_30 (by omega) ?_
      rw [d1]
      refine aw_callV 1 0 0 dX6_goAll_31 yw_X3_set ml_X6_92 in_X3_set se_X3_set (ci := 2) rfl (am_sh_at hb) (as := [_, _, _]) rfl rfl ⟨by decide, by decide, by decide, Nat.le_of_ble_eq_true rfl⟩ ?_
      refine ac_set hB (by omega) (by decide) ?_
      refine am_cv ?_
      refine a_al1 (am_sh_rg hb) dX6_goAll_34 ?_
      refine a_il2 dX6_goAll_35 ?_
      refine aw_iconst dX6_goAll_36 (by decide) ?_
      refine a_al0 (by decide) dX6_goAll_37 ?_
      refine aw_getR (r := 28) 2 rfl dX6_goAll_38 fl_X6_19 at_25 rfl rfl ?_
      try simp (disch := omega) only [up_at, up_ne]
      refine a_il2 dX6_goAll_41 ?_
      refine aw_iald dX6_goAll_42 ar_28 (by omega) ?_
      try simp (disch := omega) only [up_at, up_ne]
      refine aw_bipush dX6_goAll_43 (by decide) ?_
      rw [e28]
      refine aw_irem dX6_goAll_45 (by omega) ?_
      rw [d2]
      refine aw_callV 1 0 0 dX6_goAll_46 yw_X3_set ml_X6_92 in_X3_set se_X3_set (ci := 2) rfl (am_sh_at hb) (as := [_, _, _]) rfl rfl ⟨by decide, by decide, by decide, Nat.le_of_ble_eq_true rfl⟩ ?_
      refine ac_set hB (by omega) (by decide) ?_
      refine am_cv ?_
      refine a_al1 (am_sh_rg hb) dX6_goAll_49 ?_
      refine a_il2 dX6_goAll_50 ?_
      refine aw_bipush dX6_goAll_51 (by decide) ?_
      refine aw_iconst dX6_goAll_53 (by decide) ?_
      refine a_al1 (am_sh_rg hb) dX6_goAll_54 ?_
      refine a_il2 dX6_goAll_55 ?_
      refine aw_bipush dX6_goAll_56 (by decide) ?_
      refine aw_callV 1 0 0 dX6_goAll_58 yw_X3_get ml_X6_65 in_X3_get se_X3_get (ci := 2) rfl (am_sh_at hb) (as := [_, _]) rfl rfl ⟨by decide, by decide, by decide, Nat.le_of_ble_eq_true rfl⟩ ?_
      refine ac_get hB (by omega) (by decide) ?_
      rw [up_ne (by omega), up_ne (by omega), e8]
      refine am_ci ?_
      try simp (disch := omega) only [up_at, up_ne]
      refine aw_bipush dX6_goAll_61 (by decide) ?_
      refine aw_isubR (by omega) dX6_goAll_63 ?_
      refine aw_mmax dX6_goAll_64 ⟨ml_X6_143, mw_max⟩ ⟨by decide, Nat.le_of_ble_eq_true rfl⟩ ?_
      rw [show (if (0 : Int) < h (b + 2) (i * 11 + 8) - 90 then h (b + 2) (i * 11 + 8) - 90 else 0) = mx 0 (h (b + 2) (i * 11 + 8) - 90) from rfl]
      refine aw_callV 1 0 0 dX6_goAll_67 yw_X3_set ml_X6_92 in_X3_set se_X3_set (ci := 2) rfl (am_sh_at hb) (as := [_, _, _]) rfl rfl ⟨by decide, by decide, by decide, Nat.le_of_ble_eq_true rfl⟩ ?_
      refine ac_set hB (by omega) (by decide) ?_
      have u30 : up (up (up g (b + 2) (i * 11 + 1) (h 28 i / 100)) (b + 2) (i * 11 + 2) (h 28 i % 100)) (b + 2) (i * 11 + 8) (mx 0 (h (b + 2) (i * 11 + 8) - 90)) 30 i = h 30 i := by
        rw [up_ne (by omega), up_ne (by omega), up_ne (by omega), e30]
      refine am_cv ?_
      refine a_al0 (by decide) dX6_goAll_70 ?_
      refine aw_getR (r := 30) 4 rfl dX6_goAll_71 fl_X6_25 at_25 rfl rfl ?_
      try simp (disch := omega) only [up_at, up_ne]
      refine a_il2 dX6_goAll_74 ?_
      refine aw_dup2 dX6_goAll_75 rfl rfl ?_
      refine aw_iald dX6_goAll_76 ar_30 (by omega) ?_
      try simp (disch := omega) only [up_at, up_ne]
      refine aw_iconst dX6_goAll_77 (by decide) ?_
      refine aw_iaddR (by omega) dX6_goAll_78 ?_
      refine aw_iast dX6_goAll_79 ar_30 (by omega) ?_
      rw [e30]
      refine nx _ (fun k x a c => by rw [up_ne (by omega), up_ne (by omega), up_ne (by omega), up_ne (by omega)]) ⟨fun q => absurd q z, fun _ => ?_⟩ il
      simp (disch := omega) only [up_at, up_ne]
      exact ⟨trivial, trivial, trivial, trivial⟩
def cSunk (h : AH) (b i : Int) (h' : AH) : Prop :=
  (∀ k x, ¬ (k = b + 2 ∧ (x = i * 11 + 1 ∨ x = i * 11 + 2 ∨ x = i * 11 + 4 ∨ x = i * 11 + 10)) → ¬ (k = b + 6 ∧ 0 ≤ x ∧ x < h b 2) → h' k x = h k x) ∧
  (∀ f, 0 ≤ f → f < h b 2 → (bitP (h 29 i) f ∧ ¬ f = h (b + 2) (i * 11 + 0) → h' (b + 6) f = h (b + 6) f + h (b + 2) (i * 11 + 5)) ∧ (¬ (bitP (h 29 i) f ∧ ¬ f = h (b + 2) (i * 11 + 0)) → h' (b + 6) f = h (b + 6) f)) ∧
  h' (b + 2) (i * 11 + 1) = -1 ∧ h' (b + 2) (i * 11 + 2) = -1 ∧ h' (b + 2) (i * 11 + 4) = 0 ∧ h' (b + 2) (i * 11 + 10) = h b 4
def cPts (h : AH) (b i n : Int) (h' : AH) : Prop := (∀ k x, ¬ (k = b + 6 ∧ 0 ≤ x ∧ x < n) → h' k x = h k x) ∧
  (∀ f, 0 ≤ f → f < n → (bitP (h 29 i) f ∧ ¬ f = h (b + 2) (i * 11 + 0) → h' (b + 6) f = h (b + 6) f + h (b + 2) (i * 11 + 5)) ∧ (¬ (bitP (h 29 i) f ∧ ¬ f = h (b + 2) (i * 11 + 0)) → h' (b + 6) f = h (b + 6) f))
theorem bit_z {x f : Int} (hf : 0 ≤ f ∧ f ≤ 11) : i_and (i_shr x f) 1 = 0 ↔ ¬ bitP x f := by rw [bit_n hf, bit_iff hf]
theorem ac_givePoints {b i : Int} {h : AH} {K : AO → Nat → AH → Prop} (hB : b = 5 ∨ b = 15) (hi : 0 ≤ i ∧ i ≤ 11) (hf : 0 ≤ h b 2 ∧ h b 2 ≤ 4) (hm : 0 ≤ h (b + 2) (i * 11 + 5) ∧ h (b + 2) (i * 11 + 5) ≤ 9) (hp : ∀ g, 0 ≤ g → g < h b 2 → 0 ≤ h (b + 6) g ∧ h (b + 6) g ≤ 1000000) (kk : ∀ h', cPts h b i (h b 2) h' → K (.inl none) 159 h') : AC mX6_givePoints 2 0 0 159 [(2, 25), (2, b), (0, i)] h K := by
  have hb := sh_ab hB
  refine ac_of (ls := [(2, 25), (2, b), (0, i), (9, 0), (9, 0)]) pn_X6 rfl (Nat.le_of_ble_eq_true rfl) rfl ?_
  refine aw_iconst dX6_givePoints_0 (by decide) ?_
  refine a_is3 rfl rfl dX6_givePoints_1 ?_
  refine aw_loop (fun q : Int × AV × AH => 0 ≤ q.1 ∧ q.1 ≤ h b 2 ∧ cPts h b i q.1 q.2.2 ∧ am_n2 q.2.1 = true) (fun q => (h b 2 - q.1).toNat) (fun q => AW mX6_givePoints 2 0 0 K 159 2 [(2, 25), (2, b), (0, i), (0, q.1), q.2.1] [] q.2.2) (fun q hq ih => ?_) (0, (9, 0), h) ⟨by dsimp only; omega, hf.1, ⟨fun _ _ _ => rfl, fun j a c => by dsimp only at c; omega⟩, rfl⟩
  obtain ⟨f, v, g⟩ := q
  obtain ⟨f0, f1, ⟨fr, st⟩, hv⟩ := hq
  dsimp only at f0 f1 fr st hv ih ⊢
  have g2 : g b 2 = h b 2 := fr _ _ (by omega)
  have nx : ∀ g2 v2, am_n2 v2 = true → (∀ k x, ¬ (k = b + 6 ∧ x = f) → g2 k x = g k x) → ((bitP (h 29 i) f ∧ ¬ f = h (b + 2) (i * 11 + 0) → g2 (b + 6) f = h (b + 6) f + h (b + 2) (i * 11 + 5)) ∧ (¬ (bitP (h 29 i) f ∧ ¬ f = h (b + 2) (i * 11 + 0)) → g2 (b + 6) f = h (b + 6) f)) → f < h b 2 → AW mX6_givePoints 2 0 0 K 159 60 [(2, 25), (2, b), (0, i), (0, f), v2] [] g2 := fun g2 v2 hv2 f2 s2 fl => by
    refine a_iiR3 (by omega) rfl rfl dX6_givePoints_60 ?_
    refine aw_goto 2 dX6_givePoints_63 (by decide) ?_
    refine ih (f + 1, v2, g2) ⟨by dsimp only; omega, by dsimp only; omega, ⟨fun k x a => ?_, fun j j0 j1 => ?_⟩, hv2⟩ (by dsimp only; omega)
    · dsimp only at a ⊢
      rw [f2 k x (by omega), fr k x (by omega)]
    · dsimp only at j1 ⊢
      by_cases e : j = f
      · rw [e]; exact s2
      · rw [f2 (b + 6) j (by omega)]
        exact st j j0 (by omega)
  refine a_il3 dX6_givePoints_2 ?_
  refine a_al1 (am_sh_rg hb) dX6_givePoints_3 ?_
  refine aw_get 2 dX6_givePoints_4 fl_X6_156 (am_sh_at hb) rfl ?_
  refine aw_icmp_ge 66 dX6_givePoints_7 (by decide) (fun c7 => ?_) (fun c7 => ?_)
  · refine aw_vret dX6_givePoints_66 rfl ?_
    rw [show f = h b 2 by omega] at fr st
    exact kk g ⟨fr, st⟩
  · have fl : f < h b 2 := by omega
    have e29 : g 29 i = h 29 i := fr _ _ (by omega)
    have e0 : g (b + 2) (i * 11 + 0) = h (b + 2) (i * 11 + 0) := fr _ _ (by omega)
    have e5 : g (b + 2) (i * 11 + 5) = h (b + 2) (i * 11 + 5) := fr _ _ (by omega)
    have e6 : g (b + 6) f = h (b + 6) f := fr _ _ (by omega)
    have rp := hp f f0 fl
    have bz := bit_z (x := h 29 i) (f := f) (by omega)
    refine a_al0 (by decide) dX6_givePoints_10 ?_
    refine aw_getR (r := 29) 3 rfl dX6_givePoints_11 fl_X6_22 at_25 rfl rfl ?_
    refine a_il2 dX6_givePoints_14 ?_
    refine aw_iald dX6_givePoints_15 ar_29 (by omega) ?_
    rw [e29]
    refine a_il3 dX6_givePoints_16 ?_
    refine aw_ishr dX6_givePoints_17 ?_
    refine aw_iconst dX6_givePoints_18 (by decide) ?_
    refine aw_iand dX6_givePoints_19 ?_
    refine aw_if_eq 27 dX6_givePoints_20 (by decide) (fun c20 => ?_) (fun c20 => ?_)
    · have nb : ¬ bitP (h 29 i) f := bz.mp (by assumption)
      refine aw_iconst dX6_givePoints_27 (by decide) ?_
      refine a_is4 rfl rfl dX6_givePoints_28 ?_
      refine a_il4 dX6_givePoints_30 ?_
      refine aw_if_eq_y 60 dX6_givePoints_32 (by decide) (by decide) ?_
      exact nx g (0, 0) rfl (fun _ _ _ => rfl) ⟨fun q => absurd q.1 nb, fun _ => e6⟩ fl
    · have nb : bitP (h 29 i) f := by
        by_cases z : bitP (h 29 i) f
        · exact z
        · have c9 : ¬ i_and (i_shr (h 29 i) f) 1 = 0 := by assumption
          exact absurd (bz.mpr z) c9
      refine aw_iconst dX6_givePoints_23 (by decide) ?_
      refine aw_goto 28 dX6_givePoints_24 (by decide) ?_
      refine a_is4 rfl rfl dX6_givePoints_28 ?_
      refine a_il4 dX6_givePoints_30 ?_
      refine aw_if_eq_n 60 dX6_givePoints_32 (by decide) (by decide) ?_
      refine a_il3 dX6_givePoints_35 ?_
      refine a_al1 (am_sh_rg hb) dX6_givePoints_36 ?_
      refine a_il2 dX6_givePoints_37 ?_
      refine aw_iconst dX6_givePoints_38 (by decide) ?_
      refine aw_callV 1 0 0 dX6_givePoints_39 yw_X3_get ml_X6_65 in_X3_get se_X3_get (ci := 2) rfl (am_sh_at hb) (as := [_, _]) rfl rfl ⟨by decide, by decide, by decide, Nat.le_of_ble_eq_true rfl⟩ ?_
      refine ac_get hB hi (by decide) ?_
      rw [e0]
      refine am_ci ?_
      refine aw_icmp_eq 60 dX6_givePoints_42 (by decide) (fun c42 => ?_) (fun c42 => ?_)
      · have ef : f = h (b + 2) (i * 11 + 0) := by assumption
        exact nx g (0, 1) rfl (fun _ _ _ => rfl) ⟨fun q => absurd ef q.2, fun _ => e6⟩ fl
      · have ef : ¬ f = h (b + 2) (i * 11 + 0) := by assumption
        refine a_al1 (am_sh_rg hb) dX6_givePoints_45 ?_
        refine aw_shR 14 6 hb dX6_givePoints_46 fl_X6_159 (by decide) ?_
        refine a_il3 dX6_givePoints_49 ?_
        refine aw_dup2 dX6_givePoints_50 rfl rfl ?_
        refine aw_iald dX6_givePoints_51 (am_sa_6 hb) (by omega) ?_
        rw [e6]
        refine a_al1 (am_sh_rg hb) dX6_givePoints_52 ?_
        refine a_il2 dX6_givePoints_53 ?_
        refine aw_iconst dX6_givePoints_54 (by decide) ?_
        refine aw_callV 1 0 0 dX6_givePoints_55 yw_X3_get ml_X6_65 in_X3_get se_X3_get (ci := 2) rfl (am_sh_at hb) (as := [_, _]) rfl rfl ⟨by decide, by decide, by decide, Nat.le_of_ble_eq_true rfl⟩ ?_
        refine ac_get hB hi (by decide) ?_
        rw [e5]
        refine am_ci ?_
        refine aw_iaddR (by omega) dX6_givePoints_58 ?_
        refine aw_iast dX6_givePoints_59 (am_sa_6 hb) (by omega) ?_
        refine nx _ (0, 1) rfl (fun k x a => up_ne (by omega)) ⟨fun _ => up_at _ _ _ _, fun q => absurd ⟨nb, ef⟩ q⟩ fl
def cSK (b : Int) : Nat → Int → AH → AH → Prop
  | 0, _, h, h' => h' = h
  | m + 1, i, h, h' => ∃ h1, ((¬ h (b + 2) (i * 11 + 1) = -1 ∧ h (b + 2) (i * 11 + 4) ≤ 0 → cSunk h b i h1) ∧ (¬ (¬ h (b + 2) (i * 11 + 1) = -1 ∧ h (b + 2) (i * 11 + 4) ≤ 0) → h1 = h)) ∧ cSK b m (i + 1) h1 h'
def cdOk (h : AH) (b m : Int) : Prop := (0 ≤ h b 2 ∧ h b 2 ≤ 4) ∧ (0 ≤ h b 3 ∧ h b 3 ≤ 12) ∧ (∀ x, 0 ≤ x → x < h b 3 → 0 ≤ h (b + 2) (x * 11 + 5) ∧ h (b + 2) (x * 11 + 5) ≤ 9) ∧ ∀ g, 0 ≤ g → g < h b 2 → 0 ≤ h (b + 6) g ∧ h (b + 6) g + 9 * m ≤ 1000000
theorem cdOk_sunk {h h' : AH} {b i m : Int} (hB : b = 5 ∨ b = 15) (hi : 0 ≤ i) (hl : i < h b 3) (hs : cSunk h b i h') (ho : cdOk h b (m + 1)) : cdOk h' b m ∧ h' b 3 = h b 3 := by
  obtain ⟨fr, pt, -⟩ := hs
  have e2 : h' b 2 = h b 2 := fr _ _ (by omega) (by omega)
  have e3 : h' b 3 = h b 3 := fr _ _ (by omega) (by omega)
  obtain ⟨o1, o2, o3, o4⟩ := ho
  unfold cdOk
  rw [e2, e3]
  refine ⟨⟨o1, o2, fun x x0 x1 => ?_, fun g g0 g1 => ?_⟩, rfl⟩
  · rw [fr _ _ (by omega) (by omega)]
    exact o3 x x0 x1
  · obtain ⟨p1, p2⟩ := pt g g0 g1
    have q := o4 g g0 g1
    have qm := o3 i hi hl
    by_cases z : bitP (h 29 i) g ∧ ¬ g = h (b + 2) (i * 11 + 0)
    · rw [p1 z]
      omega
    · rw [p2 z]
      omega
theorem sa2 {b : Int} {K : AO → Nat → AH → Prop} (hB : b = 5 ∨ b = 15) : ∀ (m : Nat) (i : Int) (h : AH), i + m = h b 3 → 0 ≤ i → cdOk h b m → (∀ h', cSK b m i h h' → K (.inl none) 159 h') → AW mX6_sinkAll 3 0 0 K 159 2 [(2, 25), (2, b), (0, i)] [] h
  | 0, i, h, hm, i0, ho, kk => by
    have hb := sh_ab hB
    refine a_il2 dX6_sinkAll_2 ?_
    refine a_al1 (am_sh_rg hb) dX6_sinkAll_3 ?_
    refine aw_get 3 dX6_sinkAll_4 fl_X6_58 (am_sh_at hb) rfl ?_
    refine aw_icmp_ge 62 dX6_sinkAll_7 (by decide) (fun c7 => ?_) (fun c7 => ?_)
    · refine aw_vret dX6_sinkAll_62 rfl ?_
      exact kk h rfl
    · exfalso; omega
  | m + 1, i, h, hm, i0, ho, kk => by
    have hb := sh_ab hB
    have o3 := ho.2.1
    have skip : ¬ (¬ h (b + 2) (i * 11 + 1) = -1 ∧ h (b + 2) (i * 11 + 4) ≤ 0) → AW mX6_sinkAll 3 0 0 K 159 56 [(2, 25), (2, b), (0, i)] [] h := fun q => by
      refine a_iiR2 (by omega) rfl rfl dX6_sinkAll_56 ?_
      refine aw_goto 2 dX6_sinkAll_59 (by decide) ?_
      refine sa2 hB m (i + 1) h (by omega) (by omega) ?_ (fun h' hs => kk h' ⟨h, ⟨fun a => absurd a q, fun _ => rfl⟩, hs⟩)
      obtain ⟨p1, p2, p3, p4⟩ := ho
      exact ⟨p1, p2, p3, fun g a c => by have := p4 g a c; omega⟩
    refine a_il2 dX6_sinkAll_2 ?_
    refine a_al1 (am_sh_rg hb) dX6_sinkAll_3 ?_
    refine aw_get 3 dX6_sinkAll_4 fl_X6_58 (am_sh_at hb) rfl ?_
    refine aw_icmp_ge 62 dX6_sinkAll_7 (by decide) (fun c7 => ?_) (fun c7 => ?_)
    · exfalso; omega
    · refine a_al1 (am_sh_rg hb) dX6_sinkAll_10 ?_
      refine a_il2 dX6_sinkAll_11 ?_
      refine aw_callV 2 0 0 dX6_sinkAll_12 yw_X3_floats ml_X6_61 in_X3_floats se_X3_floats (ci := 2) rfl (am_sh_at hb) (as := [_]) rfl rfl ⟨by decide, by decide, by decide, Nat.le_of_ble_eq_true rfl⟩ ?_
      refine ac_floats hB (by omega) (fun q1 => ?_) (fun q1 => ?_)
      · refine am_ci ?_
        refine aw_if_eq_n 56 dX6_sinkAll_15 (by decide) (by decide) ?_
        refine a_al1 (am_sh_rg hb) dX6_sinkAll_18 ?_
        refine a_il2 dX6_sinkAll_19 ?_
        refine aw_iconst dX6_sinkAll_20 (by decide) ?_
        refine aw_callV 1 0 0 dX6_sinkAll_21 yw_X3_get ml_X6_65 in_X3_get se_X3_get (ci := 2) rfl (am_sh_at hb) (as := [_, _]) rfl rfl ⟨by decide, by decide, by decide, Nat.le_of_ble_eq_true rfl⟩ ?_
        refine ac_get hB (by omega) (by decide) ?_
        refine am_ci ?_
        refine aw_if_gt 56 dX6_sinkAll_24 (by decide) (fun c24 => ?_) (fun c24 => ?_)
        · skip
          exact skip (fun q => by omega)
        · have hl : h (b + 2) (i * 11 + 4) ≤ 0 := by omega
          refine a_al1 (am_sh_rg hb) dX6_sinkAll_27 ?_
          refine a_il2 dX6_sinkAll_28 ?_
          refine aw_iconst dX6_sinkAll_29 (by decide) ?_
          refine aw_iconst dX6_sinkAll_30 (by decide) ?_
          refine aw_callV 1 0 0 dX6_sinkAll_31 yw_X3_set ml_X6_92 in_X3_set se_X3_set (ci := 2) rfl (am_sh_at hb) (as := [_, _, _]) rfl rfl ⟨by decide, by decide, by decide, Nat.le_of_ble_eq_true rfl⟩ ?_
          refine ac_set hB (by omega) (by decide) ?_
          have e4 : up h (b + 2) (i * 11 + 4) 0 b 4 = h b 4 := by rw [up_ne (by omega)]
          refine am_cv ?_
          refine a_al1 (am_sh_rg hb) dX6_sinkAll_34 ?_
          refine a_il2 dX6_sinkAll_35 ?_
          refine aw_bipush dX6_sinkAll_36 (by decide) ?_
          refine a_al1 (am_sh_rg hb) dX6_sinkAll_38 ?_
          refine aw_get 4 dX6_sinkAll_39 fl_X6_146 (am_sh_at hb) rfl ?_
          try simp (disch := omega) only [up_at, up_ne]
          refine aw_callV 1 0 0 dX6_sinkAll_42 yw_X3_set ml_X6_92 in_X3_set se_X3_set (ci := 2) rfl (am_sh_at hb) (as := [_, _, _]) rfl rfl ⟨by decide, by decide, by decide, Nat.le_of_ble_eq_true rfl⟩ ?_
          refine ac_set hB (by omega) (by decide) ?_
          refine am_cv ?_
          refine a_al1 (am_sh_rg hb) dX6_sinkAll_45 ?_
          refine a_il2 dX6_sinkAll_46 ?_
          refine aw_callV 2 0 0 dX6_sinkAll_47 yw_X3_takeOff ml_X6_149 in_X3_takeOff se_X3_takeOff (ci := 2) rfl (am_sh_at hb) (as := [_]) rfl rfl ⟨by decide, by decide, by decide, Nat.le_of_ble_eq_true rfl⟩ ?_
          refine ac_takeOff hB (by omega) ?_
          obtain ⟨g, hg⟩ : ∃ g, g = up (up (up (up h (b + 2) (i * 11 + 4) 0) (b + 2) (i * 11 + 10) (h b 4)) (b + 2) (i * 11 + 1) (-1)) (b + 2) (i * 11 + 2) (-1) := ⟨_, rfl⟩
          rw [← hg]
          have f1 : ∀ k x, ¬ (k = b + 2 ∧ (x = i * 11 + 1 ∨ x = i * 11 + 2 ∨ x = i * 11 + 4 ∨ x = i * 11 + 10)) → g k x = h k x := fun k x a => by rw [hg, up_ne (by omega), up_ne (by omega), up_ne (by omega), up_ne (by omega)]
          have g2 : g b 2 = h b 2 := f1 _ _ (by omega)
          have g29 : g 29 i = h 29 i := f1 _ _ (by omega)
          have g5 : g (b + 2) (i * 11 + 5) = h (b + 2) (i * 11 + 5) := f1 _ _ (by omega)
          have g0 : g (b + 2) (i * 11 + 0) = h (b + 2) (i * 11 + 0) := f1 _ _ (by omega)
          have g6 : ∀ f, g (b + 6) f = h (b + 6) f := fun f => f1 _ _ (by omega)
          refine am_cv ?_
          refine a_al0 (by decide) dX6_sinkAll_50 ?_
          refine a_al1 (am_sh_rg hb) dX6_sinkAll_51 ?_
          refine a_il2 dX6_sinkAll_52 ?_
          refine aw_callV 2 0 0 dX6_sinkAll_53 yw_X6_givePoints ml_X6_153 in_X6_givePoints se_X6_givePoints (ci := 5) rfl at_25 (as := [_, _]) rfl rfl ⟨by decide, by decide, by decide, Nat.le_of_ble_eq_true rfl⟩ ?_
          refine ac_givePoints hB (by omega) (by rw [g2]; exact ho.1) (by rw [g5]; exact ho.2.2.1 i i0 (by omega)) (fun f a c => ?_) (fun h1 hp => ?_)
          · rw [g6]
            have := ho.2.2.2 f a (by omega)
            omega
          · obtain ⟨q2, q3⟩ := hp
            rw [g2] at q2 q3
            rw [g29, g5, g0] at q3
            have hs : cSunk h b i h1 := by
              refine ⟨fun k x a c => by rw [q2 k x c, f1 k x a], fun f a c => ?_, ?_, ?_, ?_, ?_⟩
              · have := q3 f a c
                rw [g6] at this
                exact this
              · rw [q2 _ _ (by omega), hg, up_ne (by omega), up_at]
              · rw [q2 _ _ (by omega), hg, up_at]
              · rw [q2 _ _ (by omega), hg, up_ne (by omega), up_ne (by omega), up_ne (by omega), up_at]
              · rw [q2 _ _ (by omega), hg, up_ne (by omega), up_ne (by omega), up_at]
            obtain ⟨o9, e9⟩ := cdOk_sunk (m := (m : Int)) hB i0 (by omega) hs ho
            refine am_cv ?_
            refine a_iiR2 (by omega) rfl rfl dX6_sinkAll_56 ?_
            refine aw_goto 2 dX6_sinkAll_59 (by decide) ?_
            refine sa2 hB m (i + 1) h1 (by omega) (by omega) o9 (fun h' hk => kk h' ⟨h1, ⟨fun _ => hs, fun a => absurd ⟨q1, hl⟩ a⟩, hk⟩)
      · refine am_ci ?_
        refine aw_if_eq_y 56 dX6_sinkAll_15 (by decide) (by decide) ?_
        exact skip (fun q => q.1 q1)
theorem ac_sinkAll {b : Int} {h : AH} {K : AO → Nat → AH → Prop} (hB : b = 5 ∨ b = 15) (ho : cdOk h b 12) (kk : ∀ h', cSK b (h b 3).toNat 0 h h' → K (.inl none) 159 h') : AC mX6_sinkAll 3 0 0 159 [(2, 25), (2, b)] h K := by
  have hb := sh_ab hB
  have o3 := ho.2.1
  refine ac_of (ls := [(2, 25), (2, b), (9, 0)]) pn_X6 rfl (Nat.le_of_ble_eq_true rfl) rfl ?_
  refine aw_iconst dX6_sinkAll_0 (by decide) ?_
  refine a_is2 rfl rfl dX6_sinkAll_1 ?_
  refine sa2 hB (h b 3).toNat 0 h (by omega) (by omega) ?_ kk
  obtain ⟨p1, p2, p3, p4⟩ := ho
  exact ⟨p1, p2, p3, fun g a c => by have := p4 g a c; omega⟩
