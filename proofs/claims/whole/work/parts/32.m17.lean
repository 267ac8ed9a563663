/-! the model: seals that are checked, letters that are told -/
abbrev chS (h : AH) (fr f i p s : Int) : Int := if 0 < h 141 (fr + 4 + 6 * i + p) ∧ h 141 (46 + 25 * i + 0) = f then mixI s (h 141 (fr + 4 + 6 * i + p)) else s
def chP (h : AH) (fr f i : Int) : Nat → Int → Int
  | 0, s => s
  | p + 1, s => chS h fr f i p (chP h fr f i p s)
def chN (h : AH) (fr f : Int) : Nat → Int → Int
  | 0, s => s
  | i + 1, s => chP h fr f i 6 (chN h fr f i s)
theorem chP_s (h : AH) (fr f i s : Int) {p : Int} (hp : 0 ≤ p) : chP h fr f i (p + 1).toNat s = chS h fr f i p (chP h fr f i p.toNat s) := by
  rw [show (p + 1).toNat = p.toNat + 1 by omega]
  show chS h fr f i (p.toNat : Int) (chP h fr f i p.toNat s) = _
  rw [Int.toNat_of_nonneg hp]
theorem chN_s (h : AH) (fr f s : Int) {i : Int} (hi : 0 ≤ i) : chN h fr f (i + 1).toNat s = chP h fr f i 6 (chN h fr f i.toNat s) := by
  rw [show (i + 1).toNat = i.toNat + 1 by omega]
  show chP h fr f (i.toNat : Int) 6 (chN h fr f i.toNat s) = _
  rw [Int.toNat_of_nonneg hi]
theorem chS_rg {h : AH} {fr f i p s : Int} (hs : 0 ≤ s ∧ s ≤ 1000002) : 0 ≤ chS h fr f i p s ∧ chS h fr f i p s ≤ 1000002 := by
  unfold chS
  split
  · rename_i q
    exact mixI_rg hs.1 (by omega)
  · exact hs
theorem chP_rg {h : AH} {fr f i s : Int} (hs : 0 ≤ s ∧ s ≤ 1000002) : ∀ p : Nat, 0 ≤ chP h fr f i p s ∧ chP h fr f i p s ≤ 1000002
  | 0 => hs
  | p + 1 => chS_rg (chP_rg hs p)
theorem chN_rg {h : AH} {fr f s : Int} (hs : 0 ≤ s ∧ s ≤ 1000002) : ∀ i : Nat, 0 ≤ chN h fr f i s ∧ chN h fr f i s ≤ 1000002
  | 0 => hs
  | i + 1 => chP_rg (chN_rg hs i) 6
theorem ck56 {t f y : Int} {v6 v7 v8 : AV} {h : AH} {K : AO → Nat → AH → Prop} (hn : 0 ≤ h 141 3 ∧ h 141 3 ≤ 12) (hf : 0 ≤ f ∧ f ≤ 3) (hl : isLg h t) (hb : lgOk h) (hw : ∀ i p, 0 ≤ i → i < h 141 3 → 0 ≤ p → p ≤ 5 → 0 ≤ h 141 (logA h t + 4 + 6 * i + p) ∧ h 141 (logA h t + 4 + 6 * i + p) ≤ 4) (hy : 0 ≤ y ∧ y ≤ 999999) (hv : am_n2 v6 = true ∧ am_n2 v7 = true ∧ am_n2 v8 = true) (k1 : h 141 (logA h t + f) = chN h (logA h t) f (h 141 3).toNat y → K (.inl (some (0, 1))) 159 h) (k0 : ¬ h 141 (logA h t + f) = chN h (logA h t) f (h 141 3).toNat y → K (.inl (some (0, 0))) 159 h) : AW mX9_check 4 0 0 K 159 56 [(2, 140), (0, t), (0, f), (0, y), (0, logA h t), (0, y), v6, v7, v8] [] h := by
  have rA : 496 ≤ logA h t ∧ logA h t ≤ 496 + 76 * 9 := by
    obtain ⟨b4, b8⟩ := hb
    unfold logA
    omega
  obtain ⟨A, hA⟩ : ∃ A, A = logA h t := ⟨_, rfl⟩
  rw [← hA] at rA hw k1 k0 ⊢
  obtain ⟨hv6, hv7, hv8⟩ := hv
  refine aw_iconst dX9_check_56 (by decide) ?_
  refine a_is6 rfl rfl dX9_check_57 ?_
  refine aw_loop (fun q : Int × Int × AV × AV => 0 ≤ q.1 ∧ q.1 ≤ h 141 3 ∧ q.2.1 = chN h A f q.1.toNat y ∧ am_n2 q.2.2.1 = true ∧ am_n2 q.2.2.2 = true) (fun q => (h 141 3 - q.1).toNat) (fun q => AW mX9_check 4 0 0 K 159 59 [(2, 140), (0, t), (0, f), (0, y), (0, A), (0, q.2.1), (0, q.1), q.2.2.1, q.2.2.2] [] h) (fun q hq ih => ?_) (0, y, v7, v8) ⟨by dsimp only; omega, hn.1, rfl, hv7, hv8⟩
  obtain ⟨i, s, w7, w8⟩ := q
  obtain ⟨i0, i1, es, hw7, hw8⟩ := hq
  dsimp only at i0 i1 es ih hw7 hw8 ⊢
  have rs : 0 ≤ s ∧ s ≤ 1000002 := by rw [es]; exact chN_rg (by omega) _
  have e2 := chN_s h A f y i0
  refine a_il6 dX9_check_59 ?_
  refine a_al0 (by decide) dX9_check_61 ?_
  refine aw_getR (r := 141) 0 rfl dX9_check_62 fl_X9_7 at_140 rfl rfl ?_
  refine aw_iconst dX9_check_65 (by decide) ?_
  refine aw_iald dX9_check_66 ar_141 (by omega) ?_
  refine aw_icmp_ge 137 dX9_check_67 (by decide) (fun c67 => ?_) (fun c67 => ?_)
  · have ei : i = h 141 3 := by omega
    rw [ei] at es
    refine a_al0 (by decide) dX9_check_137 ?_
    refine aw_getR (r := 141) 0 rfl dX9_check_138 fl_X9_7 at_140 rfl rfl ?_
    refine a_il4 dX9_check_141 ?_
    refine a_il2 dX9_check_143 ?_
    refine aw_iaddR (by omega) dX9_check_144 ?_
    refine aw_iald dX9_check_145 ar_141 (by omega) ?_
    refine a_il5 dX9_check_146 ?_
    refine aw_icmp_ne 155 dX9_check_148 (by decide) (fun c148 => ?_) (fun c148 => ?_)
    · refine aw_iconst dX9_check_155 (by decide) ?_
      refine aw_zret dX9_check_156 rfl (by omega) ?_
      exact k0 (by omega)
    · refine aw_iconst dX9_check_151 (by decide) ?_
      refine aw_goto 156 dX9_check_152 (by decide) ?_
      refine aw_zret dX9_check_156 rfl (by omega) ?_
      exact k1 (by rw [← es]; assumption)
  · refine aw_iconst dX9_check_70 (by decide) ?_
    refine a_is7 rfl rfl dX9_check_71 ?_
    refine aw_loop (fun q : Int × Int × AV => 0 ≤ q.1 ∧ q.1 ≤ 6 ∧ q.2.1 = chP h A f i q.1.toNat s ∧ am_n2 q.2.2 = true) (fun q => (6 - q.1).toNat) (fun q => AW mX9_check 4 0 0 K 159 73 [(2, 140), (0, t), (0, f), (0, y), (0, A), (0, q.2.1), (0, i), (0, q.1), q.2.2] [] h) (fun q hq ih2 => ?_) (0, s, w8) ⟨by dsimp only; omega, by dsimp only; omega, rfl, hw8⟩
    obtain ⟨p, b, u8⟩ := q
    obtain ⟨p0, p6, eb, hu8⟩ := hq
    dsimp only at p0 p6 eb ih2 hu8 ⊢
    have rb : 0 ≤ b ∧ b ≤ 1000002 := by rw [eb]; exact chP_rg rs _
    have e3 := chP_s h A f i s p0
    have hi12 : i < 12 := by omega
    refine a_il7 dX9_check_73 ?_
    refine aw_bipush dX9_check_75 (by decide) ?_
    refine aw_icmp_ge 131 dX9_check_77 (by decide) (fun c77 => ?_) (fun c77 => ?_)
    · refine a_iiR6 (by omega) rfl rfl dX9_check_131 ?_
      refine aw_goto 59 dX9_check_134 (by decide) ?_
      refine ih (i + 1, b, (0, p), u8) ⟨by dsimp only; omega, by dsimp only; omega, ?_, rfl, hu8⟩ (by dsimp only; omega)
      dsimp only
      rw [e2, eb, show p = 6 by omega, es]
      rfl
    · have hl9 := hw i p i0 (by omega) p0 (by omega)
      refine a_al0 (by decide) dX9_check_80 ?_
      refine aw_getR (r := 141) 0 rfl dX9_check_81 fl_X9_7 at_140 rfl rfl ?_
      refine a_il4 dX9_check_84 ?_
      refine aw_iconst dX9_check_86 (by decide) ?_
      refine aw_iaddR (by omega) dX9_check_87 ?_
      refine aw_bipush dX9_check_88 (by decide) ?_
      refine a_il6 dX9_check_90 ?_
      refine aw_imulR (by omega) dX9_check_92 ?_
      refine aw_iaddR (by omega) dX9_check_93 ?_
      refine a_il7 dX9_check_94 ?_
      refine aw_iaddR (by omega) dX9_check_96 ?_
      refine aw_iald dX9_check_97 ar_141 (by omega) ?_
      refine a_is8 rfl rfl dX9_check_98 ?_
      refine a_il8 dX9_check_100 ?_
      refine aw_if_le 125 dX9_check_102 (by decide) (fun c102 => ?_) (fun c102 => ?_)
      · refine a_iiR7 (by omega) rfl rfl dX9_check_125 ?_
        refine aw_goto 73 dX9_check_128 (by decide) ?_
        have ec : chS h A f i p b = b := if_neg (fun q => by omega)
        refine ih2 (p + 1, b, (0, h 141 (A + 4 + 6 * i + p))) ⟨by dsimp only; omega, by dsimp only; omega, ?_, rfl⟩ (by dsimp only; omega)
        dsimp only
        rw [e3, ← eb, ec]
      · refine a_al0 (by decide) dX9_check_105 ?_
        refine a_il6 dX9_check_106 ?_
        refine aw_iconst dX9_check_108 (by decide) ?_
        refine aw_callV 1 0 0 dX9_check_109 yw_X9_of ml_X9_213 in_X9_of se_X9_of (ci := 8) rfl at_140 (as := [_, _]) rfl rfl ⟨by decide, by decide, by decide, Nat.le_of_ble_eq_true rfl⟩ ?_
        refine ac_of_ (by omega) (by decide) ?_
        refine am_ci ?_
        refine a_il2 dX9_check_112 ?_
        refine aw_icmp_ne 125 dX9_check_113 (by decide) (fun c113 => ?_) (fun c113 => ?_)
        · refine a_iiR7 (by omega) rfl rfl dX9_check_125 ?_
          refine aw_goto 73 dX9_check_128 (by decide) ?_
          have ec : chS h A f i p b = b := if_neg (fun q => by omega)
          refine ih2 (p + 1, b, (0, h 141 (A + 4 + 6 * i + p))) ⟨by dsimp only; omega, by dsimp only; omega, ?_, rfl⟩ (by dsimp only; omega)
          dsimp only
          rw [e3, ← eb, ec]
        · refine a_il5 dX9_check_116 ?_
          refine a_il8 dX9_check_118 ?_
          refine aw_callS 1 0 0 dX9_check_120 yw_X9_mixes ml_X9_322 sm_X9_mixes (as := [_, _]) rfl rfl ⟨by decide, by decide, by decide, Nat.le_of_ble_eq_true rfl⟩ ?_
          refine ac_mixes rb (by omega) ?_
          refine am_ci ?_
          refine a_is5 rfl rfl dX9_check_123 ?_
          refine a_iiR7 (by omega) rfl rfl dX9_check_125 ?_
          refine aw_goto 73 dX9_check_128 (by decide) ?_
          have ec : chS h A f i p b = mixI b (h 141 (A + 4 + 6 * i + p)) := if_pos (by omega)
          refine ih2 (p + 1, mixI b (h 141 (A + 4 + 6 * i + p)), (0, h 141 (A + 4 + 6 * i + p))) ⟨by dsimp only; omega, by dsimp only; omega, ?_, rfl⟩ (by dsimp only; omega)
          dsimp only
          rw [e3, ← eb, ec]
theorem logA_u {h : AH} {t v : Int} : logA (up h 140 7 v) t = logA h t := by
  unfold logA
  simp (disch := omega) only [up_ne]
theorem ac_check {t f y : Int} {h : AH} {K : AO → Nat → AH → Prop} (hn : 0 ≤ h 141 3 ∧ h 141 3 ≤ 12) (h2 : 0 ≤ h 141 2 ∧ h 141 2 ≤ 4) (hb : lgOk h) (hw : ∀ i p, isLg h t → 0 ≤ i → i < h 141 3 → 0 ≤ p → p ≤ 5 → 0 ≤ h 141 (logA h t + 4 + 6 * i + p) ∧ h 141 (logA h t + 4 + 6 * i + p) ≤ 4) (k1 : ¬ (isLg h t ∧ 0 ≤ f ∧ f < h 141 2) → K (.inl (some (0, 0))) 159 (up h 140 7 1)) (ky : isLg h t → 0 ≤ f ∧ f < h 141 2 → ¬ (0 ≤ y ∧ y ≤ 999999) → K (.inl (some (0, 0))) 159 (up h 140 7 0)) (kt : isLg h t → 0 ≤ f ∧ f < h 141 2 → 0 ≤ y ∧ y ≤ 999999 → h 141 (logA h t + f) = chN (up h 140 7 0) (logA h t) f (h 141 3).toNat y → K (.inl (some (0, 1))) 159 (up h 140 7 0)) (kf : isLg h t → 0 ≤ f ∧ f < h 141 2 → 0 ≤ y ∧ y ≤ 999999 → ¬ h 141 (logA h t + f) = chN (up h 140 7 0) (logA h t) f (h 141 3).toNat y → K (.inl (some (0, 0))) 159 (up h 140 7 0)) : AC mX9_check 4 0 0 159 [(2, 140), (0, t), (0, f), (0, y)] h K := by
  refine ac_of (ls := [(2, 140), (0, t), (0, f), (0, y), (9, 0), (9, 0), (9, 0), (9, 0), (9, 0)]) pn_X9 rfl (Nat.le_of_ble_eq_true rfl) rfl ?_
  refine a_al0 (by decide) dX9_check_0 ?_
  refine a_al0 (by decide) dX9_check_1 ?_
  refine a_il1 dX9_check_2 ?_
  refine aw_callV 2 0 0 dX9_check_3 yw_X9_logOf ml_X9_317 in_X9_logOf se_X9_logOf (ci := 8) rfl at_140 (as := [_]) rfl rfl ⟨by decide, by decide, by decide, Nat.le_of_ble_eq_true rfl⟩ ?_
  refine ac_logOf hb (fun q => ?_) (fun q => ?_)
  · have rA : 496 ≤ logA h t := by unfold logA; omega
    refine am_ci ?_
    refine aw_iconst dX9_check_6 (by decide) ?_
    refine aw_icmp_eq 22 dX9_check_7 (by decide) (fun c7 => ?_) (fun c7 => ?_)
    · exfalso; omega
    · refine a_al0 (by decide) dX9_check_10 ?_
      refine a_il2 dX9_check_11 ?_
      refine aw_callV 2 0 0 dX9_check_12 yw_X9_isFleet ml_X9_275 in_X9_isFleet se_X9_isFleet (ci := 8) rfl at_140 (as := [_]) rfl rfl ⟨by decide, by decide, by decide, Nat.le_of_ble_eq_true rfl⟩ ?_
      refine ac_isFleet h2.1 (fun q2 => ?_) (fun q2 => ?_)
      · refine am_ci ?_
        refine aw_if_eq_n 22 dX9_check_15 (by decide) (by decide) ?_
        refine aw_iconst dX9_check_18 (by decide) ?_
        refine aw_goto 23 dX9_check_19 (by decide) ?_
        refine aw_put 7 dX9_check_23 fp_X9_66 at_140 rfl ?_
        refine a_al0 (by decide) dX9_check_26 ?_
        refine aw_get 7 dX9_check_27 fl_X9_66 at_140 rfl ?_
        try simp (disch := omega) only [up_at, up_ne]
        refine aw_if_gt_n 44 dX9_check_30 (by decide) (by decide) ?_
        refine a_il3 dX9_check_33 ?_
        refine aw_iconst dX9_check_34 (by decide) ?_
        refine aw_ldcw dX9_check_35 kc_X9_321 (by decide) ?_
        refine aw_callS 1 0 0 dX9_check_38 yw_X9_isIn ml_X9_76 sm_X9_isIn (as := [_, _, _]) rfl rfl ⟨by decide, by decide, by decide, Nat.le_of_ble_eq_true rfl⟩ ?_
        refine ac_isIn (fun q3 => ?_) (fun q3 => ?_)
        · refine am_ci ?_
          refine aw_if_ne_y 46 dX9_check_41 (by decide) (by decide) ?_
          refine a_al0 (by decide) dX9_check_46 ?_
          refine a_il1 dX9_check_47 ?_
          refine aw_callV 2 0 0 dX9_check_48 yw_X9_logOf ml_X9_317 in_X9_logOf se_X9_logOf (ci := 8) rfl at_140 (as := [_]) rfl rfl ⟨by decide, by decide, by decide, Nat.le_of_ble_eq_true rfl⟩ ?_
          refine ac_logOf (lgOk_u hb) (fun q4 => ?_) (fun q4 => absurd (isLg_u.mpr q) q4)
          refine am_ci ?_
          try simp (disch := omega) only [up_at, up_ne]
          refine a_is4 rfl rfl dX9_check_51 ?_
          refine a_il3 dX9_check_53 ?_
          refine a_is5 rfl rfl dX9_check_54 ?_
          have e3 : up h 140 7 0 141 3 = h 141 3 := up_ne (by omega)
          have eA : up h 140 7 0 141 (logA h t + f) = h 141 (logA h t + f) := up_ne (by omega)
          refine ck56 (by rw [e3]; exact hn) (by omega) q4 (lgOk_u hb) (fun i p i0 i1 p0 p1 => ?_) q3 ⟨rfl, rfl, rfl⟩ (fun q5 => ?_) (fun q5 => ?_)
          · rw [logA_u, up_ne (by omega)]
            exact hw i p q i0 (by rw [← e3]; exact i1) p0 p1
          · rw [logA_u, e3, eA] at q5
            exact kt q q2 q3 q5
          · rw [logA_u, e3, eA] at q5
            exact kf q q2 q3 q5
        · refine am_ci ?_
          refine aw_if_ne_n 46 dX9_check_41 (by decide) (by decide) ?_
          refine aw_iconst dX9_check_44 (by decide) ?_
          refine aw_zret dX9_check_45 rfl (by omega) ?_
          exact ky q q2 q3
      · refine am_ci ?_
        refine aw_if_eq_y 22 dX9_check_15 (by decide) (by decide) ?_
        refine aw_iconst dX9_check_22 (by decide) ?_
        refine aw_put 7 dX9_check_23 fp_X9_66 at_140 rfl ?_
        refine a_al0 (by decide) dX9_check_26 ?_
        refine aw_get 7 dX9_check_27 fl_X9_66 at_140 rfl ?_
        try simp (disch := omega) only [up_at, up_ne]
        refine aw_if_gt_y 44 dX9_check_30 (by decide) (by decide) ?_
        refine aw_iconst dX9_check_44 (by decide) ?_
        refine aw_zret dX9_check_45 rfl (by omega) ?_
        exact k1 (fun x => q2 x.2)
  · refine am_ci ?_
    refine aw_iconst dX9_check_6 (by decide) ?_
    refine aw_icmp_eq 22 dX9_check_7 (by decide) (fun c7 => ?_) (fun c7 => ?_)
    · refine aw_iconst dX9_check_22 (by decide) ?_
      refine aw_put 7 dX9_check_23 fp_X9_66 at_140 rfl ?_
      refine a_al0 (by decide) dX9_check_26 ?_
      refine aw_get 7 dX9_check_27 fl_X9_66 at_140 rfl ?_
      try simp (disch := omega) only [up_at, up_ne]
      refine aw_if_gt_y 44 dX9_check_30 (by decide) (by decide) ?_
      refine aw_iconst dX9_check_44 (by decide) ?_
      refine aw_zret dX9_check_45 rfl (by omega) ?_
      exact k1 (fun x => q x.1)
    · exfalso; omega
theorem ac_logged {t i p : Int} {h : AH} {K : AO → Nat → AH → Prop} (hn : 0 ≤ h 141 3 ∧ h 141 3 ≤ 12) (hb : lgOk h) (k1 : ¬ (isLg h t ∧ (0 ≤ i ∧ i < h 141 3) ∧ 0 ≤ p ∧ p ≤ 5) → K (.inl (some (0, 0))) 159 (up h 140 7 1)) (k0 : isLg h t → 0 ≤ i ∧ i < h 141 3 → 0 ≤ p ∧ p ≤ 5 → K (.inl (some (0, h 141 (logA h t + 4 + 6 * i + p)))) 159 (up h 140 7 0)) : AC mX9_logged 4 0 0 159 [(2, 140), (0, t), (0, i), (0, p)] h K := by
  refine ac_of (ls := [(2, 140), (0, t), (0, i), (0, p)]) pn_X9 rfl (Nat.le_of_ble_eq_true rfl) rfl ?_
  refine a_al0 (by decide) dX9_logged_0 ?_
  refine a_al0 (by decide) dX9_logged_1 ?_
  refine a_il1 dX9_logged_2 ?_
  refine aw_callV 2 0 0 dX9_logged_3 yw_X9_logOf ml_X9_317 in_X9_logOf se_X9_logOf (ci := 8) rfl at_140 (as := [_]) rfl rfl ⟨by decide, by decide, by decide, Nat.le_of_ble_eq_true rfl⟩ ?_
  refine ac_logOf hb (fun q => ?_) (fun q => ?_)
  · have rA : 496 ≤ logA h t ∧ logA h t ≤ 496 + 76 * 9 := by
      obtain ⟨b4, b8⟩ := hb
      unfold logA
      omega
    refine am_ci ?_
    refine aw_iconst dX9_logged_6 (by decide) ?_
    refine aw_icmp_eq 29 dX9_logged_7 (by decide) (fun c7 => ?_) (fun c7 => ?_)
    · exfalso; omega
    · refine a_al0 (by decide) dX9_logged_10 ?_
      refine a_il2 dX9_logged_11 ?_
      refine aw_callV 2 0 0 dX9_logged_12 yw_X9_isShip ml_X9_296 in_X9_isShip se_X9_isShip (ci := 8) rfl at_140 (as := [_]) rfl rfl ⟨by decide, by decide, by decide, Nat.le_of_ble_eq_true rfl⟩ ?_
      refine ac_isShip hn.1 (fun q2 => ?_) (fun q2 => ?_)
      · refine am_ci ?_
        refine aw_if_eq_n 29 dX9_logged_15 (by decide) (by decide) ?_
        refine a_il3 dX9_logged_18 ?_
        refine aw_callS 2 0 0 dX9_logged_19 yw_X9_isPulse ml_X9_311 sm_X9_isPulse (as := [_]) rfl rfl ⟨by decide, by decide, by decide, Nat.le_of_ble_eq_true rfl⟩ ?_
        refine ac_isPulse (fun q3 => ?_) (fun q3 => ?_)
        · refine am_ci ?_
          refine aw_if_eq_n 29 dX9_logged_22 (by decide) (by decide) ?_
          refine aw_iconst dX9_logged_25 (by decide) ?_
          refine aw_goto 30 dX9_logged_26 (by decide) ?_
          refine aw_put 7 dX9_logged_30 fp_X9_66 at_140 rfl ?_
          refine a_al0 (by decide) dX9_logged_33 ?_
          refine aw_get 7 dX9_logged_34 fl_X9_66 at_140 rfl ?_
          try simp (disch := omega) only [up_at, up_ne]
          refine aw_if_le_y 44 dX9_logged_37 (by decide) (by decide) ?_
          refine a_al0 (by decide) dX9_logged_44 ?_
          refine aw_getR (r := 141) 0 rfl dX9_logged_45 fl_X9_7 at_140 rfl rfl ?_
          try simp (disch := omega) only [up_at, up_ne]
          refine a_al0 (by decide) dX9_logged_48 ?_
          refine a_il1 dX9_logged_49 ?_
          refine aw_callV 2 0 0 dX9_logged_50 yw_X9_logOf ml_X9_317 in_X9_logOf se_X9_logOf (ci := 8) rfl at_140 (as := [_]) rfl rfl ⟨by decide, by decide, by decide, Nat.le_of_ble_eq_true rfl⟩ ?_
          refine ac_logOf (lgOk_u hb) (fun q4 => ?_) (fun q4 => absurd (isLg_u.mpr q) q4)
          rw [logA_u]
          refine am_ci ?_
          try simp (disch := omega) only [up_at, up_ne]
          refine aw_iconst dX9_logged_53 (by decide) ?_
          refine aw_iaddR (by omega) dX9_logged_54 ?_
          refine aw_bipush dX9_logged_55 (by decide) ?_
          refine a_il2 dX9_logged_57 ?_
          refine aw_imulR (by omega) dX9_logged_58 ?_
          refine aw_iaddR (by omega) dX9_logged_59 ?_
          refine a_il3 dX9_logged_60 ?_
          refine aw_iaddR (by omega) dX9_logged_61 ?_
          refine aw_iald dX9_logged_62 ar_141 (by omega) ?_
          try simp (disch := omega) only [up_at, up_ne]
          refine aw_iret dX9_logged_63 rfl ?_
          exact k0 q q2 q3
        · refine am_ci ?_
          refine aw_if_eq_y 29 dX9_logged_22 (by decide) (by decide) ?_
          refine aw_iconst dX9_logged_29 (by decide) ?_
          refine aw_put 7 dX9_logged_30 fp_X9_66 at_140 rfl ?_
          refine a_al0 (by decide) dX9_logged_33 ?_
          refine aw_get 7 dX9_logged_34 fl_X9_66 at_140 rfl ?_
          try simp (disch := omega) only [up_at, up_ne]
          refine aw_if_le_n 44 dX9_logged_37 (by decide) (by decide) ?_
          refine aw_iconst dX9_logged_40 (by decide) ?_
          refine aw_goto 63 dX9_logged_41 (by decide) ?_
          refine aw_iret dX9_logged_63 rfl ?_
          exact k1 (fun x => q3 x.2.2)
      · refine am_ci ?_
        refine aw_if_eq_y 29 dX9_logged_15 (by decide) (by decide) ?_
        refine aw_iconst dX9_logged_29 (by decide) ?_
        refine aw_put 7 dX9_logged_30 fp_X9_66 at_140 rfl ?_
        refine a_al0 (by decide) dX9_logged_33 ?_
        refine aw_get 7 dX9_logged_34 fl_X9_66 at_140 rfl ?_
        try simp (disch := omega) only [up_at, up_ne]
        refine aw_if_le_n 44 dX9_logged_37 (by decide) (by decide) ?_
        refine aw_iconst dX9_logged_40 (by decide) ?_
        refine aw_goto 63 dX9_logged_41 (by decide) ?_
        refine aw_iret dX9_logged_63 rfl ?_
        exact k1 (fun x => q2 x.2.1)
  · refine am_ci ?_
    refine aw_iconst dX9_logged_6 (by decide) ?_
    refine aw_icmp_eq 29 dX9_logged_7 (by decide) (fun c7 => ?_) (fun c7 => ?_)
    · refine aw_iconst dX9_logged_29 (by decide) ?_
      refine aw_put 7 dX9_logged_30 fp_X9_66 at_140 rfl ?_
      refine a_al0 (by decide) dX9_logged_33 ?_
      refine aw_get 7 dX9_logged_34 fl_X9_66 at_140 rfl ?_
      try simp (disch := omega) only [up_at, up_ne]
      refine aw_if_le_n 44 dX9_logged_37 (by decide) (by decide) ?_
      refine aw_iconst dX9_logged_40 (by decide) ?_
      refine aw_goto 63 dX9_logged_41 (by decide) ?_
      refine aw_iret dX9_logged_63 rfl ?_
      exact k1 (fun x => q x.1)
    · exfalso; omega
