/-! changes of the class but a turn: seals, winds, undo, slots -/
/-- a row of an array of rows -/
def rwA (h : AH) (k e : Int) : AH := fun _ x => h k (1256 * e + x)
/-- the histories -/
def HI (h : AH) : Prop := (0 ≤ h 32 1 ∧ h 32 1 ≤ 7) ∧ (0 ≤ h 32 2 ∧ h 32 2 ≤ 8) ∧ h 140 6 = h 32 2 ∧ ∀ e, 0 ≤ e → e < h 32 2 → SR h (35 + 10 * ((h 32 1 - h 32 2 + e) % 8)) (rwA h 144 e)
/-- the slots -/
def SV (h : AH) : Prop := ∀ s, 0 ≤ s → s ≤ 1 → (h 137 s = 0 ↔ h 146 s = 0) ∧ (¬ h 146 s = 0 → SR h (117 + 10 * s) (rwA h 145 s))
theorem HI_kp {h h' : AH} (hH : HI h) (hS : SR h 5 h) (c1 : ∀ k x, 35 ≤ k → k < 115 → ¬ (35 + 10 * h 32 1 ≤ k ∧ k < 45 + 10 * h 32 1) → h' k x = h k x) (c2 : shEq h 5 h' (35 + 10 * h 32 1)) (c3 : h' 32 1 = (h 32 1 + 1) % 8) (c4 : h' 32 2 = if h 32 2 + 1 < 8 then h 32 2 + 1 else 8) (m1 : h' 140 6 = if h 140 6 = 8 then 8 else h 140 6 + 1) (m2 : ∀ e j, 0 ≤ e → e < h' 140 6 → 0 ≤ j → j < 1256 → h' 144 (1256 * e + j) = if e = h' 140 6 - 1 then h 141 j else h 144 (1256 * (if h 140 6 = 8 then e + 1 else e) + j)) : HI h' := by
  obtain ⟨n1, n2, n6, hh⟩ := hH
  have k6 : h' 140 6 = h' 32 2 := by rw [m1, c4, n6]; split <;> split <;> omega
  have kk : h' 32 2 = if h 32 2 = 8 then 8 else h 32 2 + 1 := by rw [← k6, m1, n6]
  refine ⟨by omega, by rw [kk]; split <;> omega, k6, fun e e0 e1 => ?_⟩
  rw [k6, n6] at m2
  by_cases z : e = h' 32 2 - 1
  · have ei : (h' 32 1 - h' 32 2 + e) % 8 = h 32 1 := by rw [z, c3]; omega
    rw [ei]
    refine SR_mv c2 (fun x x0 x1 => ?_) hS
    show h' 144 (1256 * e + x) = _
    rw [m2 e x e0 e1 x0 x1, if_pos z]
  · obtain ⟨e', he'⟩ : ∃ e', e' = if h 32 2 = 8 then e + 1 else e := ⟨_, rfl⟩
    have r : 0 ≤ e' ∧ e' < h 32 2 := by
      rw [he']
      split at kk
      · rw [if_pos (by assumption)]; omega
      · rw [if_neg (by assumption)]; omega
    have ei : (h' 32 1 - h' 32 2 + e) % 8 = (h 32 1 - h 32 2 + e') % 8 := by
      rw [he', c3]
      split at kk
      · rw [if_pos (by assumption)]; omega
      · rw [if_neg (by assumption)]; omega
    have ne : (h 32 1 - h 32 2 + e') % 8 ≠ h 32 1 := by
      rw [he']
      split at kk
      · rw [if_pos (by assumption)]; omega
      · rw [if_neg (by assumption)]; omega
    rw [ei]
    refine SR_mv (shEq_sm (fun k x a c => c1 k x (by omega) (by omega) (by omega))) (fun x x0 x1 => ?_) (hh e' r.1 r.2)
    show h' 144 (1256 * e + x) = h 144 (1256 * e' + x)
    rw [m2 e x e0 e1 x0 x1, if_neg z, he']
theorem HI_bk {h h' : AH} (hH : HI h) (hp : 0 < h 32 2) (c1 : ∀ k x, 35 ≤ k → k < 115 → h' k x = h k x) (c3 : h' 32 1 = (h 32 1 + 7) % 8) (c4 : h' 32 2 = h 32 2 - 1) (m1 : h' 140 6 = h 140 6 - 1) (m2 : ∀ x, h' 144 x = h 144 x) : HI h' := by
  obtain ⟨n1, n2, n6, hh⟩ := hH
  refine ⟨by omega, by omega, by omega, fun e e0 e1 => ?_⟩
  have ei : (h' 32 1 - h' 32 2 + e) % 8 = (h 32 1 - h 32 2 + e) % 8 := by rw [c3, c4]; omega
  rw [ei]
  refine SR_mv (shEq_sm (fun k x a c => c1 k x (by omega) (by omega))) (fun x x0 x1 => ?_) (hh e e0 (by omega))
  exact m2 _
theorem HI_top {h : AH} (hH : HI h) (hp : 0 < h 32 2) : SR h (35 + 10 * ((h 32 1 + 7) % 8)) (rwA h 144 (h 140 6 - 1)) := by
  obtain ⟨n1, n2, n6, hh⟩ := hH
  have q := hh (h 32 2 - 1) (by omega) (by omega)
  rw [show (h 32 1 - h 32 2 + (h 32 2 - 1)) % 8 = (h 32 1 + 7) % 8 by omega] at q
  rw [n6]
  exact q
theorem HI_mv {h h' : AH} (hH : HI h) (c1 : ∀ k x, 32 ≤ k → k < 115 → h' k x = h k x) (m1 : h' 140 6 = h 140 6) (m2 : ∀ x, h' 144 x = h 144 x) : HI h' := by
  obtain ⟨n1, n2, n6, hh⟩ := hH
  rw [← c1 32 1 (by decide) (by decide), ← c1 32 2 (by decide) (by decide)] at hh
  rw [← c1 32 1 (by decide) (by decide)] at n1
  rw [← c1 32 2 (by decide) (by decide)] at n2 n6
  exact ⟨n1, n2, by omega, fun e e0 e1 => SR_mv (g := rwA h 144 e) (shEq_sm (fun k x a c => c1 k x (by omega) (by omega))) (fun x x0 x1 => m2 _) (hh e e0 e1)⟩
theorem SV_mv {h h' : AH} (hV : SV h) (c1 : ∀ k x, 117 ≤ k → k < 138 → h' k x = h k x) (m1 : ∀ x, h' 145 x = h 145 x) (m2 : ∀ x, h' 146 x = h 146 x) : SV h' := fun s s0 s1 => by
  obtain ⟨a, c⟩ := hV s s0 s1
  rw [c1 137 s (by decide) (by decide), m2 s]
  exact ⟨a, fun z => SR_mv (g := rwA h 145 s) (shEq_sm (fun k x a c => c1 k x (by omega) (by omega))) (fun x x0 x1 => m1 _) (c z)⟩
theorem SR_up {h h' g : AH} (hS : SR h 5 g) (c1 : ∀ k x, 5 ≤ k → k < 15 → h' k x = h k x) : SR h' 5 g := SR_eqh (shEq_sm (fun k x a c => c1 k x a c)) hS
theorem cx_setWind {d f : Int} {h : AH} {K : AO → Nat → AH → Prop} (hS : SR h 5 h) (hH : HI h) (k1 : ¬ ((0 ≤ d ∧ d ≤ 7) ∧ 0 ≤ f ∧ f ≤ 9) → K (.inr xA) 159 h) (k0 : (0 ≤ d ∧ d ≤ 7) → 0 ≤ f ∧ f ≤ 9 → ∀ h1, cKept h h1 → K (.inl (some (0, 10 * h 141 5 + h 141 6))) 159 (up (up h1 5 5 d) 5 6 f)) : AC mX8_setWind 6 1 6 159 [(2, 0), (0, d), (0, f)] h K := by
  obtain ⟨-, -, -, -, -, d5, d6⟩ := hS.1.1
  obtain ⟨⟨-, -, t5, t6⟩, -⟩ := hS.2.2.2.1
  have J39 : (0 ≤ d ∧ d ≤ 7) → 0 ≤ f ∧ f ≤ 9 → AW mX8_setWind 6 1 6 K 159 39 [(2, 0), (0, d), (0, f), (9, 0)] [] h := fun qd qf => by
    refine a_al0 (by decide) dX8_setWind_39 ?_
    refine aw_getR (r := 32) 5 rfl dX8_setWind_40 fl_X8_41 at_0 rfl rfl ?_
    refine a_al0 (by decide) dX8_setWind_43 ?_
    refine aw_getR (r := 5) 2 rfl dX8_setWind_44 fl_X8_24 at_0 rfl rfl ?_
    refine aw_callV 4 0 0 dX8_setWind_47 yw_X1_keep ml_X8_104 in_X1_keep se_X1_keep (ci := 1) rfl at_32 (as := [_]) rfl rfl ⟨by decide, by decide, by decide, Nat.le_of_ble_eq_true rfl⟩ ?_
    refine ac_keep hH.1 hH.2.1 (fun h1 q => ?_)
    have k9 := k0 qd qf h1 q
    rw [← d5, ← d6, ← q.1 5 5 (by have := hH.1; omega) (by omega), ← q.1 5 6 (by have := hH.1; omega) (by omega)] at k9
    have r5 : h1 5 5 = h 141 5 := by rw [q.1 5 5 (by have := hH.1; omega) (by omega), d5]
    have r6 : h1 5 6 = h 141 6 := by rw [q.1 5 6 (by have := hH.1; omega) (by omega), d6]
    refine am_cv ?_
    refine aw_bipush dX8_setWind_50 (by decide) ?_
    refine a_al0 (by decide) dX8_setWind_52 ?_
    refine aw_getR (r := 5) 2 rfl dX8_setWind_53 fl_X8_24 at_0 rfl rfl ?_
    try simp (disch := omega) only [up_at, up_ne]
    refine aw_get 5 dX8_setWind_56 fl_X8_120 at_5 rfl ?_
    try simp (disch := omega) only [up_at, up_ne]
    refine aw_imulR (by omega) dX8_setWind_59 ?_
    refine a_al0 (by decide) dX8_setWind_60 ?_
    refine aw_getR (r := 5) 2 rfl dX8_setWind_61 fl_X8_24 at_0 rfl rfl ?_
    try simp (disch := omega) only [up_at, up_ne]
    refine aw_get 6 dX8_setWind_64 fl_X8_123 at_5 rfl ?_
    try simp (disch := omega) only [up_at, up_ne]
    refine aw_iaddR (by omega) dX8_setWind_67 ?_
    refine a_is3 rfl rfl dX8_setWind_68 ?_
    refine a_al0 (by decide) dX8_setWind_69 ?_
    refine aw_getR (r := 5) 2 rfl dX8_setWind_70 fl_X8_24 at_0 rfl rfl ?_
    try simp (disch := omega) only [up_at, up_ne]
    refine a_il1 dX8_setWind_73 ?_
    refine aw_put 5 dX8_setWind_74 fp_X8_120 at_5 rfl ?_
    refine a_al0 (by decide) dX8_setWind_77 ?_
    refine aw_getR (r := 5) 2 rfl dX8_setWind_78 fl_X8_24 at_0 rfl rfl ?_
    try simp (disch := omega) only [up_at, up_ne]
    refine a_il2 dX8_setWind_81 ?_
    refine aw_put 6 dX8_setWind_82 fp_X8_123 at_5 rfl ?_
    refine a_il3 dX8_setWind_85 ?_
    refine aw_iret dX8_setWind_86 rfl ?_
    exact k9
  refine ac_of (ls := [(2, 0), (0, d), (0, f), (9, 0)]) pn_X8 rfl (Nat.le_of_ble_eq_true rfl) rfl ?_
  refine a_il1 dX8_setWind_0 ?_
  refine aw_callS 1 0 0 dX8_setWind_1 yw_X8_isDirection ml_X8_201 sm_X8_isDirection (as := [_]) rfl rfl ⟨by decide, by decide, by decide, Nat.le_of_ble_eq_true rfl⟩ ?_
  refine ac_isDirection (fun q => ?_) (fun q => ?_)
  · refine am_ci ?_
    refine aw_if_ne_y 18 dX8_setWind_4 (by decide) (by decide) ?_
    refine a_il2 dX8_setWind_18 ?_
    refine aw_if_lt 28 dX8_setWind_19 (by decide) (fun c19 => ?_) (fun c19 => ?_)
    · refine aw_throwW (i := 30) rfl rfl dX8_setWind_28 dX8_setWind_31 dX8_setWind_32 dX8_setWind_35 dX8_setWind_38 tw_IllegalArgumentException rfl ⟨rfl, rfl⟩ ⟨by decide, by decide, by decide, rfl⟩ ?_
      exact k1 (by omega)
    · refine a_il2 dX8_setWind_22 ?_
      refine aw_bipush dX8_setWind_23 (by decide) ?_
      refine aw_icmp_le 39 dX8_setWind_25 (by decide) (fun c25 => ?_) (fun c25 => ?_)
      · skip
        exact J39 q (by omega)
      · refine aw_throwW (i := 30) rfl rfl dX8_setWind_28 dX8_setWind_31 dX8_setWind_32 dX8_setWind_35 dX8_setWind_38 tw_IllegalArgumentException rfl ⟨rfl, rfl⟩ ⟨by decide, by decide, by decide, rfl⟩ ?_
        exact k1 (by omega)
  · refine am_ci ?_
    refine aw_if_ne_n 18 dX8_setWind_4 (by decide) (by decide) ?_
    refine aw_throwW (i := 29) rfl rfl dX8_setWind_7 dX8_setWind_10 dX8_setWind_11 dX8_setWind_14 dX8_setWind_17 tw_IllegalArgumentException rfl ⟨rfl, rfl⟩ ⟨by decide, by decide, by decide, rfl⟩ ?_
    exact k1 (by omega)
theorem slP_z {g : AH} {f i s : Int} (hz : ¬ fSail g f i) : ∀ p : Nat, slP g f i p s = s
  | 0 => rfl
  | p + 1 => by
    show slS g f i p (slP g f i p s) = s
    unfold slS
    rw [if_neg hz, slP_z hz p]
theorem slP_o {g : AH} {f i s o : Int} (hf : fSail g f i) (hz : ∀ p, 0 ≤ p → p ≤ 5 → cLt o p = g 141 (46 + 25 * i + (11 + p))) : ∀ p : Nat, p ≤ 6 → csP o p s = slP g f i p s
  | 0, _ => rfl
  | p + 1, hp => by
    show mixI (csP o p s) (cLt o p) = slS g f i p (slP g f i p s)
    unfold slS
    rw [if_pos hf, hz p (by omega) (by omega), slP_o hf hz p (by omega)]
theorem SR_byN {h g : AH} {f y : Int} (hS : SR h 5 g) : ∀ i : Nat, i ≤ g 141 3 → csN h 5 (g 141 4) f i y = slN g f i y
  | 0, _ => rfl
  | i + 1, hi => by
    have e := SR_lg (t := g 141 4) hS
    obtain ⟨s1, s2, s3, s4⟩ := hS.1.2.1 i (by omega) (by omega)
    have s0 := s1 0 (by decide) (by decide)
    have fe := SR_fl (f := f) hS ⟨show 0 ≤ (i : Int) by omega, by omega⟩
    have lt := hS.2.2.2.1.2.1 i (by omega) (by omega)
    have eo : cOrI h 5 (g 141 4) i = if h 7 ((i : Int) * 11 + 1) = -1 then 0 else h 8 i := by
      unfold cOrI
      rw [if_neg (fun q => by have := e.mp q; unfold isLg at this; omega)]
      rfl
    show (if ¬ cOrI h 5 (g 141 4) i = 0 ∧ h (5 + 2) ((i : Int) * 11 + 0) = f then csP (cOrI h 5 (g 141 4) i) 6 (csN h 5 (g 141 4) f i y) else csN h 5 (g 141 4) f i y) = slP g f i 6 (slN g f i y)
    rw [SR_byN hS i (by omega), s0, eo]
    by_cases z : fSail g f i
    · have z1 : ¬ h 7 ((i : Int) * 11 + 1) = -1 := s2.mp z.1
      have z0 : ¬ h 8 i = 0 := fun w => by
        have q := s4 0 (by decide) (by decide)
        rw [show h (5 + 3) (i : Int) = 0 from w, cLt_0 (by decide)] at q
        have := (lt.2 0 (by decide) (by decide)).1
        omega
      rw [if_neg z1, if_pos ⟨z0, z.2⟩]
      exact slP_o z (fun p p0 p1 => s4 p p0 p1) 6 (Nat.le_refl _)
    · rw [slP_z z]
      refine if_neg (fun q => z ?_)
      unfold fSail
      refine ⟨s2.mpr (fun w => q.1 (if_pos w)), q.2⟩
