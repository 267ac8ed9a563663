/-! the model: winds, courses -/
theorem ac_bestWind {f : Int} {h : AH} {K : AO → Nat → AH → Prop} (ho : tOk h) (k1 : ¬ (0 ≤ f ∧ f < h 141 2) → K (.inl (some (0, 0))) 159 (up h 140 7 1)) (k0 : 0 ≤ f ∧ f < h 141 2 → ∀ (F : Int → AH) (h' : AH), (∀ d, 0 ≤ d → d ≤ 7 → Runs (up h 141 5 d 141) 0 (F d)) → Tri (up h 140 7 0) h' → K (.inl (some (0, (pick (fun d => sumN (hulN (F d) f) (h 141 3).toNat) 0 0 8).1))) 159 h') : AC mX9_bestWind 9 0 0 159 [(2, 140), (0, f)] h K := by
  have hn := ho.2.2.1
  refine ac_of (ls := [(2, 140), (0, f), (9, 0), (9, 0), (9, 0), (9, 0)]) pn_X9 rfl (Nat.le_of_ble_eq_true rfl) rfl ?_
  refine a_al0 (by decide) dX9_bestWind_0 ?_
  refine a_al0 (by decide) dX9_bestWind_1 ?_
  refine a_il1 dX9_bestWind_2 ?_
  refine aw_callV 2 0 0 dX9_bestWind_3 yw_X9_isFleet ml_X9_275 in_X9_isFleet se_X9_isFleet (ci := 8) rfl at_140 (as := [_]) rfl rfl ⟨by decide, by decide, by decide, Nat.le_of_ble_eq_true rfl⟩ ?_
  refine ac_isFleet ho.2.2.2.2.1.1 (fun q => ?_) (fun q => ?_)
  · refine am_ci ?_
    refine aw_if_eq_n 13 dX9_bestWind_6 (by decide) (by decide) ?_
    refine aw_iconst dX9_bestWind_9 (by decide) ?_
    refine aw_goto 14 dX9_bestWind_10 (by decide) ?_
    refine aw_put 7 dX9_bestWind_14 fp_X9_66 at_140 rfl ?_
    refine a_al0 (by decide) dX9_bestWind_17 ?_
    refine aw_get 7 dX9_bestWind_18 fl_X9_66 at_140 rfl ?_
    try simp (disch := omega) only [up_at, up_ne]
    refine aw_if_le_y 26 dX9_bestWind_21 (by decide) (by decide) ?_
    refine aw_iconst dX9_bestWind_26 (by decide) ?_
    refine a_is2 rfl rfl dX9_bestWind_27 ?_
    refine aw_iconst dX9_bestWind_28 (by decide) ?_
    refine a_is3 rfl rfl dX9_bestWind_29 ?_
    refine aw_iconst dX9_bestWind_30 (by decide) ?_
    refine a_is4 rfl rfl dX9_bestWind_31 ?_
    obtain ⟨h0, hh0⟩ : ∃ h0, h0 = up h 140 7 0 := ⟨_, rfl⟩
    have ho0 : tOk h0 := by rw [hh0]; exact tOk_th ho
    have n0 : h0 141 3 = h 141 3 := by rw [hh0, up_ne (by omega)]
    have r0 : ∀ x, h0 141 x = h 141 x := fun x => by rw [hh0, up_ne (by omega)]
    rw [← hh0] at k0 ⊢
    refine aw_loop (fun q : Int × Int × Int × AV × AH => 0 ≤ q.1 ∧ q.1 ≤ 8 ∧ am_n2 q.2.2.2.1 = true ∧ Tri h0 q.2.2.2.2 ∧ ∃ F : Int → AH, (∀ d, 0 ≤ d → d < q.1 → Runs (up h 141 5 d 141) 0 (F d)) ∧ (q.2.1, q.2.2.1) = pick (fun d => sumN (hulN (F d) f) (h 141 3).toNat) 0 0 (q.1 - 0).toNat) (fun q => (8 - q.1).toNat) (fun q => AW mX9_bestWind 9 0 0 K 159 33 [(2, 140), (0, f), (0, q.2.1), (0, q.2.2.1), (0, q.1), q.2.2.2.1] [] q.2.2.2.2) (fun q hq ih => ?_) (0, 0, -1, (9, 0), h0) ⟨by dsimp only; omega, by dsimp only; omega, rfl, Tri_refl h0, (fun _ => h0), fun l l0 l1 => by dsimp only at l1; omega, rfl⟩
    obtain ⟨l, b, m, v, g⟩ := q
    obtain ⟨l1, l5, hv, hT, F, hF, hP⟩ := hq
    dsimp only at l1 l5 hv hT hF hP ih ⊢
    refine a_il4 dX9_bestWind_33 ?_
    refine aw_bipush dX9_bestWind_35 (by decide) ?_
    refine aw_icmp_ge 98 dX9_bestWind_37 (by decide) (fun c37 => ?_) (fun c37 => ?_)
    · refine a_il2 dX9_bestWind_98 ?_
      refine aw_iret dX9_bestWind_99 rfl ?_
      have e5 : l = 8 := by omega
      subst e5
      have k9 := k0 q F g (fun l a b => hF l a (by omega)) hT
      rw [show b = (pick (fun d => sumN (hulN (F d) f) (h 141 3).toNat) 0 0 8).1 from congrArg Prod.fst hP]
      exact k9
    · refine a_al0 (by decide) dX9_bestWind_40 ?_
      refine aw_getR (r := 143) 2 rfl dX9_bestWind_41 fl_X9_16 at_140 rfl rfl ?_
      try simp (disch := omega) only [up_at, up_ne]
      refine aw_iconst dX9_bestWind_44 (by decide) ?_
      refine a_al0 (by decide) dX9_bestWind_45 ?_
      refine aw_getR (r := 141) 0 rfl dX9_bestWind_46 fl_X9_7 at_140 rfl rfl ?_
      try simp (disch := omega) only [up_at, up_ne]
      refine aw_iconst dX9_bestWind_49 (by decide) ?_
      refine aw_callS 1 0 0 dX9_bestWind_50 yw_X9_copies ml_X9_72 sm_X9_copies (as := [_, _, _, _]) rfl rfl ⟨by decide, by decide, by decide, Nat.le_of_ble_eq_true rfl⟩ ?_
      refine ac_copies ar_143 ar_141 (by decide) (by omega) (by omega) (by omega) ?_
      refine am_cv ?_
      refine a_al0 (by decide) dX9_bestWind_53 ?_
      refine aw_getR (r := 141) 0 rfl dX9_bestWind_54 fl_X9_7 at_140 rfl rfl ?_
      try simp (disch := omega) only [up_at, up_ne]
      refine aw_iconst dX9_bestWind_57 (by decide) ?_
      refine a_il4 dX9_bestWind_58 ?_
      refine aw_iast dX9_bestWind_60 ar_141 (by omega) ?_
      refine a_al0 (by decide) dX9_bestWind_61 ?_
      refine aw_iconst dX9_bestWind_62 (by decide) ?_
      refine aw_callV 7 0 0 dX9_bestWind_63 yw_X9_goesOn ml_X9_325 in_X9_goesOn se_X9_goesOn (ci := 8) rfl at_140 (as := [_]) rfl rfl ⟨by decide, by decide, by decide, Nat.le_of_ble_eq_true rfl⟩ ?_
      have er : ∀ x, 0 ≤ x → x < 1256 → up (cpy g 143 0 141 0 1256) 141 5 l 141 x = up h 141 5 l 141 x := fun x a b => by
        by_cases e : x = 5
        · rw [e, up_at, up_at]
        · rw [up_ne (by omega), up_ne (by omega), cpy_ne (by decide), hT.1 141 x (by decide) (by decide) (by decide) (by omega), r0]
      have hok : tOk (up (cpy g 143 0 141 0 1256) 141 5 l) := tOk_eqr er (tOk_wind ⟨by omega, by omega⟩ ho)
      refine ac_goesOn hok (fun g' hg => ?_)
      have hO := GoesOn_ok hok hg
      have n1 : up (cpy g 143 0 141 0 1256) 141 5 l 141 3 = h 141 3 := by rw [er 3 (by decide) (by decide), up_ne (by omega)]
      rw [n1] at hO
      refine am_cv ?_
      refine a_al0 (by decide) dX9_bestWind_66 ?_
      refine a_il1 dX9_bestWind_67 ?_
      refine aw_callV 4 0 0 dX9_bestWind_68 yw_X9_hullsOf ml_X9_305 in_X9_hullsOf se_X9_hullsOf (ci := 8) rfl at_140 (as := [_]) rfl rfl ⟨by decide, by decide, by decide, Nat.le_of_ble_eq_true rfl⟩ ?_
      refine ac_hullsOf (by rw [hO.2.1]; exact hn) (fun x x0 x1 => ?_) ?_
      · have := hO.2.2.2 x x0 (by omega)
        omega
      rw [hO.2.1]
      refine am_ci ?_
      try simp (disch := omega) only [up_at, up_ne]
      refine a_is5 rfl rfl dX9_bestWind_71 ?_
      refine a_al0 (by decide) dX9_bestWind_73 ?_
      refine aw_callV 2 0 0 dX9_bestWind_74 yw_X9_putsBack ml_X9_331 in_X9_putsBack se_X9_putsBack (ci := 8) rfl at_140 (as := []) rfl rfl ⟨by decide, by decide, by decide, Nat.le_of_ble_eq_true rfl⟩ ?_
      refine ac_putsBack ?_
      have hT3 : Tri h0 (cpy g' 141 0 143 0 1256) := by
        refine Tri_trans hT (Tri_back hok (fun k x a b => ?_) (fun x a b => ?_) hg)
        · rw [up_ne (by omega), cpy_ne b]
        · rw [up_ne (by omega)]
          unfold cpy
          rw [if_pos (by omega)]
          congr 1
          omega
      obtain ⟨F2, hF2⟩ : ∃ F2 : Int → AH, F2 = fun q => if q = l then g' else F q := ⟨_, rfl⟩
      have hR : ∀ q, 0 ≤ q → q < l + 1 → Runs (up h 141 5 q 141) 0 (F2 q) := fun q a b => by
        rw [hF2]
        by_cases e : q = l
        · show Runs _ 0 (if q = l then g' else F q)
          rw [if_pos e, e]
          exact ⟨_, er, hg⟩
        · show Runs _ 0 (if q = l then g' else F q)
          rw [if_neg e]
          exact hF q a (by omega)
      have eP : pick (fun d => sumN (hulN (F2 d) f) (h 141 3).toNat) 0 0 (l - 0).toNat = (b, m) := by
        rw [hP]
        refine pick_eq _ (fun q a b => ?_)
        rw [hF2]
        show sumN (hulN (if q = l then g' else F q) f) _ = _
        rw [if_neg (by omega)]
      have eV : sumN (hulN (F2 l) f) (h 141 3).toNat = sumN (hulN g' f) (h 141 3).toNat := by
        rw [hF2]
        show sumN (hulN (if l = l then g' else F l) f) _ = _
        rw [if_pos rfl]
      have eS := pick_s (f := fun d => sumN (hulN (F2 d) f) (h 141 3).toNat) (lo := 0) (b0 := 0) l1
      rw [eP] at eS
      dsimp only at eS
      rw [eV] at eS
      refine am_cv ?_
      refine a_il5 dX9_bestWind_77 ?_
      refine a_il3 dX9_bestWind_79 ?_
      refine aw_icmp_gt 86 dX9_bestWind_80 (by decide) (fun c80 => ?_) (fun c80 => ?_)
      · refine a_il5 dX9_bestWind_86 ?_
        refine a_is3 rfl rfl dX9_bestWind_88 ?_
        refine a_il4 dX9_bestWind_89 ?_
        refine a_is2 rfl rfl dX9_bestWind_91 ?_
        refine a_iiR4 (by omega) rfl rfl dX9_bestWind_92 ?_
        refine aw_goto 33 dX9_bestWind_95 (by decide) ?_
        rw [if_neg (by omega)] at eS
        exact ih (l + 1, l, sumN (hulN g' f) (h 141 3).toNat, (0, sumN (hulN g' f) (h 141 3).toNat), cpy g' 141 0 143 0 1256) ⟨by dsimp only; omega, by dsimp only; omega, rfl, hT3, F2, hR, eS.symm⟩ (by dsimp only; omega)
      · refine aw_goto 92 dX9_bestWind_83 (by decide) ?_
        refine a_iiR4 (by omega) rfl rfl dX9_bestWind_92 ?_
        refine aw_goto 33 dX9_bestWind_95 (by decide) ?_
        rw [if_pos (by omega)] at eS
        exact ih (l + 1, b, m, (0, sumN (hulN g' f) (h 141 3).toNat), cpy g' 141 0 143 0 1256) ⟨by dsimp only; omega, by dsimp only; omega, rfl, hT3, F2, hR, eS.symm⟩ (by dsimp only; omega)
  · refine am_ci ?_
    refine aw_if_eq_y 13 dX9_bestWind_6 (by decide) (by decide) ?_
    refine aw_iconst dX9_bestWind_13 (by decide) ?_
    refine aw_put 7 dX9_bestWind_14 fp_X9_66 at_140 rfl ?_
    refine a_al0 (by decide) dX9_bestWind_17 ?_
    refine aw_get 7 dX9_bestWind_18 fl_X9_66 at_140 rfl ?_
    try simp (disch := omega) only [up_at, up_ne]
    refine aw_if_le_n 26 dX9_bestWind_21 (by decide) (by decide) ?_
    refine aw_iconst dX9_bestWind_24 (by decide) ?_
    refine aw_iret dX9_bestWind_25 rfl ?_
    exact k1 q
/-- a ship alone in a pulse -/
def CoS (h : AH) (i l : Int) (h' : AH) : Prop := ∃ h1 x, GoneT (goH h i l) i l h1 x ∧ h' = if x = 0 then h1 else up (up (up h1 141 (46 + 25 * i + 1) (h1 150 i)) 141 (46 + 25 * i + 2) (h1 151 i)) 141 (46 + 25 * i + 8) (mx 0 (h1 141 (46 + 25 * i + 8) - 90))
def CoN (i : Int) : Nat → Int → AH → AH → Prop
  | 0, _, h, h' => h' = h
  | m + 1, p, h, h' => ∃ g, CoS h i (h 141 (46 + 25 * i + (11 + p))) g ∧ CoN i m (p + 1) g h'
def Cours (r : Int → Int) (i n : Int) (g' : AH) : Prop := ∃ g g1, (∀ x, 0 ≤ x → x < 1256 → g 141 x = r x) ∧ Shifted g g1 ∧ CoN i n.toNat 0 g1 g'
theorem GoneT_x {h h' : AH} {i l x : Int} (hw : 0 ≤ gWay (h 141 (46 + 25 * i + 8)) (h 141 (46 + 25 * i + 6)) (h 141 6) (h 141 (46 + 25 * i + 3)) (h 141 5) ∧ gWay (h 141 (46 + 25 * i + 8)) (h 141 (46 + 25 * i + 6)) (h 141 6) (h 141 (46 + 25 * i + 3)) (h 141 5) ≤ 180) (h8 : 0 ≤ h 141 (46 + 25 * i + 8) ∧ h 141 (46 + 25 * i + 8) ≤ 180) (hg : GoneT h i l h' x) : (0 ≤ h' 141 (46 + 25 * i + 8) ∧ h' 141 (46 + 25 * i + 8) ≤ 180) ∧ (x = 0 ∨ (x = 1 ∧ 0 ≤ h' 150 i ∧ h' 150 i < h 141 0 ∧ 0 ≤ h' 151 i ∧ h' 151 i < h 141 1)) := by
  obtain ⟨f, a, b⟩ := hg
  by_cases e : l = 4
  · obtain ⟨a1, a2⟩ := a e
    rw [a1]
    exact ⟨h8, Or.inl a2⟩
  · obtain ⟨b1, b2⟩ := b e _ rfl
    by_cases w : gWay (h 141 (46 + 25 * i + 8)) (h 141 (46 + 25 * i + 6)) (h 141 6) (h 141 (46 + 25 * i + 3)) (h 141 5) < 90
    · obtain ⟨c1, c2⟩ := b1 w
      rw [c2]
      exact ⟨hw, Or.inl c1⟩
    · obtain ⟨-, -, c1, c2⟩ := b2 (by omega)
      by_cases q : 0 ≤ h' 150 i ∧ h' 150 i < h 141 0 ∧ 0 ≤ h' 151 i ∧ h' 151 i < h 141 1
      · obtain ⟨d1, d2⟩ := c1 q
        rw [d2]
        exact ⟨hw, Or.inr ⟨d1, q⟩⟩
      · obtain ⟨d1, d2⟩ := c2 q
        rw [d2]
        exact ⟨by decide, Or.inl d1⟩
def CoF (h g : AH) (i : Int) : Prop := ∀ k x, ¬ (k = 141 ∧ (x = 46 + 25 * i + 1 ∨ x = 46 + 25 * i + 2 ∨ x = 46 + 25 * i + 3 ∨ x = 46 + 25 * i + 8 ∨ x = 46 + 25 * i + 9)) → ¬ (k = 150 ∧ x = i) → ¬ (k = 151 ∧ x = i) → g k x = h k x
theorem Gone_ok {h h1 : AH} {i l x : Int} (hi : 0 ≤ i) (hs : shOk h i) (hb : bdOk h) (hg : GoneT (goH h i l) i l h1 x) : CoF h h1 i ∧ shOk h1 i ∧ bdOk h1 ∧ (x = 0 ∨ (x = 1 ∧ 0 ≤ h1 150 i ∧ h1 150 i < h 141 0 ∧ 0 ≤ h1 151 i ∧ h1 151 i < h 141 1)) := by
  have hs' := shOk_goH (l := l) hs
  have hb' := bdOk_goH (i := i) (l := l) hi hb
  have f : ∀ k y, ¬ (k = 141 ∧ y = 46 + 25 * i + 8) → ¬ (k = 150 ∧ y = i) → ¬ (k = 151 ∧ y = i) → h1 k y = goH h i l k y := hg.1
  have e0 : goH h i l 141 0 = h 141 0 := by unfold goH; rw [up_ne (by omega), up_ne (by omega)]
  have e1 : goH h i l 141 1 = h 141 1 := by unfold goH; rw [up_ne (by omega), up_ne (by omega)]
  have hw := gWay_rg (hd := goH h i l 141 (46 + 25 * i + 3)) (fr := goH h i l 141 5) hs'.2.2.2.2.2.1.1 hs'.2.2.2.1 hb'.2.2.2
  obtain ⟨w1, w2⟩ := GoneT_x hw hs'.2.2.2.2.2.1 hg
  rw [e0, e1] at w2
  refine ⟨fun k y a b c => ?_, ?_, ?_, w2⟩
  · rw [f k y (by omega) b c]
    unfold goH
    rw [up_ne (by omega), up_ne (by omega)]
  · unfold shOk at hs' ⊢
    rw [f 141 (46 + 25 * i + 1) (by omega) (by omega) (by omega), f 141 (46 + 25 * i + 2) (by omega) (by omega) (by omega), f 141 (46 + 25 * i + 3) (by omega) (by omega) (by omega), f 141 (46 + 25 * i + 6) (by omega) (by omega) (by omega), f 141 (46 + 25 * i + 7) (by omega) (by omega) (by omega), f 141 (46 + 25 * i + 9) (by omega) (by omega) (by omega)]
    exact ⟨hs'.1, hs'.2.1, hs'.2.2.1, hs'.2.2.2.1, hs'.2.2.2.2.1, w1, hs'.2.2.2.2.2.2⟩
  · unfold bdOk at hb' ⊢
    rw [f 141 0 (by omega) (by omega) (by omega), f 141 1 (by omega) (by omega) (by omega), f 141 5 (by omega) (by omega) (by omega), f 141 6 (by omega) (by omega) (by omega)]
    exact hb'
theorem mx_rg {v : Int} (h : 0 ≤ v ∧ v ≤ 180) : 0 ≤ mx 0 (v - 90) ∧ mx 0 (v - 90) ≤ 180 := by unfold mx; split <;> omega
theorem Went_ok {h1 : AH} {i : Int} (hi : 0 ≤ i) (hs : shOk h1 i) (hb : bdOk h1) (hx : 0 ≤ h1 150 i ∧ h1 150 i < h1 141 0 ∧ 0 ≤ h1 151 i ∧ h1 151 i < h1 141 1) : shOk (up (up (up h1 141 (46 + 25 * i + 1) (h1 150 i)) 141 (46 + 25 * i + 2) (h1 151 i)) 141 (46 + 25 * i + 8) (mx 0 (h1 141 (46 + 25 * i + 8) - 90))) i ∧ bdOk (up (up (up h1 141 (46 + 25 * i + 1) (h1 150 i)) 141 (46 + 25 * i + 2) (h1 151 i)) 141 (46 + 25 * i + 8) (mx 0 (h1 141 (46 + 25 * i + 8) - 90))) ∧ CoF h1 (up (up (up h1 141 (46 + 25 * i + 1) (h1 150 i)) 141 (46 + 25 * i + 2) (h1 151 i)) 141 (46 + 25 * i + 8) (mx 0 (h1 141 (46 + 25 * i + 8) - 90))) i := by
  obtain ⟨s1, s2, s3, s6, s7, s8, s9⟩ := hs
  have hm := mx_rg s8
  unfold shOk bdOk at *
  refine ⟨?_, ?_, fun k x a b c => ?_⟩
  · simp (disch := omega) only [up_at, up_ne]
    exact ⟨by omega, by omega, s3, s6, s7, hm, s9⟩
  · simp (disch := omega) only [up_ne]
    exact hb
  · simp (disch := omega) only [up_ne]
