/-! the model: paces, letters that spare, winds, courses -/
theorem PN_mv : ∀ (m : Nat) (p : Int) (h h' : AH) (c : Int), PN m p h h' → 0 ≤ p → p + m ≤ 6 → gOk h c → 12 * (m : Int) ≤ c → c ≤ 1000 → ∀ x, 0 ≤ x → x < h 141 3 → h 153 x ≤ h' 153 x ∧ h' 153 x ≤ h 153 x + m
  | 0, p, h, h', c, hp, _, _, ho, _, _, x, x0, x1 => by
    rw [show h' = h from hp]
    omega
  | m + 1, p, h, h', c, hp, p0, p6, ho, hc, hc2, x, x0, x1 => by
    obtain ⟨g, hg, hp⟩ := hp
    obtain ⟨o1, k1⟩ := PulseM_ok ⟨by omega, hc2⟩ ho hg ⟨p0, by omega⟩
    have e3 : g 141 3 = h 141 3 := k1.2 3 (by decide) (by decide) (by omega) (by decide)
    have ih := PN_mv m (p + 1) g h' (c - 12) hp (by omega) (by omega) o1 (by omega) (by omega) x x0 (by omega)
    obtain ⟨h1, h2, h3, n, sa, sb, sc, sd⟩ := hg
    have q1 : h1 153 x = h 153 x := sa.1 153 x (by omega) (by omega)
    have q7 : h1 141 7 = h 141 7 := sa.1 141 7 (by omega) (by omega)
    have q3 : h1 141 3 = h 141 3 := sa.1 141 3 (by omega) (by omega)
    have r7 := ho.2.2.1.2.1
    have r3 := ho.2.2.1.1
    have q2 : h2 153 x = h1 153 x := (RR_keep n p h1 h2 sb (by omega) (by omega)).1 153 x (by decide) (by decide) (by decide) (by decide) (by decide)
    have q4 : g 153 x = h3 153 x := SK_k _ _ _ _ sd 153 x (by decide)
    have q5 := sc.2 x x0 x1
    by_cases e : h2 149 x = 0
    · have := (q5.1 e).2.2.2
      omega
    · have := (q5.2 e).2.2.2
      omega
theorem GoesOn_mv {h h' : AH} {ws : Int} (ho : tOk h) (hg : GoesOn h ws h') : ∀ x, 0 ≤ x → x < h 141 3 → 0 ≤ h' 153 x ∧ h' 153 x ≤ 6 := by
  have ho2 := ho
  obtain ⟨o1, o2, o3, o4, o5, o6, o7, o8, o9, o10⟩ := ho2
  obtain ⟨h1, h2, h3, hl, hs1, hs2, hpn, he⟩ := hg
  obtain ⟨lf, l8⟩ := Logged_f o10 hl
  have hb := o1
  obtain ⟨-, -, b5, b6⟩ := hb
  have e15 : h1 141 5 = h 141 5 := lf _ _ (by omega)
  have e16 : h1 141 6 = h 141 6 := lf _ _ (by omega)
  have e19 : h1 141 9 = h 141 9 := lf _ _ (by omega)
  have hh : (∀ k x, ¬ (k = 141 ∧ (x = 5 ∨ x = 6)) → h2 k x = h1 k x) ∧ (0 ≤ h2 141 5 ∧ h2 141 5 ≤ 7) ∧ (0 ≤ h2 141 6 ∧ h2 141 6 ≤ 9) := by
    by_cases w : ws = 0
    · rw [hs2 w]
      exact ⟨fun _ _ _ => rfl, by omega, by omega⟩
    · refine Shifted_ok (hs1 w) (fun s s0 s1 => ?_) (by omega) (by omega)
      rw [lf 141 (10 + 3 * s + 1) (by omega), lf 141 (10 + 3 * s + 2) (by omega)]
      exact o8 s s0 (by omega)
  obtain ⟨f2, w5, w6⟩ := hh
  have f20 : ∀ k x, ¬ (k = 141 ∧ (x = 5 ∨ x = 6 ∨ x = 8 ∨ 496 ≤ x)) → h2 k x = h k x := fun k x a => by
    rw [f2 k x (by omega), lf k x (by omega)]
  have hG := gOk_rst ho f20 w5 w6
  have e3 : rst h2 141 3 = h 141 3 := by
    rw [rst_f (by omega) (by omega) (by decide) (by decide)]
    exact f20 _ _ (by omega)
  intro x x0 x1
  have hm := PN_mv 6 0 (rst h2) h3 72 hpn (by omega) (by omega) hG (by omega) (by omega) x x0 (by omega)
  have r153 : rst h2 153 x = 0 := by
    unfold rst fillH
    rw [if_neg (by omega), if_pos (by omega)]
  rw [he.1 153 x (by omega)]
  omega
/-- a count of those for whom P holds, a sum over them -/
def ifN (P : Int → Prop) [DecidablePred P] (f : Int → Int) (i : Int) : Int := if P i then f i else 0
def paceV (c m : Int) : Int := if m = 0 then 0 else f_div (f_i2f c) (f_i2f m)
theorem ac_pace {f : Int} {h : AH} {K : AO → Nat → AH → Prop} (ho : tOk h) (k1 : ¬ (0 ≤ f ∧ f < h 141 2) → ∀ v, K (.inl (some (3, v))) 159 (up h 140 7 1)) (k0 : 0 ≤ f ∧ f < h 141 2 → ∀ g' h', Runs (h 141) 1 g' → Tri (up h 140 7 0) h' → K (.inl (some (3, paceV (sumN (ifN (fSail h f) (g' 153)) (h 141 3).toNat) (sumN (ifN (fSail h f) (fun _ => 1)) (h 141 3).toNat)))) 159 h') : AC mX9_pace 9 0 0 159 [(2, 140), (0, f)] h K := by
  have hn := ho.2.2.1
  have e3 : up h 140 7 0 141 3 = h 141 3 := up_ne (by omega)
  refine ac_of (ls := [(2, 140), (0, f), (9, 0), (9, 0), (9, 0), (9, 0)]) pn_X9 rfl (Nat.le_of_ble_eq_true rfl) rfl ?_
  refine a_al0 (by decide) dX9_pace_0 ?_
  refine a_al0 (by decide) dX9_pace_1 ?_
  refine a_il1 dX9_pace_2 ?_
  refine aw_callV 2 0 0 dX9_pace_3 yw_X9_isFleet ml_X9_275 in_X9_isFleet se_X9_isFleet (ci := 8) rfl at_140 (as := [_]) rfl rfl ⟨by decide, by decide, by decide, Nat.le_of_ble_eq_true rfl⟩ ?_
  refine ac_isFleet ho.2.2.2.2.1.1 (fun q => ?_) (fun q => ?_)
  · refine am_ci ?_
    refine aw_if_eq_n 13 dX9_pace_6 (by decide) (by decide) ?_
    refine aw_iconst dX9_pace_9 (by decide) ?_
    refine aw_goto 14 dX9_pace_10 (by decide) ?_
    refine aw_put 7 dX9_pace_14 fp_X9_66 at_140 rfl ?_
    refine a_al0 (by decide) dX9_pace_17 ?_
    refine aw_get 7 dX9_pace_18 fl_X9_66 at_140 rfl ?_
    try simp (disch := omega) only [up_at, up_ne]
    refine aw_if_le_y 26 dX9_pace_21 (by decide) (by decide) ?_
    refine a_al0 (by decide) dX9_pace_26 ?_
    refine a_il1 dX9_pace_27 ?_
    refine aw_callV 4 0 0 dX9_pace_28 yw_X9_setOf ml_X9_302 in_X9_setOf se_X9_setOf (ci := 8) rfl at_140 (as := [_]) rfl rfl ⟨by decide, by decide, by decide, Nat.le_of_ble_eq_true rfl⟩ ?_
    refine ac_setOf (by rw [e3]; exact hn) ?_
    refine am_ci ?_
    try simp (disch := omega) only [up_at, up_ne]
    refine a_is2 rfl rfl dX9_pace_31 ?_
    refine a_al0 (by decide) dX9_pace_32 ?_
    refine aw_callV 8 0 0 dX9_pace_33 yw_X9_tries ml_X9_328 in_X9_tries se_X9_tries (ci := 8) rfl at_140 (as := []) rfl rfl ⟨by decide, by decide, by decide, Nat.le_of_ble_eq_true rfl⟩ ?_
    refine ac_tries (tOk_eq (cpy_ne (by decide)) (tOk_th ho)) (fun g' hg => ?_)
    refine am_cv ?_
    refine a_al0 (by decide) dX9_pace_36 ?_
    refine aw_callV 2 0 0 dX9_pace_37 yw_X9_putsBack ml_X9_331 in_X9_putsBack se_X9_putsBack (ci := 8) rfl at_140 (as := []) rfl rfl ⟨by decide, by decide, by decide, Nat.le_of_ble_eq_true rfl⟩ ?_
    refine ac_putsBack ?_
    have hR : Runs (h 141) 1 g' := by
      obtain ⟨g, e, f⟩ := Runs_cpy hg
      exact ⟨g, fun x x0 x1 => by rw [e x x0 x1, up_ne (by omega)], f⟩
    have hT := Tri_run (tOk_th ho) hg
    have k9 := k0 q g' _ hR hT
    have hmv := GoesOn_mv (tOk_eq (cpy_ne (by decide)) (tOk_th ho)) hg
    rw [cpy_ne (by decide), e3] at hmv
    have t3 : cpy g' 141 0 143 0 1256 141 3 = h 141 3 := by rw [hT.1 141 3 (by decide) (by decide) (by decide) (by omega), e3]
    have t153 : cpy g' 141 0 143 0 1256 153 = g' 153 := cpy_ne (by decide)
    obtain ⟨H, hH⟩ : ∃ H, H = cpy g' 141 0 143 0 1256 := ⟨_, rfl⟩
    rw [← hH] at k9 t3 t153 ⊢
    have eS : orN (fSail (up h 140 7 0) f) (h 141 3).toNat = orN (fSail h f) (h 141 3).toNat := by
      have e : fSail (up h 140 7 0) f = fSail h f := by
        funext i
        unfold fSail
        rw [up_ne (by omega), up_ne (by omega)]
      unfold orN
      congr 1
    rw [eS]
    refine am_cv ?_
    refine aw_iconst dX9_pace_40 (by decide) ?_
    refine a_is3 rfl rfl dX9_pace_41 ?_
    refine aw_iconst dX9_pace_42 (by decide) ?_
    refine a_is4 rfl rfl dX9_pace_43 ?_
    refine aw_iconst dX9_pace_45 (by decide) ?_
    refine a_is5 rfl rfl dX9_pace_46 ?_
    refine aw_loop (fun q : Int × Int × Int => 0 ≤ q.1 ∧ q.1 ≤ h 141 3 ∧ q.2.1 = sumN (ifN (fSail h f) (g' 153)) q.1.toNat ∧ q.2.2 = sumN (ifN (fSail h f) (fun _ => 1)) q.1.toNat) (fun q => (h 141 3 - q.1).toNat) (fun q => AW mX9_pace 9 0 0 K 159 48 [(2, 140), (0, f), (0, orN (fSail h f) (h 141 3).toNat), (0, q.2.1), (0, q.2.2), (0, q.1)] [] H) (fun q hq ih => ?_) (0, 0, 0) ⟨by dsimp only; omega, by dsimp only; omega, rfl, rfl⟩
    obtain ⟨i, c, m⟩ := q
    obtain ⟨i0, i1, ec, em⟩ := hq
    dsimp only at i0 i1 ec em ih ⊢
    have rc : 0 ≤ c ∧ c ≤ 6 * i := by
      have a := sumN_rgc (f := fun j => ifN (fSail h f) (g' 153) j - 3) (B := 3) i.toNat (fun j j0 j1 => by
        have := hmv j j0 (by omega)
        unfold ifN
        split <;> omega)
      have b : ∀ n : Nat, sumN (fun j => ifN (fSail h f) (g' 153) j - 3) n = sumN (ifN (fSail h f) (g' 153)) n - 3 * n := fun n => by
        induction n with
        | zero => rfl
        | succ n ih => show sumN (fun j => ifN (fSail h f) (g' 153) j - 3) n + (ifN (fSail h f) (g' 153) n - 3) = sumN (ifN (fSail h f) (g' 153)) n + ifN (fSail h f) (g' 153) n - 3 * ((n + 1 : Nat) : Int); omega
      rw [b] at a
      omega
    have rm : -(i * 1) ≤ m ∧ m ≤ i * 1 := by
      have a := sumN_rgc (f := ifN (fSail h f) (fun _ => 1)) (B := 1) i.toNat (fun j j0 j1 => by unfold ifN; dsimp only; split <;> omega)
      rw [← em] at a
      omega
    have rm0 : 0 ≤ m := by
      rw [em]
      exact (sumN_rg (f := ifN (fSail h f) (fun _ => 1)) (B := 1) (fun j => by unfold ifN; dsimp only; split <;> decide) i.toNat).1
    have sc := sumN_s (ifN (fSail h f) (g' 153)) i0
    have sm := sumN_s (ifN (fSail h f) (fun _ => 1)) i0
    refine a_il5 dX9_pace_48 ?_
    refine a_al0 (by decide) dX9_pace_50 ?_
    refine aw_getR (r := 141) 0 rfl dX9_pace_51 fl_X9_7 at_140 rfl rfl ?_
    try simp (disch := omega) only [up_at, up_ne]
    refine aw_iconst dX9_pace_54 (by decide) ?_
    refine aw_iald dX9_pace_55 ar_141 (by omega) ?_
    try simp (disch := omega) only [up_at, up_ne]
    refine aw_icmp_ge 90 dX9_pace_56 (by decide) (fun c56 => ?_) (fun c56 => ?_)
    · have ei : i = h 141 3 := by omega
      rw [← ei, ← ec, ← em] at k9
      unfold paceV at k9
      refine a_il4 dX9_pace_90 ?_
      refine aw_if_ne 99 dX9_pace_92 (by decide) (fun c92 => ?_) (fun c92 => ?_)
      · have hm0 : ¬ m = 0 := by omega
        rw [if_neg hm0] at k9
        refine a_il3 dX9_pace_99 ?_
        refine aw_i2f dX9_pace_100 ?_
        refine a_il4 dX9_pace_101 ?_
        refine aw_i2f dX9_pace_103 ?_
        refine aw_fdiv dX9_pace_104 ?_ ?_
        · exact fd_ok (by omega) (by omega)
        · refine aw_fret dX9_pace_105 rfl ?_
          exact k9
      · have hm0 : m = 0 := by omega
        rw [if_pos hm0] at k9
        refine aw_fconst0 dX9_pace_95 ?_
        refine aw_goto 105 dX9_pace_96 (by decide) ?_
        refine aw_fret dX9_pace_105 rfl ?_
        exact k9
    · have hb := bit_n (x := orN (fSail h f) (h 141 3).toNat) (b := i) (by omega)
      have hg2 := gb_orN (fSail h f) (b := i) (by omega) (h 141 3).toNat (by omega)
      have hv : 0 ≤ H 153 i ∧ H 153 i ≤ 6 := by rw [t153]; exact hmv i i0 (by omega)
      refine a_il2 dX9_pace_59 ?_
      refine a_il5 dX9_pace_60 ?_
      refine aw_ishr dX9_pace_62 ?_
      refine aw_iconst dX9_pace_63 (by decide) ?_
      refine aw_iand dX9_pace_64 ?_
      refine aw_if_ne 71 dX9_pace_65 (by decide) (fun c65 => ?_) (fun c65 => ?_)
      · refine a_iiR4 (by omega) rfl rfl dX9_pace_71 ?_
        refine a_il3 dX9_pace_74 ?_
        refine a_al0 (by decide) dX9_pace_75 ?_
        refine aw_getR (r := 153) 22 rfl dX9_pace_76 fl_X9_51 at_140 rfl rfl ?_
        try simp (disch := omega) only [up_at, up_ne]
        refine a_il5 dX9_pace_79 ?_
        refine aw_iald dX9_pace_81 ar_153 (by omega) ?_
        try simp (disch := omega) only [up_at, up_ne]
        refine aw_iaddR (by omega) dX9_pace_82 ?_
        refine a_is3 rfl rfl dX9_pace_83 ?_
        refine a_iiR5 (by omega) rfl rfl dX9_pace_84 ?_
        refine aw_goto 48 dX9_pace_87 (by decide) ?_
        have hs : fSail h f i := (hg2.mp (Classical.byContradiction fun x => absurd (hb.mpr x) (by assumption))).2
        rw [t153]
        refine ih (i + 1, c + g' 153 i, m + 1) ⟨by dsimp only; omega, by dsimp only; omega, ?_, ?_⟩ (by dsimp only; omega)
        · dsimp only
          rw [sc, ← ec]
          unfold ifN
          rw [if_pos hs]
        · dsimp only
          rw [sm, ← em]
          unfold ifN
          rw [if_pos hs]
      · refine aw_goto 84 dX9_pace_68 (by decide) ?_
        refine a_iiR5 (by omega) rfl rfl dX9_pace_84 ?_
        refine aw_goto 48 dX9_pace_87 (by decide) ?_
        have hs : ¬ fSail h f i := fun x => hb.mp (by assumption) (hg2.mpr ⟨by omega, x⟩)
        refine ih (i + 1, c, m) ⟨by dsimp only; omega, by dsimp only; omega, ?_, ?_⟩ (by dsimp only; omega)
        · dsimp only
          rw [sc, ← ec]
          unfold ifN
          rw [if_neg hs]
          omega
        · dsimp only
          rw [sm, ← em]
          unfold ifN
          rw [if_neg hs]
          omega
  · refine am_ci ?_
    refine aw_if_eq_y 13 dX9_pace_6 (by decide) (by decide) ?_
    refine aw_iconst dX9_pace_13 (by decide) ?_
    refine aw_put 7 dX9_pace_14 fp_X9_66 at_140 rfl ?_
    refine a_al0 (by decide) dX9_pace_17 ?_
    refine aw_get 7 dX9_pace_18 fl_X9_66 at_140 rfl ?_
    try simp (disch := omega) only [up_at, up_ne]
    refine aw_if_le_n 26 dX9_pace_21 (by decide) (by decide) ?_
    refine aw_fconst0 dX9_pace_24 ?_
    refine aw_fret dX9_pace_25 rfl ?_
    exact k1 q 0
