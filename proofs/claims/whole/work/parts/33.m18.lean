/-! the model: what a turn leaves as it was -/
theorem st6_140 {h : AH} {i j p li lj x : Int} (h1 : x ≠ 24) : st6 h i j p li lj 140 x = h 140 x := by
  unfold st6
  split
  · exact up_ne (by omega)
  · simp (disch := omega) only [up_ne]
theorem stH_140 {h : AH} {i j p x : Int} (h1 : x ≠ 24) : stH h i j p 140 x = h 140 x := by
  unfold stH
  rw [st6_140 h1, st5_f (by decide), st4_f (by decide), st3_f (by decide), st2_f (by decide), st1_f (by omega)]
theorem RR_140 : ∀ (m : Nat) (p : Int) (h h' : AH), RR m p h h' → ∀ x, x ≠ 24 → h' 140 x = h 140 x
  | 0, p, h, h', hr, x, hx => by rw [hr.1]
  | m + 1, p, h, h', hr, x, hx => by
    obtain ⟨i, j, -, -, -, -, hr⟩ := hr
    rw [RR_140 m p _ h' hr x hx, stH_140 hx]
theorem SK_k : ∀ (m : Nat) (i : Int) (h h' : AH), SK m i h h' → ∀ k x, k ≠ 141 → h' k x = h k x
  | 0, i, h, h', hs, k, x, hk => by rw [show h' = h from hs]
  | m + 1, i, h, h', hs, k, x, hk => by
    obtain ⟨h1, ⟨a, b⟩, hs⟩ := hs
    rw [SK_k m (i + 1) h1 h' hs k x hk]
    by_cases q : h 141 (46 + 25 * i + 10) = -1 ∧ h 141 (46 + 25 * i + 4) ≤ 0
    · exact (a q).1 k x (by omega)
    · rw [b q]
theorem PulseM_140 {h h' : AH} {p : Int} (hp : PulseM h p h') : ∀ x, x ≠ 24 → h' 140 x = h 140 x := fun x hx => by
  obtain ⟨h1, h2, h3, m, a, b, c, d⟩ := hp
  rw [SK_k _ _ _ _ d 140 x (by decide), c.1 140 x (by omega) (by omega), RR_140 m p h1 h2 b x hx, a.1 140 x (by omega) (by omega)]
theorem PN_140 : ∀ (m : Nat) (p : Int) (h h' : AH), PN m p h h' → ∀ x, x ≠ 24 → h' 140 x = h 140 x
  | 0, p, h, h', hp, x, hx => by rw [show h' = h from hp]
  | m + 1, p, h, h', hp, x, hx => by
    obtain ⟨g, hg, hp⟩ := hp
    rw [PN_140 m (p + 1) g h' hp x hx, PulseM_140 hg x hx]
/-- what a turn leaves as it was -/
def goK (h h' : AH) : Prop := (∀ k x, k ≠ 140 → k ≠ 141 → ¬ (149 ≤ k ∧ k ≤ 154) → h' k x = h k x) ∧ (∀ x, x ≠ 24 → h' 140 x = h 140 x)
theorem GoesOn_ok {h h' : AH} {ws : Int} (ho : tOk h) (hg : GoesOn h ws h') : goK h h' ∧ h' 141 3 = h 141 3 ∧ h' 141 2 = h 141 2 ∧ ∀ x, 0 ≤ x → x < h 141 3 → -100000 ≤ h' 141 (46 + 25 * x + 4) ∧ h' 141 (46 + 25 * x + 4) ≤ 1000 := by
  have ho2 := ho
  obtain ⟨o1, o2, o3, o4, o5, o6, o7, o8, o9, o10⟩ := ho2
  obtain ⟨h1, h2, h3, hl, hs1, hs2, hpn, he⟩ := hg
  obtain ⟨lf, l8⟩ := Logged_f o10 hl
  have hb := o1
  obtain ⟨-, -, b5, b6⟩ := hb
  have e15 : h1 141 5 = h 141 5 := lf _ _ (by omega)
  have e16 : h1 141 6 = h 141 6 := lf _ _ (by omega)
  have e19 : h1 141 9 = h 141 9 := lf _ _ (by omega)
  have hh : (∀ k x, ¬ (k = 141 ∧ (x = 5 ∨ x = 6)) → h2 k x = h1 k x) ∧ (0 ≤ h2 141 5 ∧ h2 141 5 ≤ 7) ∧ (0 ≤ h2 141 6 ∧ h2 141 6 ≤ 9) := by
    by_cases w : ws = 0
    · rw [hs2 w]
      exact ⟨fun _ _ _ => rfl, by omega, by omega⟩
    · refine Shifted_ok (hs1 w) (fun s s0 s1 => ?_) (by omega) (by omega)
      rw [lf 141 (10 + 3 * s + 1) (by omega), lf 141 (10 + 3 * s + 2) (by omega)]
      exact o8 s s0 (by omega)
  obtain ⟨f2, w5, w6⟩ := hh
  have f20 : ∀ k x, ¬ (k = 141 ∧ (x = 5 ∨ x = 6 ∨ x = 8 ∨ 496 ≤ x)) → h2 k x = h k x := fun k x a => by
    rw [f2 k x (by omega), lf k x (by omega)]
  have hG := gOk_rst ho f20 w5 w6
  obtain ⟨g3, k3⟩ := PN_ok 6 0 (rst h2) h3 72 hpn (by omega) (by omega) hG (by omega) (by omega)
  have k4 := PN_140 6 0 (rst h2) h3 hpn
  have e3 : h3 141 3 = h 141 3 := by
    rw [k3.2 3 (by decide) (by decide) (by omega) (by decide), rst_f (by omega) (by omega) (by decide) (by decide)]
    exact f20 _ _ (by omega)
  have e2 : h3 141 2 = h 141 2 := by
    rw [k3.2 2 (by decide) (by decide) (by omega) (by decide), rst_f (by omega) (by omega) (by decide) (by decide)]
    exact f20 _ _ (by omega)
  refine ⟨⟨fun k x a b c => ?_, fun x a => ?_⟩, ?_, ?_, fun x x0 x1 => ?_⟩
  · rw [he.1 k x (by omega), k3.1 k x a b c, rst_f (by omega) (by omega) (by omega) (by omega)]
    exact f20 _ _ (by omega)
  · rw [he.1 140 x (by omega), k4 x a, rst_f (by omega) (by omega) (by omega) (by omega)]
    exact f20 _ _ (by omega)
  · rw [he.1 141 3 (by omega), e3]
  · rw [he.1 141 2 (by omega), e2]
  · have := g3.2.2.1.2.2.2 x x0 (by omega)
    rw [he.1 141 (46 + 25 * x + 4) (by omega)]
    omega
/-- a turn of a row -/
def Runs (r : Int → Int) (ws : Int) (g' : AH) : Prop := ∃ g, (∀ x, 0 ≤ x → x < 1256 → g 141 x = r x) ∧ GoesOn g ws g'
/-- behind a turn that was tried -/
def Tri (h h' : AH) : Prop := (∀ k x, k ≠ 140 → k ≠ 143 → ¬ (149 ≤ k ∧ k ≤ 154) → ¬ (k = 141 ∧ ¬ (0 ≤ x ∧ x < 1256)) → h' k x = h k x) ∧ (∀ x, x ≠ 24 → h' 140 x = h 140 x)
theorem Tri_refl (h : AH) : Tri h h := ⟨fun _ _ _ _ _ _ => rfl, fun _ _ => rfl⟩
theorem Tri_trans {h g h' : AH} (a : Tri h g) (b : Tri g h') : Tri h h' := ⟨fun k x p q r s => by rw [b.1 k x p q r s, a.1 k x p q r s], fun x p => by rw [b.2 x p, a.2 x p]⟩
theorem tOk_eq {h g : AH} (e : g 141 = h 141) (ho : tOk h) : tOk g := by
  unfold tOk bdOk shOk at *
  rw [e]
  exact ho
theorem cpy_ne {h : AH} {t ta f fa n k : Int} (hk : k ≠ t) : cpy h t ta f fa n k = h k := by
  funext x
  unfold cpy
  rw [if_neg (by omega)]
theorem Tri_run {h g' : AH} (ho : tOk h) (hg : GoesOn (cpy h 143 0 141 0 1256) 1 g') : Tri h (cpy g' 141 0 143 0 1256) := by
  obtain ⟨⟨k1, k2⟩, -⟩ := GoesOn_ok (tOk_eq (cpy_ne (by decide)) ho) hg
  refine ⟨fun k x a b c d => ?_, fun x a => ?_⟩
  · unfold cpy
    by_cases e : k = 141
    · subst e
      rw [if_pos (by omega), k1 _ _ (by decide) (by decide) (by decide)]
      unfold cpy
      rw [if_pos (by omega)]
      congr 1
      omega
    · rw [if_neg (by omega), k1 _ _ a e c]
      unfold cpy
      rw [if_neg (by omega)]
  · unfold cpy
    rw [if_neg (by omega), k2 _ a]
    unfold cpy
    rw [if_neg (by omega)]
theorem Runs_cpy {h g' : AH} {ws : Int} (hg : GoesOn (cpy h 143 0 141 0 1256) ws g') : Runs (h 141) ws g' := ⟨_, fun x _ _ => by rw [cpy_ne (by decide)], hg⟩
theorem tOk_th {h : AH} {v : Int} (ho : tOk h) : tOk (up h 140 7 v) := tOk_eq (by funext x; exact up_ne (by omega)) ho
/-! the model: what would be -/
theorem ac_after {i w : Int} {h : AH} {K : AO → Nat → AH → Prop} (ho : tOk h) (k1 : ¬ (0 ≤ i ∧ i < h 141 3) → K (.inl (some (0, 0))) 159 (up h 140 7 1)) (k2 : 0 ≤ i ∧ i < h 141 3 → ¬ (0 ≤ w ∧ w ≤ 10) → K (.inl (some (0, 0))) 159 (up h 140 7 2)) (k0 : 0 ≤ i ∧ i < h 141 3 → 0 ≤ w ∧ w ≤ 10 → ∀ g' h', Runs (h 141) 1 g' → Tri (up h 140 7 0) h' → K (.inl (some (0, g' 141 (46 + 25 * i + w)))) 159 h') : AC mX9_after 9 0 0 159 [(2, 140), (0, i), (0, w)] h K := by
  have hn := ho.2.2.1
  refine ac_of (ls := [(2, 140), (0, i), (0, w), (9, 0)]) pn_X9 rfl (Nat.le_of_ble_eq_true rfl) rfl ?_
  refine a_al0 (by decide) dX9_after_0 ?_
  refine a_al0 (by decide) dX9_after_1 ?_
  refine a_il1 dX9_after_2 ?_
  refine aw_callV 2 0 0 dX9_after_3 yw_X9_isShip ml_X9_296 in_X9_isShip se_X9_isShip (ci := 8) rfl at_140 (as := [_]) rfl rfl ⟨by decide, by decide, by decide, Nat.le_of_ble_eq_true rfl⟩ ?_
  refine ac_isShip hn.1 (fun q => ?_) (fun q => ?_)
  · refine am_ci ?_
    refine aw_if_ne_y 13 dX9_after_6 (by decide) (by decide) ?_
    refine a_il2 dX9_after_13 ?_
    refine aw_iconst dX9_after_14 (by decide) ?_
    refine aw_bipush dX9_after_15 (by decide) ?_
    refine aw_callS 1 0 0 dX9_after_17 yw_X9_isIn ml_X9_76 sm_X9_isIn (as := [_, _, _]) rfl rfl ⟨by decide, by decide, by decide, Nat.le_of_ble_eq_true rfl⟩ ?_
    refine ac_isIn (fun q2 => ?_) (fun q2 => ?_)
    · refine am_ci ?_
      refine aw_if_eq_n 27 dX9_after_20 (by decide) (by decide) ?_
      refine aw_iconst dX9_after_23 (by decide) ?_
      refine aw_goto 28 dX9_after_24 (by decide) ?_
      refine aw_put 7 dX9_after_28 fp_X9_66 at_140 rfl ?_
      refine a_al0 (by decide) dX9_after_31 ?_
      refine aw_get 7 dX9_after_32 fl_X9_66 at_140 rfl ?_
      try simp (disch := omega) only [up_at, up_ne]
      refine aw_if_le_y 40 dX9_after_35 (by decide) (by decide) ?_
      refine a_al0 (by decide) dX9_after_40 ?_
      refine aw_callV 8 0 0 dX9_after_41 yw_X9_tries ml_X9_328 in_X9_tries se_X9_tries (ci := 8) rfl at_140 (as := []) rfl rfl ⟨by decide, by decide, by decide, Nat.le_of_ble_eq_true rfl⟩ ?_
      refine ac_tries (tOk_eq (cpy_ne (by decide)) (tOk_th ho)) (fun g' hg => ?_)
      refine am_cv ?_
      refine a_al0 (by decide) dX9_after_44 ?_
      refine a_il1 dX9_after_45 ?_
      refine a_il2 dX9_after_46 ?_
      refine aw_callV 1 0 0 dX9_after_47 yw_X9_of ml_X9_213 in_X9_of se_X9_of (ci := 8) rfl at_140 (as := [_, _]) rfl rfl ⟨by decide, by decide, by decide, Nat.le_of_ble_eq_true rfl⟩ ?_
      refine ac_of_ (by omega) (by omega) ?_
      refine am_ci ?_
      try simp (disch := omega) only [up_at, up_ne]
      refine a_is3 rfl rfl dX9_after_50 ?_
      refine a_al0 (by decide) dX9_after_51 ?_
      refine aw_callV 2 0 0 dX9_after_52 yw_X9_putsBack ml_X9_331 in_X9_putsBack se_X9_putsBack (ci := 8) rfl at_140 (as := []) rfl rfl ⟨by decide, by decide, by decide, Nat.le_of_ble_eq_true rfl⟩ ?_
      refine ac_putsBack ?_
      refine am_cv ?_
      refine a_il3 dX9_after_55 ?_
      refine aw_iret dX9_after_56 rfl ?_
      refine k0 q q2 g' _ ?_ (Tri_run (tOk_th ho) hg)
      obtain ⟨g, e, f⟩ := Runs_cpy hg
      exact ⟨g, fun x x0 x1 => by rw [e x x0 x1, up_ne (by omega)], f⟩
    · refine am_ci ?_
      refine aw_if_eq_y 27 dX9_after_20 (by decide) (by decide) ?_
      refine aw_iconst dX9_after_27 (by decide) ?_
      refine aw_put 7 dX9_after_28 fp_X9_66 at_140 rfl ?_
      refine a_al0 (by decide) dX9_after_31 ?_
      refine aw_get 7 dX9_after_32 fl_X9_66 at_140 rfl ?_
      try simp (disch := omega) only [up_at, up_ne]
      refine aw_if_le_n 40 dX9_after_35 (by decide) (by decide) ?_
      refine aw_iconst dX9_after_38 (by decide) ?_
      refine aw_iret dX9_after_39 rfl ?_
      exact k2 q q2
  · refine am_ci ?_
    refine aw_if_ne_n 13 dX9_after_6 (by decide) (by decide) ?_
    refine aw_iconst dX9_after_9 (by decide) ?_
    refine aw_goto 28 dX9_after_10 (by decide) ?_
    refine aw_put 7 dX9_after_28 fp_X9_66 at_140 rfl ?_
    refine a_al0 (by decide) dX9_after_31 ?_
    refine aw_get 7 dX9_after_32 fl_X9_66 at_140 rfl ?_
    try simp (disch := omega) only [up_at, up_ne]
    refine aw_if_le_n 40 dX9_after_35 (by decide) (by decide) ?_
    refine aw_iconst dX9_after_38 (by decide) ?_
    refine aw_iret dX9_after_39 rfl ?_
    exact k1 q
theorem ac_meet {i j : Int} {h : AH} {K : AO → Nat → AH → Prop} (ho : tOk h) (k1 : ¬ ((0 ≤ i ∧ i < h 141 3) ∧ 0 ≤ j ∧ j < h 141 3) → K (.inl (some (0, 0))) 159 (up h 140 7 1)) (k0 : 0 ≤ i ∧ i < h 141 3 → 0 ≤ j ∧ j < h 141 3 → ∀ g' h', Runs (h 141) 1 g' → Tri (up h 140 7 0) h' → K (.inl (some (0, if i = j then -1 else g' 154 (12 * (mn i j) + mx i j)))) 159 h') : AC mX9_meet 9 0 0 159 [(2, 140), (0, i), (0, j)] h K := by
  have hn := ho.2.2.1
  refine ac_of (ls := [(2, 140), (0, i), (0, j)]) pn_X9 rfl (Nat.le_of_ble_eq_true rfl) rfl ?_
  refine a_al0 (by decide) dX9_meet_0 ?_
  refine a_al0 (by decide) dX9_meet_1 ?_
  refine a_il1 dX9_meet_2 ?_
  refine aw_callV 2 0 0 dX9_meet_3 yw_X9_isShip ml_X9_296 in_X9_isShip se_X9_isShip (ci := 8) rfl at_140 (as := [_]) rfl rfl ⟨by decide, by decide, by decide, Nat.le_of_ble_eq_true rfl⟩ ?_
  refine ac_isShip hn.1 (fun q => ?_) (fun q => ?_)
  · refine am_ci ?_
    refine aw_if_eq_n 21 dX9_meet_6 (by decide) (by decide) ?_
    refine a_al0 (by decide) dX9_meet_9 ?_
    refine a_il2 dX9_meet_10 ?_
    refine aw_callV 2 0 0 dX9_meet_11 yw_X9_isShip ml_X9_296 in_X9_isShip se_X9_isShip (ci := 8) rfl at_140 (as := [_]) rfl rfl ⟨by decide, by decide, by decide, Nat.le_of_ble_eq_true rfl⟩ ?_
    refine ac_isShip hn.1 (fun q2 => ?_) (fun q2 => ?_)
    · refine am_ci ?_
      refine aw_if_eq_n 21 dX9_meet_14 (by decide) (by decide) ?_
      refine aw_iconst dX9_meet_17 (by decide) ?_
      refine aw_goto 22 dX9_meet_18 (by decide) ?_
      refine aw_put 7 dX9_meet_22 fp_X9_66 at_140 rfl ?_
      refine a_al0 (by decide) dX9_meet_25 ?_
      refine aw_get 7 dX9_meet_26 fl_X9_66 at_140 rfl ?_
      try simp (disch := omega) only [up_at, up_ne]
      refine aw_if_le_y 34 dX9_meet_29 (by decide) (by decide) ?_
      refine a_al0 (by decide) dX9_meet_34 ?_
      refine aw_callV 8 0 0 dX9_meet_35 yw_X9_tries ml_X9_328 in_X9_tries se_X9_tries (ci := 8) rfl at_140 (as := []) rfl rfl ⟨by decide, by decide, by decide, Nat.le_of_ble_eq_true rfl⟩ ?_
      refine ac_tries (tOk_eq (cpy_ne (by decide)) (tOk_th ho)) (fun g' hg => ?_)
      refine am_cv ?_
      refine a_al0 (by decide) dX9_meet_38 ?_
      refine aw_callV 2 0 0 dX9_meet_39 yw_X9_putsBack ml_X9_331 in_X9_putsBack se_X9_putsBack (ci := 8) rfl at_140 (as := []) rfl rfl ⟨by decide, by decide, by decide, Nat.le_of_ble_eq_true rfl⟩ ?_
      refine ac_putsBack ?_
      have k9 := k0 q q2 g' _ (by
        obtain ⟨g, e, f⟩ := Runs_cpy hg
        exact ⟨g, fun x x0 x1 => by rw [e x x0 x1, up_ne (by omega)], f⟩) (Tri_run (tOk_th ho) hg)
      have e1 : (if j < i then j else i) = mn i j := rfl
      have e2 : (if i < j then j else i) = mx i j := rfl
      have e3 : 0 ≤ mn i j ∧ mn i j ≤ 11 := by unfold mn; split <;> omega
      have e4 : 0 ≤ mx i j ∧ mx i j ≤ 11 := by unfold mx; split <;> omega
      have e5 : cpy g' 141 0 143 0 1256 154 (12 * mn i j + mx i j) = g' 154 (12 * mn i j + mx i j) := by rw [cpy_ne (by decide)]
      by_cases e : i = j
      · rw [if_pos e] at k9
        refine am_cv ?_
        refine a_il1 dX9_meet_42 ?_
        refine a_il2 dX9_meet_43 ?_
        refine aw_icmp_ne 51 dX9_meet_44 (by decide) (fun c44 => ?_) (fun c44 => ?_)
        · exfalso; omega
        · refine aw_iconst dX9_meet_47 (by decide) ?_
          refine aw_goto 70 dX9_meet_48 (by decide) ?_
          refine aw_iret dX9_meet_70 rfl ?_
          exact k9
      · rw [if_neg e] at k9
        refine am_cv ?_
        refine a_il1 dX9_meet_42 ?_
        refine a_il2 dX9_meet_43 ?_
        refine aw_icmp_ne 51 dX9_meet_44 (by decide) (fun c44 => ?_) (fun c44 => ?_)
        · refine a_al0 (by decide) dX9_meet_51 ?_
          refine aw_getR (r := 154) 23 rfl dX9_meet_52 fl_X9_54 at_140 rfl rfl ?_
          try simp (disch := omega) only [up_at, up_ne]
          refine aw_bipush dX9_meet_55 (by decide) ?_
          refine a_il1 dX9_meet_57 ?_
          refine a_il2 dX9_meet_58 ?_
          refine aw_mmin dX9_meet_59 ⟨ml_X9_114, mw_min⟩ ⟨by decide, Nat.le_of_ble_eq_true rfl⟩ ?_
          rw [e1]
          refine aw_imulR (by omega) dX9_meet_62 ?_
          refine a_il1 dX9_meet_63 ?_
          refine a_il2 dX9_meet_64 ?_
          refine aw_mmax dX9_meet_65 ⟨ml_X9_269, mw_max⟩ ⟨by decide, Nat.le_of_ble_eq_true rfl⟩ ?_
          rw [e2]
          refine aw_iaddR (by omega) dX9_meet_68 ?_
          refine aw_iald dX9_meet_69 ar_154 (by omega) ?_
          try simp (disch := omega) only [up_at, up_ne]
          refine aw_iret dX9_meet_70 rfl ?_
          rw [e5]
          exact k9
        · exfalso; omega
    · refine am_ci ?_
      refine aw_if_eq_y 21 dX9_meet_14 (by decide) (by decide) ?_
      refine aw_iconst dX9_meet_21 (by decide) ?_
      refine aw_put 7 dX9_meet_22 fp_X9_66 at_140 rfl ?_
      refine a_al0 (by decide) dX9_meet_25 ?_
      refine aw_get 7 dX9_meet_26 fl_X9_66 at_140 rfl ?_
      try simp (disch := omega) only [up_at, up_ne]
      refine aw_if_le_n 34 dX9_meet_29 (by decide) (by decide) ?_
      refine aw_iconst dX9_meet_32 (by decide) ?_
      refine aw_iret dX9_meet_33 rfl ?_
      exact k1 (fun x => q2 x.2)
  · refine am_ci ?_
    refine aw_if_eq_y 21 dX9_meet_6 (by decide) (by decide) ?_
    refine aw_iconst dX9_meet_21 (by decide) ?_
    refine aw_put 7 dX9_meet_22 fp_X9_66 at_140 rfl ?_
    refine a_al0 (by decide) dX9_meet_25 ?_
    refine aw_get 7 dX9_meet_26 fl_X9_66 at_140 rfl ?_
    try simp (disch := omega) only [up_at, up_ne]
    refine aw_if_le_n 34 dX9_meet_29 (by decide) (by decide) ?_
    refine aw_iconst dX9_meet_32 (by decide) ?_
    refine aw_iret dX9_meet_33 rfl ?_
    exact k1 (fun x => q x.1)
