/-! the model: letters that spare, winds -/
theorem tOk_chg {h g : AH} (e : ∀ x, 0 ≤ x → x < 1256 → x ≠ 5 → ¬ (46 ≤ x ∧ x < 346 ∧ 11 ≤ (x - 46) % 25 ∧ (x - 46) % 25 ≤ 16) → g 141 x = h 141 x) (h5 : 0 ≤ g 141 5 ∧ g 141 5 ≤ 7) (hl : ∀ j p, 0 ≤ j → j < h 141 3 → 0 ≤ p → p ≤ 5 → 1 ≤ g 141 (46 + 25 * j + (11 + p)) ∧ g 141 (46 + 25 * j + (11 + p)) ≤ 4) (ho : tOk h) : tOk g := by
  obtain ⟨o1, o2, o3, o4, o5, o6, o7, o8, o9, o10⟩ := ho
  have e' : ∀ x, 0 ≤ x → x < 46 → x ≠ 5 → g 141 x = h 141 x := fun x a b c => e x a (by omega) c (by omega)
  have eS : ∀ j w, 0 ≤ j → j < h 141 3 → 0 ≤ w → w ≤ 10 → g 141 (46 + 25 * j + w) = h 141 (46 + 25 * j + w) := fun j w a b c d => e _ (by omega) (by omega) (by omega) (by omega)
  have e3 := e' 3 (by decide) (by decide) (by decide)
  unfold tOk bdOk shOk at *
  rw [e' 0 (by decide) (by decide) (by decide), e' 1 (by decide) (by decide) (by decide), e' 2 (by decide) (by decide) (by decide), e3, e' 4 (by decide) (by decide) (by decide), e' 6 (by decide) (by decide) (by decide), e' 8 (by decide) (by decide) (by decide), e' 9 (by decide) (by decide) (by decide)]
  refine ⟨⟨o1.1, o1.2.1, h5, o1.2.2.2⟩, fun j j0 j1 => ⟨?_, fun p p0 p1 => hl j p j0 j1 p0 p1⟩, o3, fun x x0 x1 => ?_, o5, fun f f0 f1 => ?_, o7, fun s s0 s1 => ?_, o9, o10⟩
  · rw [eS j 1 j0 j1 (by decide) (by decide), eS j 2 j0 j1 (by decide) (by decide), eS j 3 j0 j1 (by decide) (by decide), eS j 6 j0 j1 (by decide) (by decide), eS j 7 j0 j1 (by decide) (by decide), eS j 8 j0 j1 (by decide) (by decide), eS j 9 j0 j1 (by decide) (by decide)]
    exact (o2 j j0 j1).1
  · rw [eS x 4 x0 x1 (by decide) (by decide), eS x 5 x0 x1 (by decide) (by decide)]
    exact o4 x x0 x1
  · rw [e' (34 + 3 * f) (by omega) (by omega) (by omega)]
    exact o6 f f0 f1
  · rw [e' (10 + 3 * s + 1) (by omega) (by omega) (by omega), e' (10 + 3 * s + 2) (by omega) (by omega) (by omega)]
    exact o8 s s0 s1
theorem tOk_eqr {h g : AH} (e : ∀ x, 0 ≤ x → x < 1256 → g 141 x = h 141 x) (ho : tOk h) : tOk g := by
  have ho2 := ho
  obtain ⟨o1, o2, o3, -⟩ := ho2
  refine tOk_chg (fun x a b _ _ => e x a b) ?_ (fun j p a b c d => ?_) ho
  · rw [e 5 (by decide) (by decide)]; exact o1.2.2.1
  · rw [e _ (by omega) (by omega)]; exact (o2 j a b).2 p c d
theorem tOk_ord {h : AH} {i p l : Int} (hi : 0 ≤ i) (hp : 0 ≤ p ∧ p ≤ 5) (hl : 1 ≤ l ∧ l ≤ 4) (hn : i < h 141 3) (ho : tOk h) : tOk (up h 141 (46 + 25 * i + (11 + p)) l) := by
  have ho2 := ho
  obtain ⟨o1, o2, o3, -⟩ := ho2
  refine tOk_chg (fun x a b c d => up_ne (by omega)) ?_ (fun j q a b c d => ?_) ho
  · rw [up_ne (by omega)]; exact o1.2.2.1
  · by_cases e : j = i ∧ q = p
    · rw [e.1, e.2, up_at]; exact hl
    · rw [up_ne (by omega)]; exact (o2 j a b).2 q c d
theorem tOk_wind {h : AH} {v : Int} (hv : 0 ≤ v ∧ v ≤ 7) (ho : tOk h) : tOk (up h 141 5 v) := by
  refine tOk_chg (fun x a b c d => up_ne (by omega)) (by rw [up_at]; exact hv) (fun j q a b c d => ?_) ho
  rw [up_ne (by omega)]; exact (ho.2.1 j a b).2 q c d
theorem Tri_back {h s g' : AH} {ws : Int} (ho : tOk s) (e1 : ∀ k x, k ≠ 141 → k ≠ 143 → s k x = h k x) (e2 : ∀ x, 0 ≤ x → x < 1256 → s 143 x = h 141 x) (hg : GoesOn s ws g') : Tri h (cpy g' 141 0 143 0 1256) := by
  obtain ⟨⟨k1, k2⟩, -⟩ := GoesOn_ok ho hg
  refine ⟨fun k x a b c d => ?_, fun x a => ?_⟩
  · unfold cpy
    by_cases e : k = 141
    · subst e
      rw [if_pos (by omega), k1 _ _ (by decide) (by decide) (by decide), e2 _ (by omega) (by omega)]
      congr 1
      omega
    · rw [if_neg (by omega), k1 _ _ a e c, e1 _ _ e b]
  · unfold cpy
    rw [if_neg (by omega), k2 _ a, e1 _ _ (by decide) (by decide)]
theorem Tri_up {h g : AH} {x v : Int} (t : Tri h g) : Tri (up h 141 x v) (up g 141 x v) := by
  refine ⟨fun k y a b c d => ?_, fun y a => ?_⟩
  · by_cases e : k = 141 ∧ y = x
    · rw [e.1, e.2, up_at, up_at]
    · rw [up_ne e, up_ne e]; exact t.1 k y a b c d
  · rw [up_ne (by omega), up_ne (by omega)]; exact t.2 y a
def pick (f : Int → Int) (lo b0 : Int) : Nat → Int × Int
  | 0 => (b0, -1)
  | n + 1 => if f (lo + n) ≤ (pick f lo b0 n).2 then pick f lo b0 n else (lo + n, f (lo + n))
theorem pick_eq {f f' : Int → Int} {lo b0 : Int} : ∀ n : Nat, (∀ q, lo ≤ q → q < lo + n → f q = f' q) → pick f lo b0 n = pick f' lo b0 n
  | 0, _ => rfl
  | n + 1, h => by
    show (if f (lo + n) ≤ (pick f lo b0 n).2 then pick f lo b0 n else (lo + n, f (lo + n))) = (if f' (lo + n) ≤ (pick f' lo b0 n).2 then pick f' lo b0 n else (lo + n, f' (lo + n)))
    rw [pick_eq n (fun q a b => h q a (by omega)), h (lo + n) (by omega) (by omega)]
theorem pick_s {f : Int → Int} {lo b0 q : Int} (hq : lo ≤ q) : pick f lo b0 (q + 1 - lo).toNat = if f q ≤ (pick f lo b0 (q - lo).toNat).2 then pick f lo b0 (q - lo).toNat else (q, f q) := by
  rw [show (q + 1 - lo).toNat = (q - lo).toNat + 1 by omega]
  show (if f (lo + ((q - lo).toNat : Nat)) ≤ (pick f lo b0 (q - lo).toNat).2 then pick f lo b0 (q - lo).toNat else (lo + ((q - lo).toNat : Nat), f (lo + ((q - lo).toNat : Nat)))) = _
  rw [show lo + (((q - lo).toNat : Nat) : Int) = q by omega]
theorem ac_spares {i p : Int} {h : AH} {K : AO → Nat → AH → Prop} (ho : tOk h) (k1 : ¬ ((0 ≤ i ∧ i < h 141 3) ∧ 0 ≤ p ∧ p ≤ 5) → K (.inl (some (0, 0))) 159 (up h 140 7 1)) (k0 : 0 ≤ i ∧ i < h 141 3 → 0 ≤ p ∧ p ≤ 5 → ∀ (F : Int → AH) (h' : AH), (∀ l, 1 ≤ l → l ≤ 4 → Runs (up h 141 (46 + 25 * i + (11 + p)) l 141) 1 (F l)) → Tri (up h 140 7 0) h' → K (.inl (some (0, (pick (fun l => F l 141 (46 + 25 * i + 4)) 1 0 4).1))) 159 h') : AC mX9_spares 9 0 0 159 [(2, 140), (0, i), (0, p)] h K := by
  have hn := ho.2.2.1
  refine ac_of (ls := [(2, 140), (0, i), (0, p), (9, 0), (9, 0), (9, 0), (9, 0), (9, 0)]) pn_X9 rfl (Nat.le_of_ble_eq_true rfl) rfl ?_
  refine a_al0 (by decide) dX9_spares_0 ?_
  refine a_al0 (by decide) dX9_spares_1 ?_
  refine a_il1 dX9_spares_2 ?_
  refine aw_callV 2 0 0 dX9_spares_3 yw_X9_isShip ml_X9_296 in_X9_isShip se_X9_isShip (ci := 8) rfl at_140 (as := [_]) rfl rfl ⟨by decide, by decide, by decide, Nat.le_of_ble_eq_true rfl⟩ ?_
  refine ac_isShip hn.1 (fun q => ?_) (fun q => ?_)
  · refine am_ci ?_
    refine aw_if_eq_n 20 dX9_spares_6 (by decide) (by decide) ?_
    refine a_il2 dX9_spares_9 ?_
    refine aw_callS 2 0 0 dX9_spares_10 yw_X9_isPulse ml_X9_311 sm_X9_isPulse (as := [_]) rfl rfl ⟨by decide, by decide, by decide, Nat.le_of_ble_eq_true rfl⟩ ?_
    refine ac_isPulse (fun q2 => ?_) (fun q2 => ?_)
    · refine am_ci ?_
      refine aw_if_eq_n 20 dX9_spares_13 (by decide) (by decide) ?_
      refine aw_iconst dX9_spares_16 (by decide) ?_
      refine aw_goto 21 dX9_spares_17 (by decide) ?_
      refine aw_put 7 dX9_spares_21 fp_X9_66 at_140 rfl ?_
      refine a_al0 (by decide) dX9_spares_24 ?_
      refine aw_get 7 dX9_spares_25 fl_X9_66 at_140 rfl ?_
      try simp (disch := omega) only [up_at, up_ne]
      refine aw_if_le_y 33 dX9_spares_28 (by decide) (by decide) ?_
      refine aw_iconst dX9_spares_33 (by decide) ?_
      refine a_is3 rfl rfl dX9_spares_34 ?_
      refine aw_iconst dX9_spares_35 (by decide) ?_
      refine a_is4 rfl rfl dX9_spares_36 ?_
      refine a_al0 (by decide) dX9_spares_38 ?_
      refine a_il1 dX9_spares_39 ?_
      refine aw_bipush dX9_spares_40 (by decide) ?_
      refine a_il2 dX9_spares_42 ?_
      refine aw_iaddR (by omega) dX9_spares_43 ?_
      refine aw_callV 1 0 0 dX9_spares_44 yw_X9_of ml_X9_213 in_X9_of se_X9_of (ci := 8) rfl at_140 (as := [_, _]) rfl rfl ⟨by decide, by decide, by decide, Nat.le_of_ble_eq_true rfl⟩ ?_
      refine ac_of_ (by omega) (by omega) ?_
      refine am_ci ?_
      try simp (disch := omega) only [up_at, up_ne]
      refine a_is5 rfl rfl dX9_spares_47 ?_
      refine aw_iconst dX9_spares_49 (by decide) ?_
      refine a_is6 rfl rfl dX9_spares_50 ?_
      obtain ⟨h0, hh0⟩ : ∃ h0, h0 = up h 140 7 0 := ⟨_, rfl⟩
      obtain ⟨X, hX⟩ : ∃ X, X = 46 + 25 * i + (11 + p) := ⟨_, rfl⟩
      have eX : h0 141 X = h 141 X := by rw [hh0, up_ne (by omega)]
      have ho0 : tOk h0 := by rw [hh0]; exact tOk_th ho
      have n0 : h0 141 3 = h 141 3 := by rw [hh0, up_ne (by omega)]
      rw [← hh0, ← hX] at k0
      rw [← hh0, ← hX]
      refine aw_loop (fun q : Int × Int × Int × AV × AH => 1 ≤ q.1 ∧ q.1 ≤ 5 ∧ am_n2 q.2.2.2.1 = true ∧ (∃ c, Tri (up h0 141 X c) q.2.2.2.2) ∧ ∃ F : Int → AH, (∀ l, 1 ≤ l → l < q.1 → Runs (up h 141 X l 141) 1 (F l)) ∧ (q.2.1, q.2.2.1) = pick (fun l => F l 141 (46 + 25 * i + 4)) 1 0 (q.1 - 1).toNat) (fun q => (5 - q.1).toNat) (fun q => AW mX9_spares 9 0 0 K 159 52 [(2, 140), (0, i), (0, p), (0, q.2.1), (0, q.2.2.1), (0, h 141 X), (0, q.1), q.2.2.2.1] [] q.2.2.2.2) (fun q hq ih => ?_) (1, 0, -1, (9, 0), h0) ⟨by dsimp only; omega, by dsimp only; omega, rfl, ⟨h 141 X, by rw [← eX, up_self]; exact Tri_refl h0⟩, (fun _ => h0), fun l l0 l1 => by dsimp only at l1; omega, rfl⟩
      obtain ⟨l, b, m, v, g⟩ := q
      obtain ⟨l1, l5, hv, ⟨c, hT⟩, F, hF, hP⟩ := hq
      dsimp only at l1 l5 hv hT hF hP ih ⊢
      refine a_il6 dX9_spares_52 ?_
      refine aw_iconst dX9_spares_54 (by decide) ?_
      refine aw_icmp_gt 108 dX9_spares_55 (by decide) (fun c55 => ?_) (fun c55 => ?_)
      · refine a_al0 (by decide) dX9_spares_108 ?_
        refine a_il1 dX9_spares_109 ?_
        refine aw_bipush dX9_spares_110 (by decide) ?_
        refine a_il2 dX9_spares_112 ?_
        refine aw_iaddR (by omega) dX9_spares_113 ?_
        refine a_il5 dX9_spares_114 ?_
        refine aw_callV 1 0 0 dX9_spares_116 yw_X9_sets ml_X9_228 in_X9_sets se_X9_sets (ci := 8) rfl at_140 (as := [_, _, _]) rfl rfl ⟨by decide, by decide, by decide, Nat.le_of_ble_eq_true rfl⟩ ?_
        refine ac_sets (by omega) (by omega) ?_
        refine am_cv ?_
        refine a_il3 dX9_spares_119 ?_
        refine aw_iret dX9_spares_120 rfl ?_
        rw [← hX]
        have e5 : l = 5 := by omega
        subst e5
        have k9 := k0 q q2 F (up g 141 X (h 141 X)) (fun l a b => hF l a (by omega)) (by
          have := Tri_up (x := X) (v := h 141 X) hT
          rwa [up_up, ← eX, up_self, eX] at this)
        rw [show b = (pick (fun l => F l 141 (46 + 25 * i + 4)) 1 0 4).1 from congrArg Prod.fst hP]
        exact k9
      · refine a_al0 (by decide) dX9_spares_58 ?_
        refine a_il1 dX9_spares_59 ?_
        refine aw_bipush dX9_spares_60 (by decide) ?_
        refine a_il2 dX9_spares_62 ?_
        refine aw_iaddR (by omega) dX9_spares_63 ?_
        refine a_il6 dX9_spares_64 ?_
        refine aw_callV 1 0 0 dX9_spares_66 yw_X9_sets ml_X9_228 in_X9_sets se_X9_sets (ci := 8) rfl at_140 (as := [_, _, _]) rfl rfl ⟨by decide, by decide, by decide, Nat.le_of_ble_eq_true rfl⟩ ?_
        refine ac_sets (by omega) (by omega) ?_
        refine am_cv ?_
        refine a_al0 (by decide) dX9_spares_69 ?_
        refine aw_callV 8 0 0 dX9_spares_70 yw_X9_tries ml_X9_328 in_X9_tries se_X9_tries (ci := 8) rfl at_140 (as := []) rfl rfl ⟨by decide, by decide, by decide, Nat.le_of_ble_eq_true rfl⟩ ?_
        rw [← hX]
        have hT2 : Tri (up h0 141 X l) (up g 141 X l) := by
          have := Tri_up (x := X) (v := l) hT
          rwa [up_up] at this
        have er : ∀ x, 0 ≤ x → x < 1256 → up g 141 X l 141 x = up h 141 X l 141 x := fun x a b => by
          rw [hT2.1 141 x (by decide) (by decide) (by decide) (by omega)]
          by_cases e : x = X
          · rw [e, up_at, up_at]
          · rw [up_ne (by omega), up_ne (by omega), hh0, up_ne (by omega)]
        have hok : tOk (up g 141 X l) := tOk_eqr er (by rw [hX]; exact tOk_ord q.1 q2 ⟨by omega, by omega⟩ q.2 ho)
        refine ac_tries (tOk_eq (cpy_ne (by decide)) hok) (fun g' hg => ?_)
        refine am_cv ?_
        refine a_al0 (by decide) dX9_spares_73 ?_
        refine a_il1 dX9_spares_74 ?_
        refine aw_iconst dX9_spares_75 (by decide) ?_
        refine aw_callV 1 0 0 dX9_spares_76 yw_X9_of ml_X9_213 in_X9_of se_X9_of (ci := 8) rfl at_140 (as := [_, _]) rfl rfl ⟨by decide, by decide, by decide, Nat.le_of_ble_eq_true rfl⟩ ?_
        refine ac_of_ (by omega) (by decide) ?_
        refine am_ci ?_
        try simp (disch := omega) only [up_at, up_ne]
        refine a_is7 rfl rfl dX9_spares_79 ?_
        refine a_al0 (by decide) dX9_spares_81 ?_
        refine aw_callV 2 0 0 dX9_spares_82 yw_X9_putsBack ml_X9_331 in_X9_putsBack se_X9_putsBack (ci := 8) rfl at_140 (as := []) rfl rfl ⟨by decide, by decide, by decide, Nat.le_of_ble_eq_true rfl⟩ ?_
        refine ac_putsBack ?_
        have hT3 := Tri_trans hT2 (Tri_run hok hg)
        obtain ⟨F2, hF2⟩ : ∃ F2 : Int → AH, F2 = fun q => if q = l then g' else F q := ⟨_, rfl⟩
        have hR : ∀ q, 1 ≤ q → q < l + 1 → Runs (up h 141 X q 141) 1 (F2 q) := fun q a b => by
          rw [hF2]
          by_cases e : q = l
          · show Runs _ 1 (if q = l then g' else F q)
            rw [if_pos e, e]
            obtain ⟨g9, e9, f9⟩ := Runs_cpy hg
            exact ⟨g9, fun x x0 x1 => by rw [e9 x x0 x1, er x x0 x1], f9⟩
          · show Runs _ 1 (if q = l then g' else F q)
            rw [if_neg e]
            exact hF q a (by omega)
        have eP : pick (fun q => F2 q 141 (46 + 25 * i + 4)) 1 0 (l - 1).toNat = (b, m) := by
          rw [hP]
          refine pick_eq _ (fun q a b => ?_)
          rw [hF2]
          show (if q = l then g' else F q) 141 _ = _
          rw [if_neg (by omega)]
        have eV : F2 l 141 (46 + 25 * i + 4) = g' 141 (46 + 25 * i + 4) := by
          rw [hF2]
          show (if l = l then g' else F l) 141 _ = _
          rw [if_pos rfl]
        have eS := pick_s (f := fun q => F2 q 141 (46 + 25 * i + 4)) (b0 := 0) l1
        rw [eP] at eS
        dsimp only at eS
        rw [eV] at eS
        refine am_cv ?_
        refine a_il7 dX9_spares_85 ?_
        refine a_il4 dX9_spares_87 ?_
        refine aw_icmp_gt 95 dX9_spares_89 (by decide) (fun c89 => ?_) (fun c89 => ?_)
        · refine a_il7 dX9_spares_95 ?_
          refine a_is4 rfl rfl dX9_spares_97 ?_
          refine a_il6 dX9_spares_99 ?_
          refine a_is3 rfl rfl dX9_spares_101 ?_
          refine a_iiR6 (by omega) rfl rfl dX9_spares_102 ?_
          refine aw_goto 52 dX9_spares_105 (by decide) ?_
          rw [if_neg (by omega)] at eS
          exact ih (l + 1, l, g' 141 (46 + 25 * i + 4), (0, g' 141 (46 + 25 * i + 4)), cpy g' 141 0 143 0 1256) ⟨by dsimp only; omega, by dsimp only; omega, rfl, ⟨l, hT3⟩, F2, hR, eS.symm⟩ (by dsimp only; omega)
        · refine aw_goto 102 dX9_spares_92 (by decide) ?_
          refine a_iiR6 (by omega) rfl rfl dX9_spares_102 ?_
          refine aw_goto 52 dX9_spares_105 (by decide) ?_
          rw [if_pos (by omega)] at eS
          exact ih (l + 1, b, m, (0, g' 141 (46 + 25 * i + 4)), cpy g' 141 0 143 0 1256) ⟨by dsimp only; omega, by dsimp only; omega, rfl, ⟨l, hT3⟩, F2, hR, eS.symm⟩ (by dsimp only; omega)
    · refine am_ci ?_
      refine aw_if_eq_y 20 dX9_spares_13 (by decide) (by decide) ?_
      refine aw_iconst dX9_spares_20 (by decide) ?_
      refine aw_put 7 dX9_spares_21 fp_X9_66 at_140 rfl ?_
      refine a_al0 (by decide) dX9_spares_24 ?_
      refine aw_get 7 dX9_spares_25 fl_X9_66 at_140 rfl ?_
      try simp (disch := omega) only [up_at, up_ne]
      refine aw_if_le_n 33 dX9_spares_28 (by decide) (by decide) ?_
      refine aw_iconst dX9_spares_31 (by decide) ?_
      refine aw_iret dX9_spares_32 rfl ?_
      exact k1 (fun x => q2 x.2)
  · refine am_ci ?_
    refine aw_if_eq_y 20 dX9_spares_6 (by decide) (by decide) ?_
    refine aw_iconst dX9_spares_20 (by decide) ?_
    refine aw_put 7 dX9_spares_21 fp_X9_66 at_140 rfl ?_
    refine a_al0 (by decide) dX9_spares_24 ?_
    refine aw_get 7 dX9_spares_25 fl_X9_66 at_140 rfl ?_
    try simp (disch := omega) only [up_at, up_ne]
    refine aw_if_le_n 33 dX9_spares_28 (by decide) (by decide) ?_
    refine aw_iconst dX9_spares_31 (by decide) ?_
    refine aw_iret dX9_spares_32 rfl ?_
    exact k1 (fun x => q x.1)
