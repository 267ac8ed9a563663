/-! the class: the best wind -/
theorem DrF_eq {h h1 : AH} (hf : DrF h h1) : shEq h 5 h1 5 := ⟨fun x _ _ => hf _ _ (by omega), fun x _ _ => hf _ _ (by omega), fun x _ _ => hf _ _ (by omega), fun x _ _ => hf _ _ (by omega), fun x _ _ => hf _ _ (by omega), fun x _ _ => hf _ _ (by omega), fun x _ _ => hf _ _ (by omega), fun x _ _ => hf _ _ (by omega), fun x _ _ => hf _ _ (by omega), fun x _ _ => hf _ _ (by omega)⟩
theorem shEq_trans {h g f : AH} {a b c : Int} (p : shEq h a g b) (q : shEq g b f c) : shEq h a f c := by
  obtain ⟨a0, a1, a2, a3, a4, a5, a6, a7, a8, a9⟩ := p
  obtain ⟨c0, c1, c2, c3, c4, c5, c6, c7, c8, c9⟩ := q
  exact ⟨fun x a b => by rw [c0 x a b, a0 x a b], fun x a b => by rw [c1 x a b, a1 x a b], fun x a b => by rw [c2 x a b, a2 x a b], fun x a b => by rw [c3 x a b, a3 x a b], fun x a b => by rw [c4 x a b, a4 x a b], fun x a b => by rw [c5 x a b, a5 x a b], fun x a b => by rw [c6 x a b, a6 x a b], fun x a b => by rw [c7 x a b, a7 x a b], fun x a b => by rw [c8 x a b, a8 x a b], fun x a b => by rw [c9 x a b, a9 x a b]⟩
theorem PS_wind {fl : Prop} {h g : AH} {b d : Int} (hB : b = 5 ∨ b = 15) (hn : g 141 3 ≤ 12) (hP : PS0 fl h b g) : PS0 fl (up h b 5 d) b (up g 141 5 d) := by
  obtain ⟨⟨d0, d1, d2, d3, d4, d5, d6⟩, hS, hq⟩ := hP
  have E : ∀ x, x ≠ 5 → up g 141 5 d 141 x = g 141 x := fun x a => up_ne (by omega)
  have E3 := E 3 (by decide)
  have E2 := E 2 (by decide)
  refine ⟨⟨?_, ?_, ?_, ?_, ?_, ?_, ?_⟩, fun j j0 j1 => ?_, fun f f0 f1 => ?_⟩
  · rw [E 0 (by decide), up_ne (by omega), d0]
  · rw [E 1 (by decide), up_ne (by omega), d1]
  · rw [E2, up_ne (by omega), d2]
  · rw [E3, up_ne (by omega), d3]
  · rw [E 4 (by decide), up_ne (by omega), d4]
  · rw [up_at, up_at]
  · rw [E 6 (by decide), up_ne (by omega), d6]
  · rw [E3] at j1
    obtain ⟨s1, s2, s3, s4⟩ := hS j j0 j1
    refine ⟨fun w w0 w1 => ?_, ?_, fun q => ?_, fun q q0 q1 => ?_⟩
    · rw [up_ne (by omega), up_ne (by omega)]
      exact s1 w w0 w1
    · rw [up_ne (by omega), up_ne (by omega)]
      exact s2
    · rw [up_ne (by omega), up_ne (by omega)]
      exact s3 q
    · rw [up_ne (by omega), up_ne (by omega)]
      exact s4 q q0 q1
  · rw [E2] at f1
    rw [up_ne (by omega), up_ne (by omega)]
    exact hq f f0 f1
theorem cx_bestWind {f : Int} {h : AH} {K : AO → Nat → AH → Prop} (hS : SR h 5 h) (k1 : ¬ (0 ≤ f ∧ f < h 141 2) → K (.inr xI) 159 h) (k0 : 0 ≤ f ∧ f < h 141 2 → ∀ h' v, DrF h h' → (∀ F : Int → AH, (∀ d, 0 ≤ d → d ≤ 7 → Runs (up h 141 5 d 141) 0 (F d)) → v = (pick (fun d => sumN (hulN (F d) f) (h 141 3).toNat) 0 0 8).1) → K (.inl (some (0, v))) 159 h') : AC mX8_bestWind 7 1 6 159 [(2, 0), (0, f)] h K := by
  have d2 := hS.1.1.2.2.1
  have hT := hS.2.2.2.1
  obtain ⟨t3, t2, t9⟩ := tOk_PS hT
  have n3 := hT.2.2.1
  refine ac_of (ls := [(2, 0), (0, f), (9, 0), (9, 0), (9, 0), (9, 0)]) pn_X8 rfl (Nat.le_of_ble_eq_true rfl) rfl ?_
  refine a_al0 (by decide) dX8_bestWind_0 ?_
  refine a_il1 dX8_bestWind_1 ?_
  refine aw_callV 6 1 6 dX8_bestWind_2 yw_X8_needFleet ml_X8_156 in_X8_needFleet se_X8_needFleet (ci := 7) rfl at_0 (as := [_]) rfl rfl ⟨by decide, by decide, by decide, Nat.le_of_ble_eq_true rfl⟩ ?_
  refine ac_needFleet (fun q => ?_) (fun q => ?_)
  · rw [d2] at q
    have k := k0 q
    refine am_cv ?_
    refine aw_iconst dX8_bestWind_5 (by decide) ?_
    refine a_is2 rfl rfl dX8_bestWind_6 ?_
    refine aw_iconst dX8_bestWind_7 (by decide) ?_
    refine a_is3 rfl rfl dX8_bestWind_8 ?_
    refine aw_iconst dX8_bestWind_9 (by decide) ?_
    refine a_is4 rfl rfl dX8_bestWind_10 ?_
    refine aw_loop (fun q : Int × (Int → Int) × Int × Int × AV × AH => 0 ≤ q.1 ∧ q.1 ≤ 8 ∧ DrF h q.2.2.2.2.2 ∧ am_n2 q.2.2.2.2.1 = true ∧ (q.2.2.1, q.2.2.2.1) = pick q.2.1 0 0 (q.1 - 0).toNat ∧ (∀ l, 0 ≤ l → l < q.1 → ∀ g', Runs (up h 141 5 l 141) 0 g' → q.2.1 l = sumN (hulN g' f) (h 141 3).toNat)) (fun q => (8 - q.1).toNat) (fun q => AW mX8_bestWind 7 0 0 K 159 12 [(2, 0), (0, f), (0, q.2.2.1), (0, q.2.2.2.1), (0, q.1), q.2.2.2.2.1] [] q.2.2.2.2.2) (fun q3 hq ih => ?_) (0, (fun _ => 0), 0, -1, (9, 0), h) ⟨by dsimp only; omega, by dsimp only; omega, fun _ _ _ => rfl, rfl, rfl, fun l a c => by dsimp only at c; omega⟩
    obtain ⟨l, V, b, mo, v6, h1⟩ := q3
    obtain ⟨l0, l1, hf, hv, ebm, hV⟩ := hq
    dsimp only at l0 l1 hf hv ebm hV ih ⊢
    refine a_il4 dX8_bestWind_12 ?_
    refine aw_bipush dX8_bestWind_14 (by decide) ?_
    refine aw_icmp_ge 80 dX8_bestWind_16 (by decide) (fun c16 => ?_) (fun c16 => ?_)
    · have el : l = 8 := by omega
      refine a_il2 dX8_bestWind_80 ?_
      refine aw_iret dX8_bestWind_81 rfl ?_
      refine k h1 b hf (fun F hF => ?_)
      rw [el] at hV ebm
      have e2 : pick V 0 0 8 = pick (fun d => sumN (hulN (F d) f) (h 141 3).toNat) 0 0 8 := pick_eq 8 (fun q a c => hV q a (by omega) (F q) (hF q a (by omega)))
      rw [← e2]
      exact congrArg Prod.fst ebm
    · have l7 : l ≤ 7 := by omega
      refine a_al0 (by decide) dX8_bestWind_19 ?_
      refine aw_getR (r := 15) 3 rfl dX8_bestWind_20 fl_X8_28 at_0 rfl rfl ?_
      try simp (disch := omega) only [up_at, up_ne]
      refine a_al0 (by decide) dX8_bestWind_23 ?_
      refine aw_getR (r := 5) 2 rfl dX8_bestWind_24 fl_X8_24 at_0 rfl rfl ?_
      try simp (disch := omega) only [up_at, up_ne]
      refine aw_callV 2 0 0 dX8_bestWind_27 yw_X3_copyFrom ml_X8_108 in_X3_copyFrom se_X3_copyFrom (ci := 2) rfl at_15 (as := [_]) rfl rfl ⟨by decide, by decide, by decide, Nat.le_of_ble_eq_true rfl⟩ ?_
      refine ac_copyFrom sh_15 sh_5 (by decide) (fun h2 f2 e2 => ?_)
      have P2 := PS_eq (g := h) t3 t2 (shEq_trans (DrF_eq hf) e2) hS.1
      have P3 := PS_wind (d := l) (Or.inr rfl) t3 P2
      obtain ⟨g0, hg0⟩ : ∃ g0, g0 = up h 141 5 l := ⟨_, rfl⟩
      have T0 : tOk g0 := by rw [hg0]; exact tOk_wind ⟨l0, l7⟩ hT
      have O0 : PO g0 := by
        rw [hg0]
        intro j j0 j1
        rw [up_ne (by omega)] at j1
        rw [up_ne (by omega), up_ne (by omega), up_ne (by omega), up_ne (by omega), up_ne (by omega), up_ne (by omega), up_ne (by omega)]
        exact hS.2.1 j j0 j1
      have H0 : HO g0 := by
        rw [hg0]
        intro j j0 j1
        rw [up_ne (by omega)] at j1
        exact (HOj_eq (up_ne (by omega)) (up_ne (by omega))).mpr (RO_HO hS.2.2.2 j j0 j1)
      obtain ⟨h3, hh3⟩ : ∃ h3, h3 = up h2 15 5 l := ⟨_, rfl⟩
      have P4 : PS0 True h3 15 g0 := by rw [hh3, hg0]; exact P3
      have g3 : g0 141 3 = h 141 3 := by rw [hg0, up_ne (by omega)]
      refine am_cv ?_
      refine a_al0 (by decide) dX8_bestWind_30 ?_
      refine aw_getR (r := 15) 3 rfl dX8_bestWind_31 fl_X8_28 at_0 rfl rfl ?_
      try simp (disch := omega) only [up_at, up_ne]
      refine a_il4 dX8_bestWind_34 ?_
      refine aw_put 5 dX8_bestWind_36 fp_X8_120 at_15 rfl ?_
      refine a_al0 (by decide) dX8_bestWind_39 ?_
      refine aw_getR (r := 25) 4 rfl dX8_bestWind_40 fl_X8_34 at_0 rfl rfl ?_
      try simp (disch := omega) only [up_at, up_ne]
      refine a_al0 (by decide) dX8_bestWind_43 ?_
      refine aw_getR (r := 15) 3 rfl dX8_bestWind_44 fl_X8_28 at_0 rfl rfl ?_
      try simp (disch := omega) only [up_at, up_ne]
      refine aw_bipush dX8_bestWind_47 (by decide) ?_
      refine aw_callV 5 0 0 dX8_bestWind_49 yw_X6_carryOut ml_X8_264 in_X6_carryOut se_X6_carryOut (ci := 5) rfl at_25 (as := [_, _]) rfl rfl ⟨by decide, by decide, by decide, Nat.le_of_ble_eq_true rfl⟩ ?_
      rw [← hh3]
      have gs2 : GS h3 15 g0 := GS_n T0 P4 O0
      refine ac_carryOut (fl := True) (G := GS h3 15) (Or.inr rfl) (by decide) ⟨g0, gs2⟩ (fun g hg => hg) (fun h4 f4 q4 qE => ?_)
      have D4 := dr_0 T0 P4 O0 f4 q4
      rw [g3, hg0] at D4
      obtain ⟨n4, hu4⟩ := dr_h gs2 H0 q4 (qE g0 gs2)
      have e43 : h4 15 3 = h 141 3 := by
        rw [f4 15 3 (by omega) (by decide) (by decide) (by decide) (by omega) (by omega), hh3, up_ne (by omega)]
        exact P2.1.2.2.2.1
      have hf4 : DrF h h4 := fun k y a => by
        rw [f4 k y (by omega) (by omega) (by omega) (by omega) (by omega) (by omega), hh3, up_ne (by omega), f2 k y (by omega), hf k y a]
      obtain ⟨v, hv4⟩ : ∃ v, v = sumN (cHul h4 15 f) (h4 15 3).toNat := ⟨_, rfl⟩
      obtain ⟨W, hW⟩ : ∃ W : Int → Int, W = fun y => if y = l then v else V y := ⟨_, rfl⟩
      have Wl : W l = v := by rw [hW]; exact if_pos rfl
      have Wo : ∀ y, y ≠ l → W y = V y := fun y a => by rw [hW]; exact if_neg a
      have ep : pick W 0 0 (l - 0).toNat = pick V 0 0 (l - 0).toNat := pick_eq _ (fun y a c => Wo y (by omega))
      have es := pick_s (f := W) (b0 := 0) l0
      rw [ep, ← ebm, Wl] at es
      dsimp only at es
      have fin : ∀ b2 m2, (b2, m2) = pick W 0 0 (l + 1 - 0).toNat → AW mX8_bestWind 7 0 0 K 159 74 [(2, 0), (0, f), (0, b2), (0, m2), (0, l), (0, v)] [] h4 := fun b2 m2 e => by
        refine a_iiR4 (by omega) rfl rfl dX8_bestWind_74 ?_
        refine aw_goto 12 dX8_bestWind_77 (by decide) ?_
        refine ih (l + 1, W, b2, m2, (0, v), h4) ⟨by dsimp only; omega, by dsimp only; omega, hf4, rfl, e, fun y a c g' hr => ?_⟩ (by dsimp only; omega)
        dsimp only at c ⊢
        by_cases yl : y = l
        · rw [yl] at hr
          rw [yl, Wl, hv4, e43]
          refine sumN_eq _ (fun i i0 i1 => ?_)
          obtain ⟨r1, r2, -⟩ := D4 g' hr
          have ef := r2 i f i0 (by omega)
          unfold cHul hulN
          by_cases z : cFl h4 15 f i
          · rw [if_pos z, if_pos (ef.mp z)]
            exact r1 i 4 i0 (by omega) (by decide) (by decide)
          · rw [if_neg z, if_neg (fun x => z (ef.mpr x))]
        · rw [Wo y yl]
          exact hV y a (by omega) g' hr
      refine am_cv ?_
      refine a_al0 (by decide) dX8_bestWind_52 ?_
      refine aw_getR (r := 15) 3 rfl dX8_bestWind_53 fl_X8_28 at_0 rfl rfl ?_
      try simp (disch := omega) only [up_at, up_ne]
      refine a_il1 dX8_bestWind_56 ?_
      refine aw_callV 4 0 0 dX8_bestWind_57 yw_X3_hullOf ml_X8_166 in_X3_hullOf se_X3_hullOf (ci := 2) rfl at_15 (as := [_]) rfl rfl ⟨by decide, by decide, by decide, Nat.le_of_ble_eq_true rfl⟩ ?_
      refine ac_hullOf (Or.inr rfl) n4 (fun i a c => ?_) ?_
      · have r := hu4 i a c
        rw [show h4 (15 + 2) (i * 11 + 4) = h4 17 (i * 11 + 4) from rfl]
        omega
      rw [← hv4]
      refine am_ci ?_
      try simp (disch := omega) only [up_at, up_ne]
      refine a_is5 rfl rfl dX8_bestWind_60 ?_
      refine a_il5 dX8_bestWind_62 ?_
      refine a_il3 dX8_bestWind_64 ?_
      refine aw_icmp_le 74 dX8_bestWind_65 (by decide) (fun c65 => ?_) (fun c65 => ?_)
      · skip
        refine fin b mo ?_
        rw [es, if_pos (by assumption)]
      · refine a_il5 dX8_bestWind_68 ?_
        refine a_is3 rfl rfl dX8_bestWind_70 ?_
        refine a_il4 dX8_bestWind_71 ?_
        refine a_is2 rfl rfl dX8_bestWind_73 ?_
        refine fin l v ?_
        rw [es, if_neg (by omega)]
  · rw [d2] at q
    exact am_cx rfl (k1 q)
