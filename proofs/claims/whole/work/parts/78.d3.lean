/-! the class: spares, the best wind -/
theorem tOk_PS {g : AH} (hT : tOk g) : g 141 3 ≤ 12 ∧ g 141 2 ≤ 4 ∧ g 141 9 ≤ 8 := ⟨hT.2.2.1.2, hT.2.2.2.2.1.2, hT.2.2.2.2.2.2.1.2⟩
/-- the answer of a turn that would be, from its shift on -/
theorem dr_1 {h1 h2 g : AH} {x : Int} (hT : tOk g) (P1 : PS0 True h1 15 g) (O1 : PO g) (R1 : ShRel h1 15 g) (hx : isFst (cSh h1 15 (h1 15 4)) (h1 15 7) x) (f2 : coFr (cShift h1 15 x) 15 h2) (q1 : ∀ g2 g3, GS (cShift h1 15 x) 15 g2 → PN 6 0 (rst g2) g3 → PR0 True h2 15 g3 ∧ PO g3) : ∀ g', Runs (g 141) 1 g' → Dr h2 15 (g 141 3) g' := fun g' ⟨g1, eg, hgo⟩ => by
  obtain ⟨t3, t2, t9⟩ := tOk_PS hT
  have d3 : h2 15 3 = g 141 3 := by
    rw [f2 15 3 (by omega) (by decide) (by decide) (by decide) (by omega) (by omega), cShift_f (by omega)]
    exact P1.1.2.2.2.1
  have P2 := PS0_row (g2 := g1) t3 t2 (fun y a c d => eg y a (by omega)) P1
  have O2 := PO_row (g2 := g1) t3 (fun y a c d e f => eg y a (by omega)) O1
  have R2 : ShRel h1 15 g1 := by
    have e9 := eg 9 (by decide) (by decide)
    refine ⟨by rw [e9]; exact R1.1, fun s w s0 s1 w0 w1 => ?_⟩
    rw [e9] at s1
    rw [eg _ (by omega) (by omega)]
    exact R1.2 s w s0 s1 w0 w1
  obtain ⟨g2, g3, a, c, d⟩ := GO_1 (Or.inr rfl) (tOk_eqr eg hT) P2 O2 R2 hx hgo
  have p := (q1 g2 g3 a c).1
  exact Dr_of ⟨by rw [← d3]; exact p.1.2.2.2.1.symm, t3⟩ p d
theorem dr_0 {h1 h2 g : AH} (hT : tOk g) (P1 : PS0 True h1 15 g) (O1 : PO g) (f2 : coFr h1 15 h2) (q1 : ∀ g2 g3, GS h1 15 g2 → PN 6 0 (rst g2) g3 → PR0 True h2 15 g3 ∧ PO g3) : ∀ g', Runs (g 141) 0 g' → Dr h2 15 (g 141 3) g' := fun g' ⟨g1, eg, hgo⟩ => by
  obtain ⟨t3, t2, t9⟩ := tOk_PS hT
  have d3 : h2 15 3 = g 141 3 := by
    rw [f2 15 3 (by omega) (by decide) (by decide) (by decide) (by omega) (by omega)]
    exact P1.1.2.2.2.1
  have P2 := PS0_row (g2 := g1) t3 t2 (fun y a c d => eg y a (by omega)) P1
  have O2 := PO_row (g2 := g1) t3 (fun y a c d e f => eg y a (by omega)) O1
  obtain ⟨g2, g3, a, c, d⟩ := GO_0 (tOk_eqr eg hT) P2 O2 hgo
  have p := (q1 g2 g3 a c).1
  exact Dr_of ⟨by rw [← d3]; exact p.1.2.2.2.1.symm, t3⟩ p d
/-- hulls behind it are not below 0 -/
theorem dr_h {h1 h2 g : AH} (gs : GS h1 15 g) (ho : HO g) (q1 : ∀ g2 g3, GS h1 15 g2 → PN 6 0 (rst g2) g3 → PR0 True h2 15 g3 ∧ PO g3) (qE : ∃ g', PN 6 0 (rst g) g') : (0 ≤ h2 15 3 ∧ h2 15 3 ≤ 12) ∧ ∀ i, 0 ≤ i → i < h2 15 3 → 0 ≤ h2 17 (i * 11 + 4) ∧ h2 17 (i * 11 + 4) ≤ 99 := by
  obtain ⟨g', hp⟩ := qE
  have p := (q1 g g' gs hp).1
  have R : ∀ x, x ≠ 7 → rst g 141 x = g 141 x := fun x a => rst_f (by omega) (by omega) (by decide) (by decide)
  have hr : HO (rst g) := fun j j0 j1 => by
    rw [R 3 (by decide)] at j1
    exact (HOj_eq (R _ (by omega)) (R _ (by omega))).mpr (ho j j0 j1)
  have h9 := (PN_HO 6 0 (rst g) g' 72 hp (by decide) (by decide) gs.1 (by decide) (by decide) (by rw [R 4 (by decide)]; exact gs.2.1) hr).1
  have n9 := (PN_ok 6 0 (rst g) g' 72 hp (by decide) (by decide) gs.1 (by decide) (by decide)).1.2.2.1.1
  rw [show h2 15 3 = g' 141 3 from p.1.2.2.2.1]
  refine ⟨n9, fun i i0 i1 => ?_⟩
  have s4 := (p.2.1 i i0 i1).1 4 (by decide) (by decide)
  rw [show h2 17 (i * 11 + 4) = g' 141 (46 + 25 * i + 4) from s4]
  have := h9 i i0 i1
  by_cases z : g' 141 (46 + 25 * i + 10) = -1
  · have := this.1 z
    omega
  · have := this.2 z
    omega
theorem RO_HO {g : AH} (h : RO g) : HO g := fun j j0 j1 => (h.2.2.2.2.1 j j0 j1).2
theorem pick_b {f : Int → Int} {lo b0 b1 : Int} (h : -1 < f lo) : ∀ n : Nat, pick f lo b0 (n + 1) = pick f lo b1 (n + 1)
  | 0 => by
    show (if f (lo + (0 : Nat)) ≤ (b0, (-1 : Int)).2 then (b0, -1) else (lo + (0 : Nat), f (lo + (0 : Nat)))) = (if f (lo + (0 : Nat)) ≤ (b1, (-1 : Int)).2 then (b1, -1) else (lo + (0 : Nat), f (lo + (0 : Nat))))
    rw [show lo + ((0 : Nat) : Int) = lo by omega, if_neg (by show ¬ f lo ≤ -1; omega), if_neg (by show ¬ f lo ≤ -1; omega)]
  | n + 1 => by
    show (if f (lo + ((n + 1 : Nat) : Int)) ≤ (pick f lo b0 (n + 1)).2 then pick f lo b0 (n + 1) else (lo + ((n + 1 : Nat) : Int), f (lo + ((n + 1 : Nat) : Int)))) = (if f (lo + ((n + 1 : Nat) : Int)) ≤ (pick f lo b1 (n + 1)).2 then pick f lo b1 (n + 1) else (lo + ((n + 1 : Nat) : Int), f (lo + ((n + 1 : Nat) : Int))))
    rw [pick_b h n]
theorem PS_ord {fl : Prop} {h g : AH} {b i p l : Int} (hB : b = 5 ∨ b = 15) (hi : 0 ≤ i ∧ i < g 141 3) (hn : g 141 3 ≤ 12) (hp : 0 ≤ p ∧ p ≤ 5) (hl : 0 ≤ l ∧ l ≤ 4) (hf : g 141 2 ≤ 4) (hP : PS0 fl h b g) : PS0 fl (up h (b + 3) i (cWi (h (b + 3) i) p l)) b (up g 141 (46 + 25 * i + (11 + p)) l) := by
  obtain ⟨⟨d0, d1, d2, d3, d4, d5, d6⟩, hS, hq⟩ := hP
  have E : ∀ x, x < 46 → up g 141 (46 + 25 * i + (11 + p)) l 141 x = g 141 x := fun x a => up_ne (by omega)
  have E3 := E 3 (by decide)
  have E2 := E 2 (by decide)
  refine ⟨⟨?_, ?_, ?_, ?_, ?_, ?_, ?_⟩, fun j j0 j1 => ?_, fun f f0 f1 => ?_⟩
  · rw [E 0 (by decide), up_ne (by omega), d0]
  · rw [E 1 (by decide), up_ne (by omega), d1]
  · rw [E2, up_ne (by omega), d2]
  · rw [E3, up_ne (by omega), d3]
  · rw [E 4 (by decide), up_ne (by omega), d4]
  · rw [E 5 (by decide), up_ne (by omega), d5]
  · rw [E 6 (by decide), up_ne (by omega), d6]
  · rw [E3] at j1
    obtain ⟨s1, s2, s3, s4⟩ := hS j j0 j1
    refine ⟨fun w w0 w1 => ?_, ?_, fun q => ?_, fun q q0 q1 => ?_⟩
    · rw [up_ne (by omega), up_ne (by omega)]
      exact s1 w w0 w1
    · rw [up_ne (by omega), up_ne (by omega)]
      exact s2
    · rw [up_ne (by omega), up_ne (by omega)]
      exact s3 q
    · by_cases e : j = i
      · rw [e, up_at, cLt_with hp hl ⟨q0, q1⟩]
        by_cases e2 : q = p
        · rw [e2, if_pos rfl, up_at]
        · rw [if_neg e2, up_ne (by omega), ← e]
          exact s4 q q0 q1
      · rw [up_ne (by omega), up_ne (by omega)]
        exact s4 q q0 q1
  · rw [E2] at f1
    rw [up_ne (by omega), up_ne (by omega)]
    exact hq f f0 f1
theorem cx_spares {i p : Int} {h : AH} {K : AO → Nat → AH → Prop} (hS : SR h 5 h) (k1 : ¬ ((0 ≤ i ∧ i < h 141 3) ∧ 0 ≤ p ∧ p ≤ 5) → K (.inr xI) 159 h) (k0 : 0 ≤ i ∧ i < h 141 3 → 0 ≤ p ∧ p ≤ 5 → ∀ h' v, DrF h h' → (∀ F : Int → AH, (∀ l, 1 ≤ l → l ≤ 4 → Runs (up h 141 (46 + 25 * i + (11 + p)) l 141) 1 (F l)) → v = (pick (fun l => F l 141 (46 + 25 * i + 4)) 1 0 4).1) → K (.inl (some (0, v))) 159 h') : AC mX8_spares 7 2 12 159 [(2, 0), (0, i), (0, p)] h K := by
  have d3 := hS.1.1.2.2.2.1
  have hT := hS.2.2.2.1
  obtain ⟨t3, t2, t9⟩ := tOk_PS hT
  have n3 := hT.2.2.1
  have n9 := hT.2.2.2.2.2.2.1
  have e0 : ∀ h1, DrF h h1 → shEq h 5 h1 5 := fun h1 hf => by
    refine ⟨fun x _ _ => hf _ _ (by omega), fun x _ _ => hf _ _ (by omega), fun x _ _ => hf _ _ (by omega), fun x _ _ => hf _ _ (by omega), fun x _ _ => hf _ _ (by omega), fun x _ _ => hf _ _ (by omega), fun x _ _ => hf _ _ (by omega), fun x _ _ => hf _ _ (by omega), fun x _ _ => hf _ _ (by omega), fun x _ _ => hf _ _ (by omega)⟩
  refine ac_of (ls := [(2, 0), (0, i), (0, p), (9, 0), (9, 0), (9, 0), (9, 0)]) pn_X8 rfl (Nat.le_of_ble_eq_true rfl) rfl ?_
  refine a_al0 (by decide) dX8_spares_0 ?_
  refine a_il1 dX8_spares_1 ?_
  refine aw_callV 6 1 6 dX8_spares_2 yw_X8_needShip ml_X8_147 in_X8_needShip se_X8_needShip (ci := 7) rfl at_0 (as := [_]) rfl rfl ⟨by decide, by decide, by decide, Nat.le_of_ble_eq_true rfl⟩ ?_
  refine ac_needShip (fun q => ?_) (fun q => ?_)
  · rw [d3] at q
    refine am_cv ?_
    refine a_il2 dX8_spares_5 ?_
    refine aw_callS 6 1 6 dX8_spares_6 yw_X8_needPulse ml_X8_190 sm_X8_needPulse (as := [_]) rfl rfl ⟨by decide, by decide, by decide, Nat.le_of_ble_eq_true rfl⟩ ?_
    refine ac_needPulse (fun q2 => ?_) (fun q2 => ?_)
    · have k := k0 q q2
      refine am_cv ?_
      refine aw_iconst dX8_spares_9 (by decide) ?_
      refine a_is3 rfl rfl dX8_spares_10 ?_
      refine aw_iconst dX8_spares_11 (by decide) ?_
      refine a_is4 rfl rfl dX8_spares_12 ?_
      refine aw_iconst dX8_spares_14 (by decide) ?_
      refine a_is5 rfl rfl dX8_spares_15 ?_
      refine aw_loop (fun q : Int × (Int → Int) × Int × Int × AV × AH => 1 ≤ q.1 ∧ q.1 ≤ 5 ∧ DrF h q.2.2.2.2.2 ∧ am_n2 q.2.2.2.2.1 = true ∧ (q.2.2.1, q.2.2.2.1) = pick q.2.1 1 1 (q.1 - 1).toNat ∧ (∀ l, 1 ≤ l → l < q.1 → (0 ≤ q.2.1 l ∧ q.2.1 l ≤ 99) ∧ ∀ g', Runs (up h 141 (46 + 25 * i + (11 + p)) l 141) 1 g' → q.2.1 l = g' 141 (46 + 25 * i + 4))) (fun q => (5 - q.1).toNat) (fun q => AW mX8_spares 7 0 0 K 159 17 [(2, 0), (0, i), (0, p), (0, q.2.2.1), (0, q.2.2.2.1), (0, q.1), q.2.2.2.2.1] [] q.2.2.2.2.2) (fun q3 hq ih => ?_) (1, (fun _ => 0), 1, -1, (9, 0), h) ⟨by dsimp only; omega, by dsimp only; omega, fun _ _ _ => rfl, rfl, rfl, fun l a c => by dsimp only at c; omega⟩
      obtain ⟨l, V, b, mo, v6, h1⟩ := q3
      obtain ⟨l0, l1, hf, hv, ebm, hV⟩ := hq
      dsimp only at l0 l1 hf hv ebm hV ih ⊢
      refine a_il5 dX8_spares_17 ?_
      refine aw_iconst dX8_spares_19 (by decide) ?_
      refine aw_icmp_gt 109 dX8_spares_20 (by decide) (fun c20 => ?_) (fun c20 => ?_)
      · have el : l = 5 := by omega
        refine a_il3 dX8_spares_109 ?_
        refine aw_iret dX8_spares_110 rfl ?_
        refine k h1 b hf (fun F hF => ?_)
        rw [el] at hV ebm
        have e1 : pick V 1 1 4 = pick V 1 0 4 := pick_b (by have := (hV 1 (by decide) (by decide)).1; omega) 3
        have e2 : pick V 1 0 4 = pick (fun l => F l 141 (46 + 25 * i + 4)) 1 0 4 := pick_eq 4 (fun q a c => (hV q a (by omega)).2 (F q) (hF q a (by omega)))
        rw [← e2, ← e1]
        exact congrArg Prod.fst ebm
      · have l4 : l ≤ 4 := by omega
        refine a_al0 (by decide) dX8_spares_23 ?_
        refine aw_getR (r := 15) 3 rfl dX8_spares_24 fl_X8_28 at_0 rfl rfl ?_
        try simp (disch := omega) only [up_at, up_ne]
        refine a_al0 (by decide) dX8_spares_27 ?_
        refine aw_getR (r := 5) 2 rfl dX8_spares_28 fl_X8_24 at_0 rfl rfl ?_
        try simp (disch := omega) only [up_at, up_ne]
        refine aw_callV 2 0 0 dX8_spares_31 yw_X3_copyFrom ml_X8_108 in_X3_copyFrom se_X3_copyFrom (ci := 2) rfl at_15 (as := [_]) rfl rfl ⟨by decide, by decide, by decide, Nat.le_of_ble_eq_true rfl⟩ ?_
        refine ac_copyFrom sh_15 sh_5 (by decide) (fun h2 f2 e2 => ?_)
        have e25 : shEq h 5 h2 15 := by
          obtain ⟨a0, a1, a2, a3, a4, a5, a6, a7, a8, a9⟩ := e0 h1 hf
          obtain ⟨c0, c1, c2, c3, c4, c5, c6, c7, c8, c9⟩ := e2
          exact ⟨fun x a b => by rw [c0 x a b, a0 x a b], fun x a b => by rw [c1 x a b, a1 x a b], fun x a b => by rw [c2 x a b, a2 x a b], fun x a b => by rw [c3 x a b, a3 x a b], fun x a b => by rw [c4 x a b, a4 x a b], fun x a b => by rw [c5 x a b, a5 x a b], fun x a b => by rw [c6 x a b, a6 x a b], fun x a b => by rw [c7 x a b, a7 x a b], fun x a b => by rw [c8 x a b, a8 x a b], fun x a b => by rw [c9 x a b, a9 x a b]⟩
        have P2 := PS_eq (g := h) t3 t2 e25 hS.1
        have R2 := Sh_eq (g := h) t9 e25 (SR_sr hS)
        have P3 := PS_ord (i := i) (p := p) (l := l) (Or.inr rfl) q t3 q2 (by omega) t2 P2
        obtain ⟨g0, hg0⟩ : ∃ g0, g0 = up h 141 (46 + 25 * i + (11 + p)) l := ⟨_, rfl⟩
        have T0 : tOk g0 := by rw [hg0]; exact tOk_ord q.1 q2 ⟨l0, l4⟩ q.2 hT
        have O0 : PO g0 := by
          rw [hg0]
          intro j j0 j1
          rw [up_ne (by omega)] at j1
          rw [up_ne (by omega), up_ne (by omega), up_ne (by omega), up_ne (by omega), up_ne (by omega), up_ne (by omega), up_ne (by omega)]
          exact hS.2.1 j j0 j1
        have H0 : HO g0 := by
          rw [hg0]
          intro j j0 j1
          rw [up_ne (by omega)] at j1
          exact (HOj_eq (up_ne (by omega)) (up_ne (by omega))).mpr (RO_HO hS.2.2.2 j j0 j1)
        obtain ⟨h3, hh3⟩ : ∃ h3, h3 = up h2 18 i (cWi (h2 18 i) p l) := ⟨_, rfl⟩
        have P4 : PS0 True h3 15 g0 := by rw [hh3, hg0]; exact P3
        have R4 : ShRel h3 15 g0 := by
          refine ⟨by rw [hh3, hg0, up_ne (by omega), up_ne (by omega)]; exact R2.1, fun s w s0 s1 w0 w1 => ?_⟩
          rw [hg0, up_ne (by omega)] at s1
          rw [hh3, hg0, up_ne (by omega), up_ne (by omega)]
          exact R2.2 s w s0 s1 w0 w1
        have g3 : g0 141 3 = h 141 3 := by rw [hg0, up_ne (by omega)]
        refine am_cv ?_
        refine a_al0 (by decide) dX8_spares_34 ?_
        refine aw_getR (r := 15) 3 rfl dX8_spares_35 fl_X8_28 at_0 rfl rfl ?_
        try simp (disch := omega) only [up_at, up_ne]
        refine aw_getR (r := 18) 11 rfl dX8_spares_38 fl_X8_193 at_15 rfl rfl ?_
        try simp (disch := omega) only [up_at, up_ne]
        refine a_il1 dX8_spares_41 ?_
        refine a_al0 (by decide) dX8_spares_42 ?_
        refine aw_getR (r := 15) 3 rfl dX8_spares_43 fl_X8_28 at_0 rfl rfl ?_
        try simp (disch := omega) only [up_at, up_ne]
        refine aw_getR (r := 18) 11 rfl dX8_spares_46 fl_X8_193 at_15 rfl rfl ?_
        try simp (disch := omega) only [up_at, up_ne]
        refine a_il1 dX8_spares_49 ?_
        refine aw_iald dX8_spares_50 ar_18 (by omega) ?_
        try simp (disch := omega) only [up_at, up_ne]
        refine a_il2 dX8_spares_51 ?_
        refine a_il5 dX8_spares_52 ?_
        refine aw_callS 1 0 0 dX8_spares_54 yw_X2_with ml_X8_274 sm_X2_with (as := [_, _, _]) rfl rfl ⟨by decide, by decide, by decide, Nat.le_of_ble_eq_true rfl⟩ ?_
        refine ac_with q2 ?_
        refine am_ci ?_
        try simp (disch := omega) only [up_at, up_ne]
        refine aw_iast dX8_spares_57 ar_18 (by omega) ?_
        refine a_al0 (by decide) dX8_spares_58 ?_
        refine aw_getR (r := 15) 3 rfl dX8_spares_59 fl_X8_28 at_0 rfl rfl ?_
        try simp (disch := omega) only [up_at, up_ne]
        refine aw_callV 3 0 0 dX8_spares_62 yw_X3_shiftWind ml_X8_261 in_X3_shiftWind se_X3_shiftWind (ci := 2) rfl at_15 (as := []) rfl rfl ⟨by decide, by decide, by decide, Nat.le_of_ble_eq_true rfl⟩ ?_
        rw [← hh3]
        refine ac_shiftWind (Or.inr rfl) (by rw [R4.1, hg0, up_ne (by omega)]; exact n9) (fun x hx => ?_)
        refine am_cv ?_
        refine a_al0 (by decide) dX8_spares_65 ?_
        refine aw_getR (r := 25) 4 rfl dX8_spares_66 fl_X8_34 at_0 rfl rfl ?_
        try simp (disch := omega) only [up_at, up_ne]
        refine a_al0 (by decide) dX8_spares_69 ?_
        refine aw_getR (r := 15) 3 rfl dX8_spares_70 fl_X8_28 at_0 rfl rfl ?_
        try simp (disch := omega) only [up_at, up_ne]
        refine aw_bipush dX8_spares_73 (by decide) ?_
        refine aw_callV 5 0 0 dX8_spares_75 yw_X6_carryOut ml_X8_264 in_X6_carryOut se_X6_carryOut (ci := 5) rfl at_25 (as := [_, _]) rfl rfl ⟨by decide, by decide, by decide, Nat.le_of_ble_eq_true rfl⟩ ?_
        have gs0 : ∃ g2, GS (cShift h3 15 x) 15 g2 ∧ HO g2 := by
          have hx2 : x = -1 ∨ (0 ≤ x ∧ x < g0 141 9) := by
            rw [R4.1] at hx
            rcases hx with y | y
            · exact Or.inr ⟨y.1, y.2.1⟩
            · exact Or.inl y.1
          refine ⟨_, GS_shift (Or.inr rfl) T0 (fun _ _ _ => rfl) P4 O0 R4 hx2, fun j j0 j1 => ?_⟩
          rw [mShift_f (by omega)] at j1
          exact (HOj_eq (mShift_f (by omega)) (mShift_f (by omega))).mpr (H0 j j0 j1)
        obtain ⟨g2, gs2, ho2⟩ := gs0
        refine ac_carryOut (fl := True) (G := GS (cShift h3 15 x) 15) (Or.inr rfl) (by decide) ⟨g2, gs2⟩ (fun g hg => hg) (fun h4 f4 q4 qE => ?_)
        have D4 := dr_1 T0 P4 O0 R4 hx f4 q4
        rw [g3, hg0] at D4
        obtain ⟨n4, hu4⟩ := dr_h gs2 ho2 q4 (qE g2 gs2)
        have e43 : h4 15 3 = h 141 3 := by
          rw [f4 15 3 (by omega) (by decide) (by decide) (by decide) (by omega) (by omega), cShift_f (by omega), hh3, up_ne (by omega)]
          exact P2.1.2.2.2.1
        have hui := hu4 i q.1 (by rw [e43]; exact q.2)
        have hf4 : DrF h h4 := fun k y a => by
          rw [f4 k y (by omega) (by omega) (by omega) (by omega) (by omega) (by omega), cShift_f (by omega), hh3, up_ne (by omega), f2 k y (by omega), hf k y a]
        obtain ⟨v, hv4⟩ : ∃ v, v = h4 17 (i * 11 + 4) := ⟨_, rfl⟩
        obtain ⟨W, hW⟩ : ∃ W : Int → Int, W = fun y => if y = l then v else V y := ⟨_, rfl⟩
        have Wl : W l = v := by rw [hW]; exact if_pos rfl
        have Wo : ∀ y, y ≠ l → W y = V y := fun y a => by rw [hW]; exact if_neg a
        have ep : pick W 1 1 (l - 1).toNat = pick V 1 1 (l - 1).toNat := pick_eq _ (fun y a c => Wo y (by omega))
        have es := pick_s (f := W) (b0 := 1) l0
        rw [ep, ← ebm, Wl] at es
        dsimp only at es
        have fin : ∀ b2 m2, (b2, m2) = pick W 1 1 (l + 1 - 1).toNat → AW mX8_spares 7 0 0 K 159 103 [(2, 0), (0, i), (0, p), (0, b2), (0, m2), (0, l), (0, v)] [] h4 := fun b2 m2 e => by
          refine a_iiR5 (by omega) rfl rfl dX8_spares_103 ?_
          refine aw_goto 17 dX8_spares_106 (by decide) ?_
          refine ih (l + 1, W, b2, m2, (0, v), h4) ⟨by dsimp only; omega, by dsimp only; omega, hf4, rfl, e, fun y a c => ?_⟩ (by dsimp only; omega)
          dsimp only at c ⊢
          by_cases yl : y = l
          · rw [yl, Wl, hv4]
            exact ⟨hui, fun g' hr => (D4 g' hr).1 i 4 q.1 q.2 (by decide) (by decide)⟩
          · rw [Wo y yl]
            exact hV y a (by omega)
        refine am_cv ?_
        refine a_al0 (by decide) dX8_spares_78 ?_
        refine aw_getR (r := 15) 3 rfl dX8_spares_79 fl_X8_28 at_0 rfl rfl ?_
        try simp (disch := omega) only [up_at, up_ne]
        refine a_il1 dX8_spares_82 ?_
        refine aw_iconst dX8_spares_83 (by decide) ?_
        refine aw_callV 1 0 0 dX8_spares_84 yw_X3_get ml_X8_153 in_X3_get se_X3_get (ci := 2) rfl at_15 (as := [_, _]) rfl rfl ⟨by decide, by decide, by decide, Nat.le_of_ble_eq_true rfl⟩ ?_
        refine ac_get (Or.inr rfl) (by omega) (by decide) ?_
        rw [show h4 (15 + 2) (i * 11 + 4) = v from hv4.symm]
        refine am_ci ?_
        try simp (disch := omega) only [up_at, up_ne]
        refine a_is6 rfl rfl dX8_spares_87 ?_
        refine a_il6 dX8_spares_89 ?_
        refine a_il4 dX8_spares_91 ?_
        refine aw_icmp_le 103 dX8_spares_93 (by decide) (fun c93 => ?_) (fun c93 => ?_)
        · skip
          refine fin b mo ?_
          rw [es, if_pos (by assumption)]
        · refine a_il6 dX8_spares_96 ?_
          refine a_is4 rfl rfl dX8_spares_98 ?_
          refine a_il5 dX8_spares_100 ?_
          refine a_is3 rfl rfl dX8_spares_102 ?_
          refine fin l v ?_
          rw [es, if_neg (by omega)]
    · exact am_cx rfl (k1 (fun x => q2 x.2))
  · rw [d3] at q
    exact am_cx rfl (k1 (fun x => q x.1))
