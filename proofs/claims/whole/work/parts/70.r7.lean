/-! the class: carryOut beside the model's pulses -/
theorem PN_snoc : ∀ (m : Nat) (p : Int) (h h' : AH), PN (m + 1) p h h' ↔ ∃ g, PN m p h g ∧ PulseM g (p + m) h'
  | 0, p, h, h' => by
    constructor
    · rintro ⟨g, a, c⟩
      refine ⟨h, rfl, ?_⟩
      rw [show h' = g from c, show p + ((0 : Nat) : Int) = p by omega]
      exact a
    · rintro ⟨g, a, c⟩
      rw [show g = h from a, show p + ((0 : Nat) : Int) = p by omega] at c
      exact ⟨h', c, rfl⟩
  | m + 1, p, h, h' => by
    constructor
    · rintro ⟨g, a, c⟩
      obtain ⟨g2, d, e⟩ := (PN_snoc m (p + 1) g h').mp c
      refine ⟨g2, ⟨g, a, d⟩, ?_⟩
      rw [show p + ((m + 1 : Nat) : Int) = p + 1 + m by omega]
      exact e
    · rintro ⟨g2, ⟨g, a, d⟩, e⟩
      refine ⟨g, a, (PN_snoc m (p + 1) g h').mpr ⟨g2, d, ?_⟩⟩
      rw [show p + ((m + 1 : Nat) : Int) = p + 1 + m by omega] at e
      exact e
theorem cSK_fr {b : Int} : ∀ (m : Nat) (i : Int) (h h' : AH), cSK b m i h h' → ∀ k x, k ≠ b + 2 → k ≠ b + 6 → h' k x = h k x
  | 0, i, h, h', hc, k, x, _, _ => by rw [show h' = h from hc]
  | m + 1, i, h, h', ⟨h1, ⟨c1, c2⟩, c3⟩, k, x, a, d => by
    rw [cSK_fr m (i + 1) h1 h' c3 k x a d]
    by_cases z : ¬ h (b + 2) (i * 11 + 1) = -1 ∧ h (b + 2) (i * 11 + 4) ≤ 0
    · exact (c1 z).1 k x (fun q => a q.1) (fun q => d q.1)
    · rw [c2 z]
def PS0 (fl : Prop) (h : AH) (b : Int) (g : AH) : Prop :=
  (h b 0 = g 141 0 ∧ h b 1 = g 141 1 ∧ h b 2 = g 141 2 ∧ h b 3 = g 141 3 ∧ h b 4 = g 141 4 ∧ h b 5 = g 141 5 ∧ h b 6 = g 141 6) ∧
  (∀ i, 0 ≤ i → i < g 141 3 → (∀ w, 0 ≤ w → w ≤ 9 → h (b + 2) (i * 11 + w) = g 141 (46 + 25 * i + w)) ∧ (g 141 (46 + 25 * i + 10) = -1 ↔ ¬ h (b + 2) (i * 11 + 1) = -1) ∧ (fl → h (b + 2) (i * 11 + 10) = g 141 (46 + 25 * i + 10)) ∧ (∀ p, 0 ≤ p → p ≤ 5 → cLt (h (b + 3) i) p = g 141 (46 + 25 * i + (11 + p)))) ∧
  (∀ f, 0 ≤ f → f < g 141 2 → h (b + 6) f = g 141 (34 + 3 * f))
def cRst (h : AH) (b : Int) : AH := up (up (fillH (fillH h 30 12 0) 31 144 (-1)) 25 6 0) b 8 0
theorem cRst_f {h : AH} {b k x : Int} (h1 : ¬ (k = b ∧ x = 8)) (h2 : k ≠ 25 ∧ k ≠ 30 ∧ k ≠ 31) : cRst h b k x = h k x := by
  unfold cRst fillH
  rw [up_ne (by omega), up_ne (by omega), if_neg (by omega), if_neg (by omega)]
theorem PR_rst {fl : Prop} {h g : AH} {b : Int} (hB : b = 5 ∨ b = 15) (hn : 0 ≤ g 141 3 ∧ g 141 3 ≤ 12) (hP : PS0 fl h b g) : PR0 fl (cRst h b) b (rst g) := by
  obtain ⟨⟨d0, d1, d2, d3, d4, d5, d6⟩, hS, hp⟩ := hP
  have R : ∀ x, x ≠ 7 → rst g 141 x = g 141 x := fun x a => rst_f (by omega) (by omega) (by decide) (by decide)
  have R7 : rst g 141 7 = 0 := by
    unfold rst fillH
    rw [if_neg (by omega), if_neg (by omega), up_ne (by omega), up_at]
  have E3 := R 3 (by decide)
  have E2 := R 2 (by decide)
  refine ⟨⟨?_, ?_, ?_, ?_, ?_, ?_, ?_, ?_⟩, fun i i0 i1 => ?_, fun f f0 f1 => ?_, fun k w k0 k1 w0 w1 => ?_, ?_, fun i j i0 ij jn => ?_⟩
  · rw [cRst_f (by omega) (by omega), R 0 (by decide), d0]
  · rw [cRst_f (by omega) (by omega), R 1 (by decide), d1]
  · rw [cRst_f (by omega) (by omega), R 2 (by decide), d2]
  · rw [cRst_f (by omega) (by omega), R 3 (by decide), d3]
  · rw [cRst_f (by omega) (by omega), R 4 (by decide), d4]
  · rw [cRst_f (by omega) (by omega), R 5 (by decide), d5]
  · rw [cRst_f (by omega) (by omega), R 6 (by decide), d6]
  · rw [R7]
    unfold cRst
    rw [up_at]
  · rw [E3] at i1
    obtain ⟨s1, s2, s3, s4⟩ := hS i i0 i1
    refine ⟨fun w w0 w1 => ?_, ?_, fun q => ?_, fun p p0 p1 => ?_, ?_, ?_⟩
    · rw [cRst_f (by omega) (by omega), R _ (by omega)]
      exact s1 w w0 w1
    · rw [cRst_f (by omega) (by omega), R _ (by omega)]
      exact s2
    · rw [cRst_f (by omega) (by omega), R _ (by omega)]
      exact s3 q
    · rw [cRst_f (by omega) (by omega), R _ (by omega)]
      exact s4 p p0 p1
    · unfold cRst rst fillH
      rw [up_ne (by omega), up_ne (by omega), if_neg (by omega), if_pos (by omega), if_neg (by omega), if_pos (by omega)]
    · unfold cRst fillH
      rw [up_ne (by omega), up_ne (by omega), if_pos (by omega)]
  · rw [E2] at f1
    rw [cRst_f (by omega) (by omega), R _ (by omega)]
    exact hp f f0 f1
  · rw [R7] at k1
    omega
  · unfold cRst rst fillH
    rw [up_ne (by omega), up_at, if_neg (by omega), if_neg (by omega), up_at]
  · rw [E3] at jn
    have e1 : rst g 154 (12 * i + j) = -1 := by
      unfold rst fillH
      rw [if_pos (by omega)]
    have e2 : ∀ x, 0 ≤ x → x < 144 → cRst h b 31 x = -1 := fun x a c => by
      unfold cRst fillH
      rw [up_ne (by omega), up_ne (by omega), if_pos (by omega)]
    rw [e1, e2 _ (by omega) (by omega), e2 _ (by omega) (by omega)]
    exact ⟨rfl, rfl⟩
theorem PO_rst {g : AH} (hO : PO g) : PO (rst g) := by
  have R : ∀ x, x ≠ 7 → rst g 141 x = g 141 x := fun x a => rst_f (by omega) (by omega) (by decide) (by decide)
  intro i i0 i1
  rw [R 3 (by decide)] at i1
  rw [R (46 + 25 * i + 0) (by omega), R (46 + 25 * i + 10) (by omega), R (46 + 25 * i + 1) (by omega), R (46 + 25 * i + 2) (by omega), R 0 (by decide), R 1 (by decide), R 2 (by decide)]
  exact hO i i0 i1
theorem ac_pulseC {fl : Prop} {b p n : Int} {h : AH} {G : AH → Prop} {K : AO → Nat → AH → Prop} (hB : b = 5 ∨ b = 15) (hp : 0 ≤ p ∧ p ≤ 5) (hE : ∃ g, G g) (hG : ∀ g, G g → puOk g p ∧ 0 ≤ g 141 4 ∧ PR0 fl h b g ∧ PO g)
  (kk : ∀ h', coFr h b h' → (∀ g g', G g → PulseM g p g' → PR0 fl h' b g' ∧ PO g') → (∀ g, G g → ∃ g', PulseM g p g') → AW mX6_carryOut 5 0 0 K 159 55 [(2, 25), (2, b), (0, n), (0, p)] [] h') : AW mX6_carryOut 5 0 0 K 159 33 [(2, 25), (2, b), (0, n), (0, p)] [] h := by
  have hb := sh_ab hB
  obtain ⟨g0, hg0⟩ := hE
  have hn3 : ∀ g, G g → h b 3 = g 141 3 := fun g hg => (hG g hg).2.2.1.1.2.2.2.1
  obtain ⟨⟨ob, os, orr, om, od⟩, o4, oP, oO⟩ := hG g0 hg0
  have e3 := hn3 g0 hg0
  obtain ⟨⟨d0, d1, d2, d3, d4, d5, d6, d8⟩, hS, -⟩ := oP
  refine a_al0 (by decide) dX6_carryOut_33 ?_
  refine a_al1 (am_sh_rg hb) dX6_carryOut_34 ?_
  refine a_il3 dX6_carryOut_35 ?_
  refine aw_callV 4 0 0 dX6_carryOut_36 yw_X6_steerAll ml_X6_44 in_X6_steerAll se_X6_steerAll (ci := 5) rfl at_25 (as := [_, _]) rfl rfl ⟨by decide, by decide, by decide, Nat.le_of_ble_eq_true rfl⟩ ?_
  refine ac_steerAll hB hp (by rw [e3]; exact orr.1) (fun j j0 j1 => ?_) ?_ (fun h1 hc => ?_)
  · rw [e3] at j1
    obtain ⟨s1, -⟩ := hS j j0 j1
    unfold cSh2
    rw [s1 1 (by decide) (by decide), s1 2 (by decide) (by decide), s1 3 (by decide) (by decide), s1 6 (by decide) (by decide), s1 7 (by decide) (by decide), s1 8 (by decide) (by decide), s1 9 (by decide) (by decide)]
    exact (os j j0 j1).1
  · unfold cBd
    rw [d0, d1, d5, d6]
    exact ob
  have f1 : coFr h b h1 := fun k x a1 a2 a3 a4 a5 a6 => hc.1 k x (fun q => a2 q.1) (by omega)
  have G1 : ∀ g g1, G g → Steered g p (g 141 3) g1 → wOk g1 12 ∧ PR1 fl h1 b g1 ∧ g1 141 3 = g 141 3 := fun g g1 hg hs => by
    obtain ⟨q1, q2, q3, q4⟩ := hG g hg
    have hc' := hc
    rw [hn3 g hg] at hc'
    obtain ⟨r1, r2, r3, r4⟩ := L_steer hB hp q1.2.2.1.1 q1.1 q1.2.2.2.2.1 q1.2.2.1.2.1 q3 q4 hc' hs
    exact ⟨W_steer q1 q2 hs, ⟨r1, r2, r3, r4⟩, hs.1 _ _ (by omega) (by omega)⟩
  obtain ⟨s0, hs0⟩ := E_steer g0 p (g0 141 3)
  refine am_cv ?_
  refine a_al0 (by decide) dX6_carryOut_39 ?_
  refine a_al1 (am_sh_rg hb) dX6_carryOut_40 ?_
  refine a_il3 dX6_carryOut_41 ?_
  refine aw_callV 4 0 0 dX6_carryOut_42 yw_X6_ramAll ml_X6_48 in_X6_ramAll se_X6_ramAll (ci := 5) rfl at_25 (as := [_, _]) rfl rfl ⟨by decide, by decide, by decide, Nat.le_of_ble_eq_true rfl⟩ ?_
  refine ac_ramAll (fl := fl) (G := fun g1 => ∃ g, G g ∧ Steered g p (g 141 3) g1) hB ⟨s0, g0, hg0, hs0⟩ (fun g1 ⟨g, hg, hs⟩ => ⟨(G1 g g1 hg hs).1, (G1 g g1 hg hs).2.1⟩) (fun h2 fr2 q1 q2 => ?_)
  obtain ⟨m0, r0, hr0⟩ := q2 s0 ⟨g0, hg0, hs0⟩
  have e32 : ∀ g g1 g2 m, G g → Steered g p (g 141 3) g1 → RR m p g1 g2 → wOk g2 0 ∧ PR1 fl h2 b g2 ∧ g2 141 3 = g 141 3 := fun g g1 g2 m hg hs hr => by
    obtain ⟨a, c, d⟩ := q1 g1 g2 m ⟨g, hg, hs⟩ hr
    exact ⟨a, c, by rw [d]; exact (G1 g g1 hg hs).2.2⟩
  obtain ⟨w0, ⟨P0, -, -, N0⟩, e0⟩ := e32 g0 s0 r0 m0 hg0 hs0 hr0
  have h23 : h2 b 3 = r0 141 3 := P0.1.2.2.2.1
  refine am_cv ?_
  refine a_al0 (by decide) dX6_carryOut_45 ?_
  refine a_al1 (am_sh_rg hb) dX6_carryOut_46 ?_
  refine aw_callV 2 0 0 dX6_carryOut_47 yw_X6_goAll ml_X6_51 in_X6_goAll se_X6_goAll (ci := 5) rfl at_25 (as := [_]) rfl rfl ⟨by decide, by decide, by decide, Nat.le_of_ble_eq_true rfl⟩ ?_
  refine ac_goAll hB (by rw [h23]; exact w0.2.1.1) (fun j j0 j1 => ?_) (fun h3 hc3 => ?_)
  · rw [h23] at j1
    obtain ⟨t1, t2, -⟩ := N0 j j0 j1
    obtain ⟨s1, -, -, -, s5, -⟩ := P0.2.1 j j0 j1
    obtain ⟨v1, v2⟩ := w0.2.2.1 j j0 j1
    rw [s1 8 (by decide) (by decide), s5]
    refine ⟨?_, v1, v2⟩
    by_cases z : r0 149 j = 0
    · exact Or.inr (by rw [t1, z])
    · obtain ⟨-, u2, u3, u4⟩ := t2 z
      exact Or.inl (by omega)
  have fr3 : coFr h2 b h3 := fun k x a1 a2 a3 a4 a5 a6 => hc3.1 k x (fun q => a2 q.1) (by omega)
  obtain ⟨c0, hc0⟩ := E_came r0 (g0 141 3)
  have G3 : ∀ g g1 g2 g3 m, G g → Steered g p (g 141 3) g1 → RR m p g1 g2 → Came g2 (g 141 3) g3 → (PR0 fl h3 b g3 ∧ PO g3 ∧ Stk h3 g3) ∧ (dOk g3 12 ∧ 0 ≤ g3 141 4 ∧ 0 ≤ g3 141 7) ∧ g3 141 3 = g 141 3 := fun g g1 g2 g3 m hg hs hr hcm => by
    obtain ⟨a, ⟨p1, p2, p3, p4⟩, d⟩ := e32 g g1 g2 m hg hs hr
    have hc' := hc3
    rw [show h2 b 3 = g2 141 3 from p1.1.2.2.2.1] at hc'
    rw [← d] at hcm
    refine ⟨L_came hB a.1 a.2.2.2.1.1 a.2.1.1.2 a.2.1.2.1.1 p1 p2 p3 p4 hc' hcm, W_came a hcm, ?_⟩
    rw [← d]
    exact hcm.1 _ _ (by omega) (by omega)
  obtain ⟨⟨P3, -, -⟩, ⟨D3, -, -⟩, e03⟩ := G3 g0 s0 r0 c0 m0 hg0 hs0 hr0 hc0
  obtain ⟨⟨-, -, x2, x3, -⟩, xS, xp, -⟩ := P3
  refine am_cv ?_
  refine a_al0 (by decide) dX6_carryOut_50 ?_
  refine a_al1 (am_sh_rg hb) dX6_carryOut_51 ?_
  refine aw_callV 3 0 0 dX6_carryOut_52 yw_X6_sinkAll ml_X6_55 in_X6_sinkAll se_X6_sinkAll (ci := 5) rfl at_25 (as := [_]) rfl rfl ⟨by decide, by decide, by decide, Nat.le_of_ble_eq_true rfl⟩ ?_
  refine ac_sinkAll hB ?_ (fun h4 hk => ?_)
  · obtain ⟨y1, y2, y3, y4⟩ := D3
    unfold cdOk
    rw [x2, x3]
    refine ⟨y1, y2, fun x a c => ?_, fun f a c => ?_⟩
    · rw [(xS x a c).1 5 (by decide) (by decide)]
      exact y3 x a c
    · rw [xp f a c]
      exact y4 f a c
  refine am_cv ?_
  refine kk h4 (coFr_trans f1 (coFr_trans fr2 (coFr_trans fr3 (fun k x a1 a2 a3 a4 a5 a6 => cSK_fr _ _ _ _ hk k x a2 a4)))) (fun g g' hg hpm => ?_) (fun g hg => by
    obtain ⟨s, hs⟩ := E_steer g p (g 141 3)
    obtain ⟨m, r, hr⟩ := q2 s ⟨g, hg, hs⟩
    obtain ⟨c, hc⟩ := E_came r (g 141 3)
    obtain ⟨-, ⟨dd, -, -⟩, -⟩ := G3 g s r c m hg hs hr hc
    obtain ⟨k, hk⟩ := E_SK (g 141 3).toNat 0 c (by decide) dd.1
    exact ⟨k, s, r, c, m, hs, hr, hc, hk⟩)
  obtain ⟨g1, g2, g3, m, hs, hr, hcm, hsk⟩ := hpm
  obtain ⟨⟨p1, p2, p3⟩, ⟨p4, p5, p6⟩, p7⟩ := G3 g g1 g2 g3 m hg hs hr hcm
  have hk' := hk
  rw [show h3 b 3 = g3 141 3 from p1.1.2.2.2.1] at hk'
  rw [← p7] at hsk
  have nn := p4.2.1
  exact L_SK hB (g3 141 3).toNat 0 h3 g3 h4 g' (by decide) (by omega) p4.1 nn.2 p5 p6 p1 p2 p3 hk' hsk
theorem ac_carryOut {fl : Prop} {b n : Int} {h : AH} {G : AH → Prop} {K : AO → Nat → AH → Prop} (hB : b = 5 ∨ b = 15) (hn : 0 ≤ n ∧ n ≤ 6) (hE : ∃ g, G g) (hG : ∀ g, G g → gOk (rst g) 72 ∧ 0 ≤ g 141 4 ∧ PS0 fl h b g ∧ PO g)
  (kk : ∀ h', coFr h b h' → (∀ g g', G g → PN n.toNat 0 (rst g) g' → PR0 fl h' b g' ∧ PO g') → (∀ g, G g → ∃ g', PN n.toNat 0 (rst g) g') → K (.inl none) 159 h') : AC mX6_carryOut 5 0 0 159 [(2, 25), (2, b), (0, n)] h K := by
  have hb := sh_ab hB
  have nn : ∀ g, G g → 0 ≤ g 141 3 ∧ g 141 3 ≤ 12 := fun g hg => by
    have := (hG g hg).1.2.2.1.1
    rw [rst_f (by omega) (by omega) (by decide) (by decide)] at this
    exact this
  have f0 : coFr h b (cRst h b) := fun k x a1 a2 a3 a4 a5 a6 => by
    unfold cRst fillH
    rw [up_ne (by omega), up_ne (by omega), if_neg (by omega), if_neg (by omega)]
  refine ac_of (ls := [(2, 25), (2, b), (0, n), (9, 0)]) pn_X6 rfl (Nat.le_of_ble_eq_true rfl) rfl ?_
  refine a_al0 (by decide) dX6_carryOut_0 ?_
  refine aw_getR (r := 30) 4 rfl dX6_carryOut_1 fl_X6_25 at_25 rfl rfl ?_
  refine aw_iconst dX6_carryOut_4 (by decide) ?_
  refine aw_callS 1 0 0 dX6_carryOut_5 yw_J7_fill_53178 ml_X6_31 sm_J7_fill_53178 (as := [_, _]) rfl rfl ⟨by decide, by decide, by decide, Nat.le_of_ble_eq_true rfl⟩ ?_
  refine ac_fill (by decide) ar_30 (by decide) ?_
  refine am_cv ?_
  refine a_al0 (by decide) dX6_carryOut_8 ?_
  refine aw_getR (r := 31) 5 rfl dX6_carryOut_9 fl_X6_28 at_25 rfl rfl ?_
  try simp (disch := omega) only [up_at, up_ne]
  refine aw_iconst dX6_carryOut_12 (by decide) ?_
  refine aw_callS 1 0 0 dX6_carryOut_13 yw_J7_fill_53178 ml_X6_31 sm_J7_fill_53178 (as := [_, _]) rfl rfl ⟨by decide, by decide, by decide, Nat.le_of_ble_eq_true rfl⟩ ?_
  refine ac_fill (by decide) ar_31 (by decide) ?_
  refine am_cv ?_
  refine a_al0 (by decide) dX6_carryOut_16 ?_
  refine aw_iconst dX6_carryOut_17 (by decide) ?_
  refine aw_put 6 dX6_carryOut_18 fp_X6_37 at_25 rfl ?_
  refine a_al1 (am_sh_rg hb) dX6_carryOut_21 ?_
  refine aw_iconst dX6_carryOut_22 (by decide) ?_
  refine aw_put 8 dX6_carryOut_23 fp_X6_41 (am_sh_at hb) rfl ?_
  refine aw_iconst dX6_carryOut_26 (by decide) ?_
  refine a_is3 rfl rfl dX6_carryOut_27 ?_
  refine aw_loop (fun q : Int × AH => 0 ≤ q.1 ∧ q.1 ≤ n ∧ coFr h b q.2 ∧ (∀ g g', G g → PN q.1.toNat 0 (rst g) g' → PR0 fl q.2 b g' ∧ PO g') ∧ ∀ g, G g → ∃ g', PN q.1.toNat 0 (rst g) g') (fun q => (n - q.1).toNat) (fun q => AW mX6_carryOut 5 0 0 K 159 28 [(2, 25), (2, b), (0, n), (0, q.1)] [] q.2) (fun q hq ih => ?_) (0, cRst h b) ⟨by dsimp only; omega, by dsimp only; omega, f0, fun g g' hg hp => by rw [show g' = rst g from hp]; exact ⟨PR_rst hB (nn g hg) (hG g hg).2.2.1, PO_rst (hG g hg).2.2.2⟩, fun g _ => ⟨rst g, rfl⟩⟩
  obtain ⟨p, h1⟩ := q
  obtain ⟨p0, p1, fr, hI, hE2⟩ := hq
  dsimp only at p0 p1 fr hI hE2 ih ⊢
  refine a_il3 dX6_carryOut_28 ?_
  refine a_il2 dX6_carryOut_29 ?_
  refine aw_icmp_ge 61 dX6_carryOut_30 (by decide) (fun c30 => ?_) (fun c30 => ?_)
  · refine aw_vret dX6_carryOut_61 rfl ?_
    rw [show p = n by omega] at hI hE2
    exact kk h1 fr hI hE2
  · have pl : p < n := by omega
    refine ac_pulseC (fl := fl) (G := fun g' => ∃ g, G g ∧ PN p.toNat 0 (rst g) g') hB ⟨p0, by omega⟩ (by
      obtain ⟨g, hg⟩ := hE
      obtain ⟨g', c⟩ := hE2 g hg
      exact ⟨g', g, hg, c⟩) (fun g' ⟨g, hg, hp⟩ => ?_) (fun h2 fr2 q1 q2 => ?_)
    · obtain ⟨a1, a2⟩ := PN_ok p.toNat 0 (rst g) g' 72 hp (by decide) (by omega) (hG g hg).1 (by omega) (by decide)
      obtain ⟨b1, b2⟩ := hI g g' hg hp
      refine ⟨gOk_pu ⟨p0, by omega⟩ (by omega) a1, ?_, b1, b2⟩
      rw [a2.2 4 (by decide) (by decide) (by omega) (by omega), rst_f (by omega) (by omega) (by decide) (by decide)]
      exact (hG g hg).2.1
    · have et : (p + 1).toNat = p.toNat + 1 := by omega
      have ep : (0 : Int) + (p.toNat : Int) = p := by omega
      refine a_iiR3 (by omega) rfl rfl dX6_carryOut_55 ?_
      refine aw_goto 28 dX6_carryOut_58 (by decide) ?_
      refine ih (p + 1, h2) ⟨by dsimp only; omega, by dsimp only; omega, coFr_trans fr fr2, fun g g' hg hp => ?_, fun g hg => ?_⟩ (by dsimp only; omega)
      · dsimp only at hp
        rw [et] at hp
        obtain ⟨g1, a, c⟩ := (PN_snoc _ _ _ _).mp hp
        rw [ep] at c
        exact q1 g1 g' ⟨g, hg, a⟩ c
      · obtain ⟨g1, a⟩ := hE2 g hg
        obtain ⟨g', c⟩ := q2 g1 ⟨g, hg, a⟩
        refine ⟨g', ?_⟩
        dsimp only
        rw [et]
        exact (PN_snoc _ _ _ _).mpr ⟨g1, a, by rw [ep]; exact c⟩
