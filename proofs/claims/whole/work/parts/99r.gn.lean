/-! the class: write -/
theorem fst_ex (P : Int → Prop) : ∀ n : Nat, ∃ x, isFst P n x
  | 0 => ⟨-1, Or.inr ⟨rfl, fun j a b => by omega⟩⟩
  | n + 1 => by
    obtain ⟨x, h⟩ := fst_ex P n
    rcases h with h | h
    · exact ⟨x, Or.inl ⟨h.1, by have := h.2.1; omega, h.2.2⟩⟩
    · by_cases z : P n
      · exact ⟨n, Or.inl ⟨by omega, by omega, z, fun j a b => h.2 j a b⟩⟩
      · refine ⟨-1, Or.inr ⟨rfl, fun j a b q => ?_⟩⟩
        by_cases w : j = n
        · rw [w] at q
          exact z q
        · exact h.2 j a (by omega) q
theorem ltX_no {S : Int → Int} {L : Int} {p : Int} (hT : TxS S L) (hp : 0 ≤ p ∧ p ≤ L) (e : ltX S p = -1) : ∀ k, 0 ≤ k → k < bP S p - aP S p → ¬ badL S p k := by
  obtain ⟨x, hx⟩ := fst_ex (badL S p) (bP S p - aP S p).toNat
  rw [show ((bP S p - aP S p).toNat : Int) = bP S p - aP S p by have := bP_rg hT hp; omega] at hx
  have e2 : ltX S p = x := fstX_eq hx
  rw [e] at e2
  rcases hx with q | q
  · omega
  · exact q.2
theorem wrN_lt {S : Int → Int} {L f : Int} {r : Int → Int} (hT : TxS S L) : ∀ (m : Nat) (nd n : Int) (T : Int → Int) (st : PS), 0 ≤ st.1 ∧ st.1 ≤ L → (∀ y, 0 ≤ y → y < 72 → 1 ≤ T y ∧ T y ≤ 4) → (wrN S r f m nd n T st).2.2.2.1 = 0 → ∀ y, 0 ≤ y → y < 72 → 1 ≤ (wrN S r f m nd n T st).2.1 y ∧ (wrN S r f m nd n T st).2.1 y ≤ 4
  | 0, nd, n, T, st, hp, hR, c => hR
  | m + 1, nd, n, T, st, hp, hR, c => by
    have e : wrN S r f (m + 1) nd n T st = cif (st.2.1 = 0 ∧ kP S st.1 = 0) (cif ((wr4 S r f nd st).2.1 = 0) (wrN S r f m (i_or nd (i_shl 1 (wrI S r f st))) (n + 1) (ltR S (wr4 S r f nd st).1 (wrI S r f st) T) (wr6 S r f nd st)) (n, T, wr4 S r f nd st)) (n, T, st) := rfl
    by_cases q : st.2.1 = 0 ∧ kP S st.1 = 0
    · by_cases q2 : (wr4 S r f nd st).2.1 = 0
      · rw [e, cif_pos q, cif_pos q2] at c ⊢
        obtain ⟨w1, w2, w3, w4, w5, w6⟩ := wr4_c q2
        have p4 : (wr4 S r f nd st).1 = bP S st.1 := by
          rw [w4]
          unfold nextS
          rw [if_pos w5]
        have hb := bP_rg hT hp
        have ha := aP_rg hT hp
        have hp4 : 0 ≤ (wr4 S r f nd st).1 ∧ (wr4 S r f nd st).1 ≤ L := by rw [p4]; omega
        have c6 : (wr6 S r f nd st).2.1 = 0 := Classical.byContradiction (fun z => by
          rw [wrN_e z] at c
          exact z c)
        have cl : (ltS S (wr4 S r f nd st)).2.1 = 0 := Classical.byContradiction (fun z => by
          have : wr6 S r f nd st = ltS S (wr4 S r f nd st) := endS_e z
          rw [this] at c6
          exact z c6)
        have hk : kP S (wr4 S r f nd st).1 = 0 := Classical.byContradiction (fun z => by
          unfold ltS at cl
          rw [if_neg z, mustS_e (failS_n (by decide))] at cl
          exact failS_n (by decide) cl)
        have hX : ltX S (wr4 S r f nd st).1 = -1 := Classical.byContradiction (fun z => by
          unfold ltS at cl
          rw [if_pos hk, if_neg z, if_pos q2, mustS_e (show ¬ (-3 : Int) = 0 by decide)] at cl
          exact absurd cl (show ¬ (-3 : Int) = 0 by decide))
        have nb := ltX_no hT hp4 hX
        have o5 := onS_lt hT (st := wr4 S r f nd st) hp4
        have p6 : 0 ≤ (wr6 S r f nd st).1 ∧ (wr6 S r f nd st).1 ≤ L := by
          have eL : ltS S (wr4 S r f nd st) = mustS S 1 (wr4 S r f nd st) := by
            unfold ltS
            rw [if_pos hk, if_pos hX]
          have om := onS_must (b := 1) hT (s := wr4 S r f nd st) hp4
          rw [← eL] at om
          have om1 := om.1
          have cR : 0 ≤ (ltS S (wr4 S r f nd st)).1 ∧ (ltS S (wr4 S r f nd st)).1 ≤ L := ⟨by omega, om.2.1⟩
          have := onS_end hT (s := ltS S (wr4 S r f nd st)) cR
          have e6 : wr6 S r f nd st = endS S (ltS S (wr4 S r f nd st)) := rfl
          rw [e6]
          have u := this.1
          have v := this.2.1
          omega
        refine wrN_lt hT m _ _ _ _ p6 (fun y y0 y1 => ?_) c
        unfold ltR
        split
        · rename_i z
          have b := nb (y - 6 * wrI S r f st) (by omega) z.2.2
          have g := lt_rg (S (aP S (wr4 S r f nd st).1 + (y - 6 * wrI S r f st)))
          have nz : ¬ lt (S (aP S (wr4 S r f nd st).1 + (y - 6 * wrI S r f st))) = 0 := fun w => b (Or.inr w)
          omega
        · exact hR y y0 y1
      · rw [e, cif_pos q, cif_neg q2] at c
        exact absurd c q2
    · rw [e, cif_neg q] at c ⊢
      exact hR
theorem cx_write {S : Int → Int} {L f : Int} {T0 : Int → Int} {h : AH} {K : AO → Nat → AH → Prop} (hT : TxS S L) (hx : cTx S L h) (hS : SR h 5 h) (hU : UN h) (n1 : 0 ≤ h 32 1 ∧ h 32 1 ≤ 7) (n2 : 0 ≤ h 32 2 ∧ h 32 2 ≤ 8)
  (k1 : ¬ (0 ≤ f ∧ f < h 141 2) → K (.inr xI) 159 h)
  (k2 : 0 ≤ f ∧ f < h 141 2 → h 141 (34 + 3 * f + 1) = 1 → K (.inr xS) 159 h)
  (kE : 0 ≤ f ∧ f < h 141 2 → ¬ h 141 (34 + 3 * f + 1) = 1 → ¬ (WRe S (h 141) f T0).2.1 = 0 → ∀ h', GN h h' → CFl (WRe S (h 141) f T0) h' → K (.inl (some (0, (WRe S (h 141) f T0).2.1))) 159 (up h' 2 1 0))
  (kS : 0 ≤ f ∧ f < h 141 2 → ¬ h 141 (34 + 3 * f + 1) = 1 → (WRe S (h 141) f T0).2.1 = 0 → ∀ h0 h1 h', GN h h0 → h0 2 3 = -1 → cKept (up h0 2 1 0) h1 → shFr h1 5 h' → (∀ g', (∀ x, ¬ (∃ i p, 0 ≤ i ∧ i < h 141 3 ∧ 0 ≤ p ∧ p < 6 ∧ h 141 (46 + 25 * i + 0) = f ∧ x = 46 + 25 * i + (11 + p)) → g' 141 x = h 141 x) → (∀ i p, 0 ≤ i → i < h 141 3 → 0 ≤ p → p < 6 → h 141 (46 + 25 * i + 0) = f → g' 141 (46 + 25 * i + (11 + p)) = (WR S (h 141) f T0).2.1 (6 * i + p)) → SR h' 5 g') → K (.inl (some (0, (WR S (h 141) f T0).1))) 159 h') : AC mX8_write 7 2 12 159 [(2, 0), (0, f)] h K := by
  obtain ⟨-, -, d2, d3, d4, -⟩ := hS.1.1
  have n3 := hS.2.2.2.1.2.2.1
  have n22 := hS.2.2.2.1.2.2.2.2.1
  have x6 := hS.2.2.1.2.2.2.2.1
  have rf := hS.2.2.2.2.2.2.2.2.1
  have se : 0 ≤ f → f < h 141 2 → (h 12 f = -1 ↔ ¬ h 141 (34 + 3 * f + 1) = 1) := fun a c => by
    obtain ⟨e1, e2, -⟩ := rf f a c
    rw [show h 12 f = mSN h f from x6 f a c]
    unfold mSN
    by_cases z : h 141 (34 + 3 * f + 1) = 1
    · have := e2 z
      rw [if_pos z]
      exact ⟨fun q => by omega, fun q => absurd z q⟩
    · rw [if_neg z]
      exact ⟨fun _ => z, fun _ => rfl⟩
  refine ac_of (ls := [(2, 0), (0, f), (9, 0)]) pn_X8 rfl (Nat.le_of_ble_eq_true rfl) rfl ?_
  refine a_al0 (by decide) dX8_write_0 ?_
  refine a_il1 dX8_write_1 ?_
  refine aw_callV 6 1 6 dX8_write_2 yw_X8_needFleet ml_X8_156 in_X8_needFleet se_X8_needFleet (ci := 7) rfl at_0 (as := [_]) rfl rfl ⟨by decide, by decide, by decide, Nat.le_of_ble_eq_true rfl⟩ ?_
  refine ac_needFleet (fun q => ?_) (fun q => ?_)
  · rw [d2] at q
    refine am_cv ?_
    refine a_al0 (by decide) dX8_write_5 ?_
    refine aw_getR (r := 5) 2 rfl dX8_write_6 fl_X8_24 at_0 rfl rfl ?_
    try simp (disch := omega) only [up_at, up_ne]
    refine a_il1 dX8_write_9 ?_
    refine aw_callV 1 0 0 dX8_write_10 yw_X3_hasSealed ml_X8_169 in_X3_hasSealed se_X3_hasSealed (ci := 2) rfl at_5 (as := [_]) rfl rfl ⟨by decide, by decide, by decide, Nat.le_of_ble_eq_true rfl⟩ ?_
    refine ac_hasSealed (Or.inl rfl) (by omega) (fun q3 => ?_) (fun q3 => ?_)
    · have q4 : ¬ h 12 f = -1 := q3
      refine am_ci ?_
      refine aw_if_eq_n 27 dX8_write_13 (by decide) (by decide) ?_
      refine aw_throwW (i := 25) rfl rfl dX8_write_16 dX8_write_19 dX8_write_20 dX8_write_23 dX8_write_26 tw_IllegalStateException rfl ⟨rfl, rfl⟩ ⟨by decide, by decide, by decide, rfl⟩ ?_
      exact k2 q (by have := se q.1 q.2; omega)
    · have ns : ¬ h 141 (34 + 3 * f + 1) = 1 := (se q.1 q.2).mp q3
      refine am_ci ?_
      refine aw_if_eq_y 27 dX8_write_13 (by decide) (by decide) ?_
      refine a_al0 (by decide) dX8_write_27 ?_
      refine aw_getR (r := 15) 3 rfl dX8_write_28 fl_X8_28 at_0 rfl rfl ?_
      try simp (disch := omega) only [up_at, up_ne]
      refine a_al0 (by decide) dX8_write_31 ?_
      refine aw_getR (r := 5) 2 rfl dX8_write_32 fl_X8_24 at_0 rfl rfl ?_
      try simp (disch := omega) only [up_at, up_ne]
      refine aw_callV 2 0 0 dX8_write_35 yw_X3_copyFrom ml_X8_108 in_X3_copyFrom se_X3_copyFrom (ci := 2) rfl at_15 (as := [_]) rfl rfl ⟨by decide, by decide, by decide, Nat.le_of_ble_eq_true rfl⟩ ?_
      refine ac_copyFrom sh_15 sh_5 (by decide) (fun h1 f1 e1 => ?_)
      have S1 : SR h1 15 h := SR_eqh e1 hS
      have G1 : GN h h1 := fun k x a b c d => f1 k x (by omega)
      have x1 : cTx S L h1 := ⟨by rw [f1 _ _ (by omega)]; exact hx.1, fun k a b => by rw [f1 _ _ (by omega)]; exact hx.2 k a b⟩
      refine am_cv ?_
      refine a_al0 (by decide) dX8_write_38 ?_
      refine aw_getR (r := 1) 0 rfl dX8_write_39 fl_X8_10 at_0 rfl rfl ?_
      try simp (disch := omega) only [up_at, up_ne]
      refine a_al0 (by decide) dX8_write_42 ?_
      refine aw_getR (r := 15) 3 rfl dX8_write_43 fl_X8_28 at_0 rfl rfl ?_
      try simp (disch := omega) only [up_at, up_ne]
      refine a_il1 dX8_write_46 ?_
      refine aw_callV 6 0 0 dX8_write_47 yw_X0_readOrders ml_X8_285 in_X0_readOrders se_X0_readOrders (ci := 0) rfl at_1 (as := [_, _]) rfl rfl ⟨by decide, by decide, by decide, Nat.le_of_ble_eq_true rfl⟩ ?_
      refine ac_readOrders (T0 := T0) hT x1 S1 hU (fun z h2 f2 e2 o2 v2 => ?_) (fun z h2 f2 fl => ?_)
      · have G2 : GN h h2 := GN_trans G1 (fun k x a b c d => f2 k x a (by omega) d)
        have m1 : up h2 2 1 0 32 1 = h 32 1 := by rw [up_ne (by omega), G2 32 1 (by omega) (by decide) (by omega) (by omega)]
        have m2 : up h2 2 1 0 32 2 = h 32 2 := by rw [up_ne (by omega), G2 32 2 (by omega) (by decide) (by omega) (by omega)]
        refine am_ci ?_
        refine a_is2 rfl rfl dX8_write_50 ?_
        refine a_al0 (by decide) dX8_write_51 ?_
        refine aw_getR (r := 2) 1 rfl dX8_write_52 fl_X8_20 at_0 rfl rfl ?_
        try simp (disch := omega) only [up_at, up_ne]
        refine aw_iconst dX8_write_55 (by decide) ?_
        refine aw_put 1 dX8_write_56 fp_X8_82 at_2 rfl ?_
        refine a_il2 dX8_write_59 ?_
        refine aw_if_ne 71 dX8_write_60 (by decide) (fun c60 => ?_) (fun c60 => ?_)
        · refine a_al0 (by decide) dX8_write_71 ?_
          refine aw_getR (r := 32) 5 rfl dX8_write_72 fl_X8_41 at_0 rfl rfl ?_
          try simp (disch := omega) only [up_at, up_ne]
          refine a_al0 (by decide) dX8_write_75 ?_
          refine aw_getR (r := 5) 2 rfl dX8_write_76 fl_X8_24 at_0 rfl rfl ?_
          try simp (disch := omega) only [up_at, up_ne]
          refine aw_callV 4 0 0 dX8_write_79 yw_X1_keep ml_X8_104 in_X1_keep se_X1_keep (ci := 1) rfl at_32 (as := [_]) rfl rfl ⟨by decide, by decide, by decide, Nat.le_of_ble_eq_true rfl⟩ ?_
          refine ac_keep (h := up h2 2 1 0) (by rw [m1]; exact n1) (by rw [m2]; exact n2) (fun h3 k3 => ?_)
          refine am_cv ?_
          refine a_al0 (by decide) dX8_write_82 ?_
          refine aw_getR (r := 5) 2 rfl dX8_write_83 fl_X8_24 at_0 rfl rfl ?_
          try simp (disch := omega) only [up_at, up_ne]
          refine a_al0 (by decide) dX8_write_86 ?_
          refine aw_getR (r := 15) 3 rfl dX8_write_87 fl_X8_28 at_0 rfl rfl ?_
          try simp (disch := omega) only [up_at, up_ne]
          refine aw_callV 2 0 0 dX8_write_90 yw_X3_copyFrom ml_X8_108 in_X3_copyFrom se_X3_copyFrom (ci := 2) rfl at_5 (as := [_]) rfl rfl ⟨by decide, by decide, by decide, Nat.le_of_ble_eq_true rfl⟩ ?_
          refine ac_copyFrom sh_5 sh_15 (by decide) (fun h4 f4 e4 => ?_)
          have k9 := kS q ns z h2 h3 h4 G2 e2 k3 f4 (fun g' M V => ?_)
          · have v4 : h4 1 2 = (WR S (h 141) f T0).1 := by
              rw [f4 _ _ (by omega), k3.1 _ _ (by rw [m1]; omega) (by omega), up_ne (by omega)]
              exact v2
            rw [← v4] at k9
            refine am_cv ?_
            refine a_al0 (by decide) dX8_write_93 ?_
            refine aw_getR (r := 1) 0 rfl dX8_write_94 fl_X8_10 at_0 rfl rfl ?_
            try simp (disch := omega) only [up_at, up_ne]
            refine aw_get 2 dX8_write_97 fl_X8_289 at_1 rfl ?_
            try simp (disch := omega) only [up_at, up_ne]
            refine aw_iret dX8_write_100 rfl ?_
            exact k9
          · obtain ⟨hb, Eb⟩ : ∃ hb : AH, hb = fun k x => if 5 ≤ k ∧ k < 15 then h1 (k + 10) x else h k x := ⟨_, rfl⟩
            obtain ⟨hc, Ec⟩ : ∃ hc : AH, hc = fun k x => if 5 ≤ k ∧ k < 15 then h2 (k + 10) x else h k x := ⟨_, rfl⟩
            have B : ∀ k x, 5 ≤ k → k < 15 → hb k x = h1 (k + 10) x := fun k x a b => by rw [Eb]; exact if_pos ⟨a, b⟩
            have C : ∀ k x, 5 ≤ k → k < 15 → hc k x = h2 (k + 10) x := fun k x a b => by rw [Ec]; exact if_pos ⟨a, b⟩
            have N : ∀ k x, ¬ (5 ≤ k ∧ k < 15) → hc k x = hb k x := fun k x a => by rw [Ec, Eb]; dsimp only; rw [if_neg a, if_neg a]
            have SB : SR hb 5 h := SR_eqh ⟨fun x _ _ => B _ _ (by decide) (by decide), fun x _ _ => B _ _ (by decide) (by decide), fun x _ _ => B _ _ (by decide) (by decide), fun x _ _ => B _ _ (by decide) (by decide), fun x _ _ => B _ _ (by decide) (by decide), fun x _ _ => B _ _ (by decide) (by decide), fun x _ _ => B _ _ (by decide) (by decide), fun x _ _ => B _ _ (by decide) (by decide), fun x _ _ => B _ _ (by decide) (by decide), fun x _ _ => B _ _ (by decide) (by decide)⟩ S1
            have D4 : ∀ k x, 5 ≤ k → k < 15 → h3 (k + 10) x = hc k x := fun k x a b => by
              rw [C k x a b, k3.1 _ _ (by rw [m1]; omega) (by omega), up_ne (by omega)]
            have SC : SR hc 5 g' := by
              refine SR_lt SB (fun k x a => ?_) (fun x a => ?_) (fun i p i0 i1 p0 p1 => ?_)
              · by_cases w : 5 ≤ k ∧ k < 15
                · rw [C k x w.1 w.2, B k x w.1 w.2, f2 _ _ (by omega) (by omega) (by omega)]
                · exact N k x w
              · refine M x (fun ⟨i, p, i0, i1, p0, p1, _, e⟩ => a ?_)
                omega
              · have fb := (SB.1.2.1 i i0 i1).2.2.2 p p0 p1
                have tb := (SB.2.2.2.1.2.1 i i0 i1).2 p p0 p1
                by_cases w : h 141 (46 + 25 * i + 0) = f
                · rw [V i p i0 i1 p0 (by omega) w, C 8 i (by decide) (by decide)]
                  refine ⟨o2 i i0 i1 w p p0 p1, ?_⟩
                  have c1 : (WR S (h 141) f T0).2.2.2.1 = 0 := by
                    have : (endAll S (WR S (h 141) f T0).2.2).2.1 = 0 := z
                    unfold endAll at this
                    split at this
                    · exact this
                    · exact failS_c this
                  exact wrN_lt hT 700 0 0 (letR T0) (0, 0, 0) ⟨by decide, by have := hT.1; dsimp only; omega⟩ (fun y y0 y1 => by unfold letR; rw [if_pos ⟨y0, y1⟩]; decide) c1 _ (by omega) (by omega)
                · have e9 : g' 141 (46 + 25 * i + (11 + p)) = h 141 (46 + 25 * i + (11 + p)) := M _ (fun ⟨i', p', i0', i1', p0', p1', e', ex⟩ => w (by
                    have : i' = i := by omega
                    rw [this] at e'
                    exact e'))
                  have e8 : hc 8 i = hb 8 i := by rw [C 8 i (by decide) (by decide), B 8 i (by decide) (by decide), f2 _ _ (by omega) (fun y => w y.2.2.2) (by omega)]
                  rw [e9, e8]
                  exact ⟨fb, tb⟩
            refine SR_eqh ?_ SC
            obtain ⟨a0, a1, a2, a3, a4, a5, a6, a7, a8, a9⟩ := e4
            exact ⟨fun x p q => by rw [a0 x p q]; exact D4 5 x (by decide) (by decide), fun x p q => by rw [a1 x p q]; exact D4 6 x (by decide) (by decide), fun x p q => by rw [a2 x p q]; exact D4 7 x (by decide) (by decide), fun x p q => by rw [a3 x p q]; exact D4 8 x (by decide) (by decide), fun x p q => by rw [a4 x p q]; exact D4 9 x (by decide) (by decide), fun x p q => by rw [a5 x p q]; exact D4 10 x (by decide) (by decide), fun x p q => by rw [a6 x p q]; exact D4 11 x (by decide) (by decide), fun x p q => by rw [a7 x p q]; exact D4 12 x (by decide) (by decide), fun x p q => by rw [a8 x p q]; exact D4 13 x (by decide) (by decide), fun x p q => by rw [a9 x p q]; exact D4 14 x (by decide) (by decide)⟩
        · exfalso
          omega
      · have k9 := kE q ns z h2 (GN_trans G1 f2) fl
        rw [← fl.1] at k9
        refine am_ci ?_
        refine a_is2 rfl rfl dX8_write_50 ?_
        refine a_al0 (by decide) dX8_write_51 ?_
        refine aw_getR (r := 2) 1 rfl dX8_write_52 fl_X8_20 at_0 rfl rfl ?_
        try simp (disch := omega) only [up_at, up_ne]
        refine aw_iconst dX8_write_55 (by decide) ?_
        refine aw_put 1 dX8_write_56 fp_X8_82 at_2 rfl ?_
        refine a_il2 dX8_write_59 ?_
        refine aw_if_ne 71 dX8_write_60 (by decide) (fun c60 => ?_) (fun c60 => ?_)
        · exfalso
          omega
        · refine a_al0 (by decide) dX8_write_63 ?_
          refine aw_getR (r := 2) 1 rfl dX8_write_64 fl_X8_20 at_0 rfl rfl ?_
          try simp (disch := omega) only [up_at, up_ne]
          refine aw_get 2 dX8_write_67 fl_X8_101 at_2 rfl ?_
          try simp (disch := omega) only [up_at, up_ne]
          refine aw_iret dX8_write_70 rfl ?_
          exact k9
  · rw [d2] at q
    exact am_cx rfl (k1 q)
