/-! the class: orders of its text -/
def GN (h g : AH) : Prop := ∀ k x, ¬ (k = 2 ∧ 2 ≤ x ∧ x ≤ 7) → k ≠ 4 → ¬ (15 ≤ k ∧ k ≤ 24) → ¬ (k = 1 ∧ x = 2) → g k x = h k x
theorem GN_of {h g : AH} (a : GF h g) : GN h g := fun k x p q r _ => a k x p q r
theorem GN_trans {h g f : AH} (a : GN h g) (b : GN g f) : GN h f := fun k x p q r s => by rw [b k x p q r s, a k x p q r s]
theorem wrN_e {S : Int → Int} {r T : Int → Int} {f nd n : Int} {st : PS} (h : ¬ st.2.1 = 0) : ∀ m : Nat, wrN S r f m nd n T st = (n, T, st)
  | 0 => rfl
  | m + 1 => cif_neg (fun q => h q.1)
theorem wr4_n {S : Int → Int} {r : Int → Int} {f nd : Int} {st : PS} (h0 : st.2.1 = 0) (hk : ¬ kP S st.1 = 0) : wr4 S r f nd st = (st.1, -2, aP S st.1) := by
  have nz : ¬ ((st.1, -2, aP S st.1) : PS).2.1 = 0 := by show ¬ (-2 : Int) = 0; decide
  have nv := (name_cs (S := S) h0).2 (fun z => hk z.1)
  have e2 : wr2 S r f st = (st.1, -2, aP S st.1) := by
    unfold wr2
    rw [nv, failS_e nz]
    split <;> rfl
  unfold wr4
  rw [e2, failS_e nz]
  have : ∀ P : Prop, ∀ _ : Decidable P, (if P then ((st.1, -2, aP S st.1) : PS) else (st.1, -2, aP S st.1)) = (st.1, -2, aP S st.1) := fun P _ => by split <;> rfl
  rw [this]
  exact mustS_e nz
def ORD (h g : AH) (f : Int) (T : Int → Int) : Prop := ∀ i, 0 ≤ i → i < g 141 3 → g 141 (46 + 25 * i + 0) = f → ∀ p, 0 ≤ p → p ≤ 5 → cLt (h 18 i) p = T (6 * i + p)
theorem at_3 {S : Int → Int} {L p : Int} (hT : TxS S L) (hp : 0 ≤ p ∧ p ≤ L) : kP S p = 3 ↔ L ≤ aP S p := by
  have ra := aP_rg hT hp
  have hE := end_iff hT (k := aP S p) (by omega)
  rw [← hE]
  unfold kP
  by_cases z : S (aP S p) = -1
  · rw [if_pos z]
    exact ⟨fun _ => z, fun _ => rfl⟩
  · rw [if_neg z]
    refine ⟨fun q => ?_, fun q => absurd q z⟩
    split at q
    · omega
    · split at q <;> omega
theorem ro29 {S : Int → Int} {L f : Int} {g : AH} {K : AO → Nat → AH → Prop} (hT : TxS S L) (hU : UN g) : ∀ (m : Nat) (nd n : Int) (T : Int → Int) (st : PS) (v5 : AV) (h : AH), st.2.1 = 0 → CW S L st.1 h → NS h g → ORD h g f T → n = ctB nd 12 → h 1 2 = n → 14 ≤ m + n → am_n2 v5 = true →
    ((endAll S (wrN S (g 141) f m nd n T st).2.2).2.1 = 0 → ∀ h', (∀ k x, ¬ (k = 2 ∧ 4 ≤ x ∧ x ≤ 7) → ¬ (k = 18 ∧ 0 ≤ x ∧ x < g 141 3 ∧ g 141 (46 + 25 * x + 0) = f) → ¬ (k = 1 ∧ x = 2) → h' k x = h k x) → ORD h' g f (wrN S (g 141) f m nd n T st).2.1 → h' 1 2 = (wrN S (g 141) f m nd n T st).1 → K (.inl (some (0, 1))) 159 h') →
    (¬ (endAll S (wrN S (g 141) f m nd n T st).2.2).2.1 = 0 → ∀ h', GN h h' → CFl (endAll S (wrN S (g 141) f m nd n T st).2.2) h' → K (.inl (some (0, 0))) 159 h') →
    AW mX0_readOrders 6 0 0 K 159 29 [(2, 1), (2, 15), (0, f), (0, nd), (0, n), v5] [] h
  | 0, nd, n, T, st, v5, h, h0, hw, hN, hO, hn, hm, hf, h5, k1, k0 => by
    have := ctB_le nd 12
    exfalso
    omega
  | m + 1, nd, n, T, st, v5, h, h0, hw, hN, hO, hn, hm, hf, h5, k1, k0 => by
    have hc := ctB_le nd 12
    have hw2 := hw
    obtain ⟨x, p, e4, e5⟩ := hw2
    have a3 := at_3 hT p
    have x1 := x.1
    have n3 := hN.1
    have e : wrN S (g 141) f (m + 1) nd n T st = cif (st.2.1 = 0 ∧ kP S st.1 = 0) (cif ((wr4 S (g 141) f nd st).2.1 = 0) (wrN S (g 141) f m (i_or nd (i_shl 1 (wrI S (g 141) f st))) (n + 1) (ltR S (wr4 S (g 141) f nd st).1 (wrI S (g 141) f st) T) (wr6 S (g 141) f nd st)) (n, T, wr4 S (g 141) f nd st)) (n, T, st) := rfl
    refine a_il4 dX0_readOrders_29 ?_
    refine aw_bipush dX0_readOrders_31 (by decide) ?_
    refine aw_icmp_gt 103 dX0_readOrders_33 (by decide) (fun c33 => ?_) (fun c33 => ?_)
    · exfalso
      omega
    · refine a_al0 (by decide) dX0_readOrders_36 ?_
      refine aw_getR (r := 2) 0 rfl dX0_readOrders_37 fl_X0_12 at_1 rfl rfl ?_
      refine aw_callV 1 0 0 dX0_readOrders_40 yw_X5_isAtEnd ml_X0_121 in_X5_isAtEnd se_X5_isAtEnd (ci := 4) rfl at_2 (as := []) rfl rfl ⟨by decide, by decide, by decide, Nat.le_of_ble_eq_true rfl⟩ ?_
      refine ac_isAtEnd (fun y => ?_) (fun y => ?_)
      · have k3 : kP S st.1 = 3 := a3.mpr (by omega)
        have ew : wrN S (g 141) f (m + 1) nd n T st = (n, T, st) := by
          rw [e]
          exact cif_neg (fun q => by have := q.2; omega)
        have ea : endAll S st = st := if_pos k3
        rw [ew] at k1
        dsimp only at k1
        rw [ea] at k1
        refine am_ci ?_
        refine aw_if_ne_y 103 dX0_readOrders_43 (by decide) (by decide) ?_
        refine aw_iconst dX0_readOrders_103 (by decide) ?_
        refine aw_zret dX0_readOrders_104 rfl (by omega) ?_
        exact k1 h0 h (fun _ _ _ _ _ => rfl) hO hm
      · have k3 : ¬ kP S st.1 = 3 := fun z => by have := a3.mp z; omega
        refine am_ci ?_
        refine aw_if_ne_n 103 dX0_readOrders_43 (by decide) (by decide) ?_
        refine a_al0 (by decide) dX0_readOrders_46 ?_
        refine a_al1 (by decide) dX0_readOrders_47 ?_
        refine a_il2 dX0_readOrders_48 ?_
        refine a_il3 dX0_readOrders_49 ?_
        refine aw_callV 4 0 0 dX0_readOrders_50 yw_X0_readNamed ml_X0_178 in_X0_readNamed se_X0_readNamed (ci := 0) rfl at_1 (as := [_, _, _]) rfl rfl ⟨by decide, by decide, by decide, Nat.le_of_ble_eq_true rfl⟩ ?_
        refine ac_readNamed (f := f) (told := nd) hT h0 hw hN hU (fun z zr zs zb h2 f2 c2 => ?_) (fun z h2 f2 fl => ?_)
        · have kz : kP S st.1 = 0 := Classical.byContradiction (fun q => by
            rw [wr4_n h0 q] at z
            exact absurd z (by show ¬ (-2 : Int) = 0; decide))
          rw [cif_pos ⟨h0, kz⟩, cif_pos z] at e
          rw [e] at k0 k1
          obtain ⟨i, hi⟩ : ∃ i, i = wrI S (g 141) f st := ⟨_, rfl⟩
          rw [← hi] at zr zs zb k0 k1 ⊢
          have i11 : -1 ≤ i ∧ i ≤ 11 := by omega
          have F2 : ∀ k y, ¬ (k = 2 ∧ 4 ≤ y ∧ y ≤ 7) → h2 k y = h k y := f2
          refine am_ci ?_
          refine a_is5 rfl rfl dX0_readOrders_53 ?_
          refine a_il5 dX0_readOrders_55 ?_
          refine aw_iconst dX0_readOrders_57 (by decide) ?_
          refine aw_icmp_eq 78 dX0_readOrders_58 (by decide) (fun c58 => ?_) (fun c58 => ?_)
          · exfalso
            omega
          · refine a_al0 (by decide) dX0_readOrders_61 ?_
            refine a_al1 (by decide) dX0_readOrders_62 ?_
            refine a_il5 dX0_readOrders_63 ?_
            refine aw_callV 4 0 0 dX0_readOrders_65 yw_X0_readLetters ml_X0_182 in_X0_readLetters se_X0_readLetters (ci := 0) rfl at_1 (as := [_, _]) rfl rfl ⟨by decide, by decide, by decide, Nat.le_of_ble_eq_true rfl⟩ ?_
            refine ac_readLetters (T := T) hT ⟨zr.1, by omega⟩ z c2 (fun p p0 p1 => ?_) (fun z2 h3 f3 o3 c3 => ?_) (fun z2 h3 f3 fl => ?_)
            · rw [f2 18 i (by omega)]
              exact hO i zr.1 zr.2 zs.2 p p0 p1
            · skip
              refine am_ci ?_
              refine aw_if_eq_n 78 dX0_readOrders_68 (by decide) (by decide) ?_
              refine a_al0 (by decide) dX0_readOrders_71 ?_
              refine aw_callV 3 0 0 dX0_readOrders_72 yw_X0_endPart ml_X0_70 in_X0_endPart se_X0_endPart (ci := 0) rfl at_1 (as := []) rfl rfl ⟨by decide, by decide, by decide, Nat.le_of_ble_eq_true rfl⟩ ?_
              refine ac_endPart hT z2 c3 (fun z3 h4 f4 c4 => ?_) (fun z3 h4 f4 fl => ?_)
              · have F4 : ∀ k y, ¬ (k = 2 ∧ 4 ≤ y ∧ y ≤ 7) → ¬ (k = 18 ∧ y = i) → h4 k y = h k y := fun k y a b => by
                  rw [f4 k y (by omega), f3 k y a b, f2 k y a]
                have nb := told_bit ⟨zr.1, by omega⟩ zb
                have cs := ctB_set (o := nd) ⟨zr.1, by omega⟩ nb 12 (by decide)
                rw [if_pos (by omega)] at cs
                have m4 : h4 1 2 = n := by rw [F4 1 2 (by omega) (by omega)]; exact hm
                have U : ∀ k y, ¬ (k = 1 ∧ y = 2) → up h4 1 2 (n + 1) k y = h4 k y := fun k y a => up_ne a
                refine am_ci ?_
                refine aw_if_ne_y 80 dX0_readOrders_75 (by decide) (by decide) ?_
                refine a_il3 dX0_readOrders_80 ?_
                refine aw_iconst dX0_readOrders_81 (by decide) ?_
                refine a_il5 dX0_readOrders_82 ?_
                refine aw_ishl dX0_readOrders_84 ?_
                refine aw_ior dX0_readOrders_85 ?_
                refine a_is3 rfl rfl dX0_readOrders_86 ?_
                refine a_al0 (by decide) dX0_readOrders_87 ?_
                refine aw_dup dX0_readOrders_88 rfl ?_
                refine aw_get 2 dX0_readOrders_89 fl_X0_175 at_1 rfl ?_
                refine aw_iconst dX0_readOrders_92 (by decide) ?_
                refine aw_iaddR (by omega) dX0_readOrders_93 ?_
                refine aw_put 2 dX0_readOrders_94 fp_X0_175 at_1 rfl ?_
                rw [m4]
                refine a_iiR4 (by omega) rfl rfl dX0_readOrders_97 ?_
                refine aw_goto 29 dX0_readOrders_100 (by decide) ?_
                refine ro29 hT hU m (i_or nd (i_shl 1 i)) (n + 1) (ltR S (wr4 S (g 141) f nd st).1 i T) (wr6 S (g 141) f nd st) (0, i) (up h4 1 2 (n + 1)) z3 ?_ ?_ (fun j j0 j1 js p p0 p1 => ?_) (by omega) (up_at _ _ _ _) (by omega) rfl (fun z5 h5 f5 o5 g5 => ?_) (fun z5 h5 f5 fl => ?_)
                · obtain ⟨⟨b1, b2⟩, b3, b4, b5⟩ := c4
                  exact ⟨⟨by rw [U _ _ (by omega)]; exact b1, fun j j0 j1 => by rw [U _ _ (by omega)]; exact b2 j j0 j1⟩, b3, by rw [U _ _ (by omega)]; exact b4, by rw [U _ _ (by omega)]; exact b5⟩
                · exact NS_eq (by rw [U _ _ (by omega), F4 15 3 (by omega) (by omega)]) (fun y => by rw [U _ _ (by omega), F4 16 y (by omega) (by omega)]) (fun y => by rw [U _ _ (by omega), F4 17 y (by omega) (by omega)]) hN
                · rw [U _ _ (by omega)]
                  by_cases w : j = i
                  · rw [w, f4 18 i (by omega)]
                    exact o3 p p0 p1
                  · rw [F4 18 j (by omega) (by omega), hO j j0 j1 js p p0 p1]
                    unfold ltR
                    rw [if_neg (by omega)]
                · refine k1 z5 h5 (fun k y a b c => ?_) o5 g5
                  rw [f5 k y a b c, U k y c, F4 k y a (fun q => b ⟨q.1, by omega, by omega, by rw [q.2]; exact zs.2⟩)]
                · exact k0 z5 h5 (GN_trans (fun k y a b c d => by rw [U k y d, F4 k y (by omega) (by omega)]) f5) fl
              · have ew : wr6 S (g 141) f nd st = endS S (ltS S (wr4 S (g 141) f nd st)) := rfl
                rw [ew, wrN_e z3] at k0
                dsimp only at k0
                rw [endAll_e z3] at k0
                refine am_ci ?_
                refine aw_if_ne_n 80 dX0_readOrders_75 (by decide) (by decide) ?_
                refine aw_iconst dX0_readOrders_78 (by decide) ?_
                refine aw_zret dX0_readOrders_79 rfl (by omega) ?_
                exact k0 z3 h4 (GN_trans (GN_of (GF_T f2)) (GN_trans (fun k y a b c _ => f3 k y (by omega) (by omega)) (GN_of (GF_E f4)))) fl
            · have ew : wr6 S (g 141) f nd st = ltS S (wr4 S (g 141) f nd st) := endS_e z2
              rw [ew, wrN_e z2] at k0
              dsimp only at k0
              rw [endAll_e z2] at k0
              refine am_ci ?_
              refine aw_if_eq_y 78 dX0_readOrders_68 (by decide) (by decide) ?_
              refine aw_iconst dX0_readOrders_78 (by decide) ?_
              refine aw_zret dX0_readOrders_79 rfl (by omega) ?_
              exact k0 z2 h3 (GN_trans (GN_of (GF_T f2)) (GN_of f3)) fl
        · have ee : endAll S (wrN S (g 141) f (m + 1) nd n T st).2.2 = wr4 S (g 141) f nd st := by
            rw [e]
            by_cases kz : kP S st.1 = 0
            · rw [cif_pos ⟨h0, kz⟩, cif_neg z]
              exact endAll_e z
            · rw [cif_neg (fun q => kz q.2), wr4_n h0 kz]
              dsimp only
              unfold endAll
              rw [if_neg k3]
              exact failS_0 h0
          rw [ee] at k0
          refine am_ci ?_
          refine a_is5 rfl rfl dX0_readOrders_53 ?_
          refine a_il5 dX0_readOrders_55 ?_
          refine aw_iconst dX0_readOrders_57 (by decide) ?_
          refine aw_icmp_eq 78 dX0_readOrders_58 (by decide) (fun c58 => ?_) (fun c58 => ?_)
          · refine aw_iconst dX0_readOrders_78 (by decide) ?_
            refine aw_zret dX0_readOrders_79 rfl (by omega) ?_
            exact k0 z h2 (GN_of (GF_E f2)) fl
          · exfalso
            omega
