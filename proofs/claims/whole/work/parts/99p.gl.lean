/-! the class: orders of its text, from their begin -/
theorem ac_readOrders {S : Int → Int} {L f : Int} {h g : AH} {T0 : Int → Int} {K : AO → Nat → AH → Prop} (hT : TxS S L) (hx : cTx S L h) (hS : SR h 15 g) (hU : UN g) (k1 : (WRe S (g 141) f T0).2.1 = 0 → ∀ h', (∀ k x, ¬ (k = 2 ∧ 2 ≤ x ∧ x ≤ 7) → ¬ (k = 18 ∧ 0 ≤ x ∧ x < g 141 3 ∧ g 141 (46 + 25 * x + 0) = f) → ¬ (k = 1 ∧ x = 2) → h' k x = h k x) → h' 2 3 = -1 → ORD h' g f (WR S (g 141) f T0).2.1 → h' 1 2 = (WR S (g 141) f T0).1 → K (.inl (some (0, 1))) 159 h') (k0 : ¬ (WRe S (g 141) f T0).2.1 = 0 → ∀ h', GN h h' → CFl (WRe S (g 141) f T0) h' → K (.inl (some (0, 0))) 159 h') : AC mX0_readOrders 6 0 0 159 [(2, 1), (2, 15), (0, f)] h K := by
  have hLL := hT.1
  have n3 := hS.2.2.2.1.2.2.1
  refine ac_of (ls := [(2, 1), (2, 15), (0, f), (9, 0), (9, 0), (9, 0)]) pn_X0 rfl (Nat.le_of_ble_eq_true rfl) rfl ?_
  refine a_al0 (by decide) dX0_readOrders_0 ?_
  refine aw_getR (r := 2) 0 rfl dX0_readOrders_1 fl_X0_12 at_1 rfl rfl ?_
  refine aw_callV 1 0 0 dX0_readOrders_4 yw_X5_begin ml_X0_22 in_X5_begin se_X5_begin (ci := 4) rfl at_2 (as := []) rfl rfl ⟨by decide, by decide, by decide, Nat.le_of_ble_eq_true rfl⟩ ?_
  refine ac_beginT ?_
  obtain ⟨h1, hh1⟩ : ∃ h1, h1 = up (up (up (up h 2 4 0) 2 5 0) 2 2 0) 2 3 (-1) := ⟨_, rfl⟩
  have F1 : ∀ k x, ¬ (k = 2 ∧ 2 ≤ x ∧ x ≤ 5) → h1 k x = h k x := fun k x a => by
    rw [hh1]
    simp (disch := omega) only [up_ne]
  have z5 : h1 2 5 = 0 := by rw [hh1]; simp (disch := omega) only [up_ne, up_at]
  have z3 : h1 2 3 = -1 := by rw [hh1]; simp (disch := omega) only [up_ne, up_at]
  rw [← hh1]
  clear hh1
  have x1 : cTx S L h1 := ⟨by rw [F1 _ _ (by omega)]; exact hx.1, fun k a b => by rw [F1 _ _ (by omega)]; exact hx.2 k a b⟩
  refine am_cv ?_
  refine a_al0 (by decide) dX0_readOrders_7 ?_
  refine aw_getR (r := 2) 0 rfl dX0_readOrders_8 fl_X0_12 at_1 rfl rfl ?_
  try simp (disch := omega) only [up_at, up_ne]
  refine aw_callV 2 0 0 dX0_readOrders_11 yw_X5_nextWord ml_X0_47 in_X5_nextWord se_X5_nextWord (ci := 4) rfl at_2 (as := []) rfl rfl ⟨by decide, by decide, by decide, Nat.le_of_ble_eq_true rfl⟩ ?_
  refine ac_nextWord (p := 0) hT x1 (by omega) z5 (fun h2 f2 g4 g5 => ?_)
  have S2 : SR h2 15 g := SR_eqh (shEq_sm (fun k y a b => by rw [f2 k y (by omega), F1 k y (by omega)])) hS
  have N2 := NS_of S2
  refine am_cv ?_
  refine a_al1 (by decide) dX0_readOrders_14 ?_
  refine a_il2 dX0_readOrders_15 ?_
  refine aw_callS 2 0 0 dX0_readOrders_16 yw_X0_clearOrders ml_X0_171 sm_X0_clearOrders (as := [_, _]) rfl rfl ⟨by decide, by decide, by decide, Nat.le_of_ble_eq_true rfl⟩ ?_
  refine ac_clearOrders S2 (fun h3 f3 v3 => ?_)
  refine am_cv ?_
  refine aw_iconst dX0_readOrders_19 (by decide) ?_
  refine a_is3 rfl rfl dX0_readOrders_20 ?_
  refine a_al0 (by decide) dX0_readOrders_21 ?_
  refine aw_iconst dX0_readOrders_22 (by decide) ?_
  refine aw_put 2 dX0_readOrders_23 fp_X0_175 at_1 rfl ?_
  refine aw_iconst dX0_readOrders_26 (by decide) ?_
  refine a_is4 rfl rfl dX0_readOrders_27 ?_
  have U : ∀ k y, ¬ (k = 1 ∧ y = 2) → up h3 1 2 0 k y = h3 k y := fun k y a => up_ne a
  have x2 : cTx S L h2 := cTx_T f2 x1
  refine ro29 hT hU 700 0 0 (letR T0) (0, 0, 0) (9, 0) (up h3 1 2 0) rfl ⟨⟨by rw [U _ _ (by omega), f3 _ _ (by omega)]; exact x2.1, fun j j0 j1 => by rw [U _ _ (by omega), f3 _ _ (by omega)]; exact x2.2 j j0 j1⟩, by dsimp only; omega, by rw [U _ _ (by omega), f3 _ _ (by omega)]; exact g4, by rw [U _ _ (by omega), f3 _ _ (by omega)]; exact g5⟩ (NS_eq (by rw [U _ _ (by omega), f3 15 3 (by omega)]) (fun y => by rw [U _ _ (by omega), f3 16 y (by omega)]) (fun y => by rw [U _ _ (by omega), f3 17 y (by omega)]) N2) (fun j j0 j1 js p p0 p1 => ?_) (ctB_0 12 (by decide)).symm (up_at _ _ _ _) (by decide) rfl (fun q h5 f5 o5 g6 => ?_) (fun q h5 f5 fl => ?_)
  · rw [U _ _ (by omega), v3 j j0 j1 js, cLt_a ⟨p0, p1⟩]
    exact (if_pos (by omega)).symm
  · refine k1 q h5 (fun k y a b c => ?_) ?_ o5 g6
    · rw [f5 k y (by omega) b c, U k y c, f3 k y b, f2 k y (by omega), F1 k y (by omega)]
    · rw [f5 2 3 (by omega) (by omega) (by omega), U 2 3 (by omega), f3 2 3 (by omega), f2 2 3 (by omega)]
      exact z3
  · exact k0 q h5 (GN_trans (fun k y a b c d => by rw [U k y d, f3 k y (by omega), f2 k y (by omega), F1 k y (by omega)]) f5) fl
