/-! the class: ships, written, all of them -/
theorem ac_addB {v : Int} {h : AH} {K : AO → Nat → AH → Prop} (hl : 0 ≤ h 138 1 ∧ h 138 1 ≤ 239) (k : K (.inl none) 159 (pushL 139 138 1 h [v])) : AC mX7_addByte 1 0 0 159 [(2, 138), (0, v)] h K := ac_addByte hl k
def shL (h : AH) (i : Int) : List Int := dgL (h 6 i) 8 ++ ([61] ++ (numL (h 7 (i * 11 + 1)) ++ ([44] ++ (numL (h 7 (i * 11 + 2)) ++ (hdL (h 7 (i * 11 + 3)) ++ ([47] ++ numL (h 7 (i * 11 + 4))))))))
theorem shL_le (h : AH) (i : Int) : (shL h i).length ≤ 19 := by
  have a := dgL_le (h 6 i) 8
  have b := numL_le (h 7 (i * 11 + 1))
  have c := numL_le (h 7 (i * 11 + 2))
  have d := hdL_le (h 7 (i * 11 + 3))
  have e := numL_le (h 7 (i * 11 + 4))
  unfold shL
  rw [List.length_append, List.length_append, List.length_append, List.length_append, List.length_append, List.length_append, List.length_append]
  show (dgL (h 6 i) 8).length + (1 + ((numL (h 7 (i * 11 + 1))).length + (1 + ((numL (h 7 (i * 11 + 2))).length + ((hdL (h 7 (i * 11 + 3))).length + (1 + (numL (h 7 (i * 11 + 4))).length)))))) ≤ 19
  omega
theorem ac_addShip {i : Int} {h : AH} {K : AO → Nat → AH → Prop} (hi : 0 ≤ i ∧ i ≤ 11) (hv : 0 ≤ h 6 i ∧ h 6 i < 1099511627776) (h1 : 0 ≤ h 7 (i * 11 + 1) ∧ h 7 (i * 11 + 1) ≤ 99) (h2 : 0 ≤ h 7 (i * 11 + 2) ∧ h 7 (i * 11 + 2) ≤ 99) (h3 : 0 ≤ h 7 (i * 11 + 3) ∧ h 7 (i * 11 + 3) ≤ 7) (h4 : 0 ≤ h 7 (i * 11 + 4) ∧ h 7 (i * 11 + 4) ≤ 99) (hl : 0 ≤ h 138 1 ∧ h 138 1 ≤ 220) (k : K (.inl none) 159 (pushL 139 138 1 h ((if decide (0 < h 138 1) then [32] else []) ++ shL h i))) : AC mX7_addShip 3 0 0 159 [(2, 138), (2, 5), (0, i)] h K := by
  have J13 : ∀ g : AH, (∀ x, g 6 x = h 6 x) → (∀ x, g 7 x = h 7 x) → 0 ≤ g 138 1 ∧ g 138 1 ≤ 221 → K (.inl none) 159 (pushL 139 138 1 g (shL h i)) → AW mX7_addShip 3 0 0 K 159 13 [(2, 138), (2, 5), (0, i)] [] g := fun g r6 r7 hg kk => by
    unfold shL at kk
    have a := dgL_le (h 6 i) 8
    have b := numL_le (h 7 (i * 11 + 1))
    have c := numL_le (h 7 (i * 11 + 2))
    have d := hdL_le (h 7 (i * 11 + 3))
    have e := numL_le (h 7 (i * 11 + 4))
    refine a_al0 (by decide) dX7_addShip_13 ?_
    refine a_al1 (by decide) dX7_addShip_14 ?_
    refine aw_getR (r := 6) 9 rfl dX7_addShip_15 fl_X7_23 at_5 rfl rfl ?_
    refine a_il2 dX7_addShip_18 ?_
    refine aw_lald dX7_addShip_19 ar_6 (by omega) ?_
    refine aw_callV 2 0 0 dX7_addShip_20 yw_X7_addName ml_X7_29 in_X7_addName se_X7_addName (ci := 6) rfl at_138 (as := [_]) rfl rfl ⟨by decide, by decide, by decide, Nat.le_of_ble_eq_true rfl⟩ ?_
    rw [r6]
    refine ac_addName hv (by omega) (by omega) ?_
    rw [pushL_app] at kk
    obtain ⟨g1, e1⟩ : ∃ g1 : AH, g1 = pushL 139 138 1 g (dgL (h 6 i) 8) := ⟨_, rfl⟩
    have n1 : g1 138 1 = g 138 1 + (dgL (h 6 i) 8).length := by rw [e1]; exact pushL_n _ _
    have r7_1 : ∀ x, g1 7 x = h 7 x := fun x => by rw [e1, pushL_f (by omega) (by decide), r7]
    rw [← e1] at kk ⊢
    clear e1
    refine am_cv ?_
    refine a_al0 (by decide) dX7_addShip_23 ?_
    refine aw_bipush dX7_addShip_24 (by decide) ?_
    refine aw_callV 1 0 0 dX7_addShip_26 yw_X7_addByte ml_X7_19 in_X7_addByte se_X7_addByte (ci := 6) rfl at_138 (as := [_]) rfl rfl ⟨by decide, by decide, by decide, Nat.le_of_ble_eq_true rfl⟩ ?_
    refine ac_addB (by omega) ?_
    rw [pushL_app] at kk
    obtain ⟨g2, e2⟩ : ∃ g2 : AH, g2 = pushL 139 138 1 g1 ([61]) := ⟨_, rfl⟩
    have n2 : g2 138 1 = g1 138 1 + ([(61 : Int)]).length := by rw [e2]; exact pushL_n _ _
    rw [show ([(61 : Int)] : List Int).length = 1 from rfl] at n2
    have r7_2 : ∀ x, g2 7 x = h 7 x := fun x => by rw [e2, pushL_f (by omega) (by decide), r7_1]
    rw [← e2] at kk ⊢
    clear e2
    refine am_cv ?_
    refine a_al0 (by decide) dX7_addShip_29 ?_
    refine a_al1 (by decide) dX7_addShip_30 ?_
    refine a_il2 dX7_addShip_31 ?_
    refine aw_iconst dX7_addShip_32 (by decide) ?_
    refine aw_callV 1 0 0 dX7_addShip_33 yw_X3_get ml_X7_33 in_X3_get se_X3_get (ci := 2) rfl at_5 (as := [_, _]) rfl rfl ⟨by decide, by decide, by decide, Nat.le_of_ble_eq_true rfl⟩ ?_
    refine ac_get (Or.inl rfl) hi (by decide) ?_
    refine am_ci ?_
    try simp (disch := omega) only [up_at, up_ne]
    refine aw_callV 2 0 0 dX7_addShip_36 yw_X7_addNumber ml_X7_37 in_X7_addNumber se_X7_addNumber (ci := 6) rfl at_138 (as := [_]) rfl rfl ⟨by decide, by decide, by decide, Nat.le_of_ble_eq_true rfl⟩ ?_
    rw [show g2 (5 + 2) (i * 11 + 1) = h 7 (i * 11 + 1) from r7_2 _]
    refine ac_addNumber (by omega) (by omega) ?_
    rw [pushL_app] at kk
    obtain ⟨g3, e3⟩ : ∃ g3 : AH, g3 = pushL 139 138 1 g2 (numL (h 7 (i * 11 + 1))) := ⟨_, rfl⟩
    have n3 : g3 138 1 = g2 138 1 + (numL (h 7 (i * 11 + 1))).length := by rw [e3]; exact pushL_n _ _
    have r7_3 : ∀ x, g3 7 x = h 7 x := fun x => by rw [e3, pushL_f (by omega) (by decide), r7_2]
    rw [← e3] at kk ⊢
    clear e3
    refine am_cv ?_
    refine a_al0 (by decide) dX7_addShip_39 ?_
    refine aw_bipush dX7_addShip_40 (by decide) ?_
    refine aw_callV 1 0 0 dX7_addShip_42 yw_X7_addByte ml_X7_19 in_X7_addByte se_X7_addByte (ci := 6) rfl at_138 (as := [_]) rfl rfl ⟨by decide, by decide, by decide, Nat.le_of_ble_eq_true rfl⟩ ?_
    refine ac_addB (by omega) ?_
    rw [pushL_app] at kk
    obtain ⟨g4, e4⟩ : ∃ g4 : AH, g4 = pushL 139 138 1 g3 ([44]) := ⟨_, rfl⟩
    have n4 : g4 138 1 = g3 138 1 + ([(44 : Int)]).length := by rw [e4]; exact pushL_n _ _
    rw [show ([(44 : Int)] : List Int).length = 1 from rfl] at n4
    have r7_4 : ∀ x, g4 7 x = h 7 x := fun x => by rw [e4, pushL_f (by omega) (by decide), r7_3]
    rw [← e4] at kk ⊢
    clear e4
    refine am_cv ?_
    refine a_al0 (by decide) dX7_addShip_45 ?_
    refine a_al1 (by decide) dX7_addShip_46 ?_
    refine a_il2 dX7_addShip_47 ?_
    refine aw_iconst dX7_addShip_48 (by decide) ?_
    refine aw_callV 1 0 0 dX7_addShip_49 yw_X3_get ml_X7_33 in_X3_get se_X3_get (ci := 2) rfl at_5 (as := [_, _]) rfl rfl ⟨by decide, by decide, by decide, Nat.le_of_ble_eq_true rfl⟩ ?_
    refine ac_get (Or.inl rfl) hi (by decide) ?_
    refine am_ci ?_
    try simp (disch := omega) only [up_at, up_ne]
    refine aw_callV 2 0 0 dX7_addShip_52 yw_X7_addNumber ml_X7_37 in_X7_addNumber se_X7_addNumber (ci := 6) rfl at_138 (as := [_]) rfl rfl ⟨by decide, by decide, by decide, Nat.le_of_ble_eq_true rfl⟩ ?_
    rw [show g4 (5 + 2) (i * 11 + 2) = h 7 (i * 11 + 2) from r7_4 _]
    refine ac_addNumber (by omega) (by omega) ?_
    rw [pushL_app] at kk
    obtain ⟨g5, e5⟩ : ∃ g5 : AH, g5 = pushL 139 138 1 g4 (numL (h 7 (i * 11 + 2))) := ⟨_, rfl⟩
    have n5 : g5 138 1 = g4 138 1 + (numL (h 7 (i * 11 + 2))).length := by rw [e5]; exact pushL_n _ _
    have r7_5 : ∀ x, g5 7 x = h 7 x := fun x => by rw [e5, pushL_f (by omega) (by decide), r7_4]
    rw [← e5] at kk ⊢
    clear e5
    refine am_cv ?_
    refine a_al0 (by decide) dX7_addShip_55 ?_
    refine a_al1 (by decide) dX7_addShip_56 ?_
    refine a_il2 dX7_addShip_57 ?_
    refine aw_iconst dX7_addShip_58 (by decide) ?_
    refine aw_callV 1 0 0 dX7_addShip_59 yw_X3_get ml_X7_33 in_X3_get se_X3_get (ci := 2) rfl at_5 (as := [_, _]) rfl rfl ⟨by decide, by decide, by decide, Nat.le_of_ble_eq_true rfl⟩ ?_
    refine ac_get (Or.inl rfl) hi (by decide) ?_
    refine am_ci ?_
    try simp (disch := omega) only [up_at, up_ne]
    refine aw_callV 2 0 0 dX7_addShip_62 yw_X7_addHeading ml_X7_40 in_X7_addHeading se_X7_addHeading (ci := 6) rfl at_138 (as := [_]) rfl rfl ⟨by decide, by decide, by decide, Nat.le_of_ble_eq_true rfl⟩ ?_
    rw [show g5 (5 + 2) (i * 11 + 3) = h 7 (i * 11 + 3) from r7_5 _]
    refine ac_addHeading (by omega) h3 ?_
    rw [pushL_app] at kk
    obtain ⟨g6, e6⟩ : ∃ g6 : AH, g6 = pushL 139 138 1 g5 (hdL (h 7 (i * 11 + 3))) := ⟨_, rfl⟩
    have n6 : g6 138 1 = g5 138 1 + (hdL (h 7 (i * 11 + 3))).length := by rw [e6]; exact pushL_n _ _
    have r7_6 : ∀ x, g6 7 x = h 7 x := fun x => by rw [e6, pushL_f (by omega) (by decide), r7_5]
    rw [← e6] at kk ⊢
    clear e6
    refine am_cv ?_
    refine a_al0 (by decide) dX7_addShip_65 ?_
    refine aw_bipush dX7_addShip_66 (by decide) ?_
    refine aw_callV 1 0 0 dX7_addShip_68 yw_X7_addByte ml_X7_19 in_X7_addByte se_X7_addByte (ci := 6) rfl at_138 (as := [_]) rfl rfl ⟨by decide, by decide, by decide, Nat.le_of_ble_eq_true rfl⟩ ?_
    refine ac_addB (by omega) ?_
    rw [pushL_app] at kk
    obtain ⟨g7, e7⟩ : ∃ g7 : AH, g7 = pushL 139 138 1 g6 ([47]) := ⟨_, rfl⟩
    have n7 : g7 138 1 = g6 138 1 + ([(47 : Int)]).length := by rw [e7]; exact pushL_n _ _
    rw [show ([(47 : Int)] : List Int).length = 1 from rfl] at n7
    have r7_7 : ∀ x, g7 7 x = h 7 x := fun x => by rw [e7, pushL_f (by omega) (by decide), r7_6]
    rw [← e7] at kk ⊢
    clear e7
    refine am_cv ?_
    refine a_al0 (by decide) dX7_addShip_71 ?_
    refine a_al1 (by decide) dX7_addShip_72 ?_
    refine a_il2 dX7_addShip_73 ?_
    refine aw_iconst dX7_addShip_74 (by decide) ?_
    refine aw_callV 1 0 0 dX7_addShip_75 yw_X3_get ml_X7_33 in_X3_get se_X3_get (ci := 2) rfl at_5 (as := [_, _]) rfl rfl ⟨by decide, by decide, by decide, Nat.le_of_ble_eq_true rfl⟩ ?_
    refine ac_get (Or.inl rfl) hi (by decide) ?_
    refine am_ci ?_
    try simp (disch := omega) only [up_at, up_ne]
    refine aw_callV 2 0 0 dX7_addShip_78 yw_X7_addNumber ml_X7_37 in_X7_addNumber se_X7_addNumber (ci := 6) rfl at_138 (as := [_]) rfl rfl ⟨by decide, by decide, by decide, Nat.le_of_ble_eq_true rfl⟩ ?_
    rw [show g7 (5 + 2) (i * 11 + 4) = h 7 (i * 11 + 4) from r7_7 _]
    refine ac_addNumber (by omega) (by omega) ?_
    refine am_cv ?_
    refine aw_vret dX7_addShip_81 rfl ?_
    exact kk
  refine ac_of (ls := [(2, 138), (2, 5), (0, i)]) pn_X7 rfl (Nat.le_of_ble_eq_true rfl) rfl ?_
  refine a_al0 (by decide) dX7_addShip_0 ?_
  refine aw_get 1 dX7_addShip_1 fl_X7_15 at_138 rfl ?_
  refine aw_if_le 13 dX7_addShip_4 (by decide) (fun c4 => ?_) (fun c4 => ?_)
  · rw [decide_eq_false (show ¬ 0 < h 138 1 by omega)] at k
    exact J13 h (fun _ => rfl) (fun _ => rfl) (by omega) k
  · rw [decide_eq_true (show 0 < h 138 1 by omega)] at k
    refine a_al0 (by decide) dX7_addShip_7 ?_
    refine aw_bipush dX7_addShip_8 (by decide) ?_
    refine aw_callV 1 0 0 dX7_addShip_10 yw_X7_addByte ml_X7_19 in_X7_addByte se_X7_addByte (ci := 6) rfl at_138 (as := [_]) rfl rfl ⟨by decide, by decide, by decide, Nat.le_of_ble_eq_true rfl⟩ ?_
    refine ac_addB (by omega) ?_
    have kk : K (.inl none) 159 (pushL 139 138 1 (pushL 139 138 1 h [32]) (shL h i)) := by
      rw [← pushL_app]
      exact k
    refine am_cv ?_
    exact J13 _ (fun x => pushL_f (by omega) (by decide) _ _) (fun x => pushL_f (by omega) (by decide) _ _) (by rw [pushL_n]; show 0 ≤ h 138 1 + ((1 : Nat) : Int) ∧ h 138 1 + ((1 : Nat) : Int) ≤ 221; omega) kk
theorem shL_eq {h g : AH} {i : Int} (hS : SR h 5 g) (hi : 0 ≤ i ∧ i < g 141 3) : shL h i = shipL (g 141) i := by
  have s1 := (hS.1.2.1 i hi.1 hi.2).1
  have x3 := hS.2.2.1.2.1 i hi.1 hi.2
  have nm := (hS.2.2.2.2.2.2.2.1 i hi.1 hi.2).1
  have e6 : h 6 i = encN (fun k => g 141 (46 + 25 * i + (17 + k))) 8 := x3
  have e1 : h 7 (i * 11 + 1) = g 141 (46 + 25 * i + 1) := s1 1 (by decide) (by decide)
  have e2 : h 7 (i * 11 + 2) = g 141 (46 + 25 * i + 2) := s1 2 (by decide) (by decide)
  have e3 : h 7 (i * 11 + 3) = g 141 (46 + 25 * i + 3) := s1 3 (by decide) (by decide)
  have e4 : h 7 (i * 11 + 4) = g 141 (46 + 25 * i + 4) := s1 4 (by decide) (by decide)
  unfold shL shipL
  rw [e6, e1, e2, e3, e4, dgL_name nm]
/-- what writing keeps -/
def WF (h g : AH) : Prop := ∀ k x, ¬ (k = 138 ∧ x = 1) → k ≠ 139 → g k x = h k x
theorem wl10 {h r : AH} {K : AO → Nat → AH → Prop} (hS : SR h 5 r) : ∀ (m : Nat) (i : Int) (g : AH), WF h g → i + m = r 141 3 → 0 ≤ i → 0 ≤ g 138 1 ∧ g 138 1 ≤ 20 * i → K (.inl (some (0, g 138 1 + (txtF (r 141) m i (decide (0 < g 138 1))).length))) 159 (pushL 139 138 1 g (txtF (r 141) m i (decide (0 < g 138 1)))) → AW mX8_writeShips 4 0 0 K 159 10 [(2, 0), (0, i)] [] g
  | 0, i, g, wf, hm, i0, hg, k => by
    have d3 : g 5 3 = r 141 3 := by rw [wf _ _ (by omega) (by decide)]; exact hS.1.1.2.2.2.1
    have e : txtF (r 141) 0 i (decide (0 < g 138 1)) = [] := rfl
    rw [e] at k
    rw [show g 138 1 + (([] : List Int).length : Int) = g 138 1 by show g 138 1 + ((0 : Nat) : Int) = _; omega] at k
    refine a_il1 dX8_writeShips_10 ?_
    refine a_al0 (by decide) dX8_writeShips_11 ?_
    refine aw_getR (r := 5) 2 rfl dX8_writeShips_12 fl_X8_24 at_0 rfl rfl ?_
    refine aw_get 3 dX8_writeShips_15 fl_X8_111 at_5 rfl ?_
    refine aw_icmp_ge 50 dX8_writeShips_18 (by decide) (fun c18 => ?_) (fun c18 => ?_)
    · refine a_al0 (by decide) dX8_writeShips_50 ?_
      refine aw_getR (r := 138) 8 rfl dX8_writeShips_51 fl_X8_61 at_0 rfl rfl ?_
      refine aw_get 1 dX8_writeShips_54 fl_X8_336 at_138 rfl ?_
      refine aw_iret dX8_writeShips_57 rfl ?_
      exact k
    · exfalso; omega
  | m + 1, i, g, wf, hm, i0, hg, k => by
    have n3 := hS.2.2.2.1.2.2.1
    have d3 : g 5 3 = r 141 3 := by rw [wf _ _ (by omega) (by decide)]; exact hS.1.1.2.2.2.1
    have e : txtF (r 141) (m + 1) i (decide (0 < g 138 1)) = if r 141 (46 + 25 * i + 10) = -1 then ((if decide (0 < g 138 1) then [32] else []) ++ shipL (r 141) i) ++ txtF (r 141) m (i + 1) true else txtF (r 141) m (i + 1) (decide (0 < g 138 1)) := rfl
    have i1 : i < r 141 3 := by omega
    have Sg : SR g 5 r := SR_eqh (shEq_sm (fun k x a b => wf k x (by omega) (by omega))) hS
    obtain ⟨s1, s2, -⟩ := Sg.1.2.1 i i0 i1
    have e1 : g 7 (i * 11 + 1) = r 141 (46 + 25 * i + 1) := s1 1 (by decide) (by decide)
    have e2 : g 7 (i * 11 + 2) = r 141 (46 + 25 * i + 2) := s1 2 (by decide) (by decide)
    have e3 : g 7 (i * 11 + 3) = r 141 (46 + 25 * i + 3) := s1 3 (by decide) (by decide)
    have e4 : g 7 (i * 11 + 4) = r 141 (46 + 25 * i + 4) := s1 4 (by decide) (by decide)
    have e6 : g 6 i = encN (fun k => r 141 (46 + 25 * i + (17 + k))) 8 := Sg.2.2.1.2.1 i i0 i1
    have s2b : r 141 (46 + 25 * i + 10) = -1 ↔ ¬ g 7 (i * 11 + 1) = -1 := s2
    have po := (hS.2.1 i i0 i1).2.1
    have bd := hS.2.2.2.1.1
    have hd := ((hS.2.2.2.1.2.1 i i0 i1).1).2.2.1
    obtain ⟨nm, hl, -⟩ := hS.2.2.2.2.2.2.2.1 i i0 i1
    have nr := encN_rg nm
    have el := shL_eq Sg ⟨i0, i1⟩
    have ll := shL_le g i
    refine a_il1 dX8_writeShips_10 ?_
    refine a_al0 (by decide) dX8_writeShips_11 ?_
    refine aw_getR (r := 5) 2 rfl dX8_writeShips_12 fl_X8_24 at_0 rfl rfl ?_
    refine aw_get 3 dX8_writeShips_15 fl_X8_111 at_5 rfl ?_
    refine aw_icmp_ge 50 dX8_writeShips_18 (by decide) (fun c18 => ?_) (fun c18 => ?_)
    · exfalso; omega
    · refine a_al0 (by decide) dX8_writeShips_21 ?_
      refine aw_getR (r := 5) 2 rfl dX8_writeShips_22 fl_X8_24 at_0 rfl rfl ?_
      refine a_il1 dX8_writeShips_25 ?_
      refine aw_callV 2 0 0 dX8_writeShips_26 yw_X3_floats ml_X8_251 in_X3_floats se_X3_floats (ci := 2) rfl at_5 (as := [_]) rfl rfl ⟨by decide, by decide, by decide, Nat.le_of_ble_eq_true rfl⟩ ?_
      refine ac_floats (Or.inl rfl) (by omega) (fun q => ?_) (fun q => ?_)
      · have q2 : r 141 (46 + 25 * i + 10) = -1 := s2b.mpr q
        have p := po q2
        have p4 := hl q2
        obtain ⟨b0, b1, -⟩ := bd
        rw [e, if_pos q2, ← el] at k
        refine am_ci ?_
        refine aw_if_eq_n 44 dX8_writeShips_29 (by decide) (by decide) ?_
        refine a_al0 (by decide) dX8_writeShips_32 ?_
        refine aw_getR (r := 138) 8 rfl dX8_writeShips_33 fl_X8_61 at_0 rfl rfl ?_
        refine a_al0 (by decide) dX8_writeShips_36 ?_
        refine aw_getR (r := 5) 2 rfl dX8_writeShips_37 fl_X8_24 at_0 rfl rfl ?_
        refine a_il1 dX8_writeShips_40 ?_
        refine aw_callV 3 0 0 dX8_writeShips_41 yw_X7_addShip ml_X8_337 in_X7_addShip se_X7_addShip (ci := 6) rfl at_138 (as := [_, _]) rfl rfl ⟨by decide, by decide, by decide, Nat.le_of_ble_eq_true rfl⟩ ?_
        refine ac_addShip (by omega) (by rw [e6]; exact nr) (by omega) (by omega) (by rw [e3]; exact hd) (by omega) (by omega) ?_
        obtain ⟨l, hL⟩ : ∃ l : List Int, l = (if decide (0 < g 138 1) then [32] else []) ++ shL g i := ⟨_, rfl⟩
        have l0 : 1 ≤ l.length ∧ l.length ≤ 20 := by
          rw [hL, List.length_append]
          have w : 1 ≤ (shL g i).length := by
            unfold shL
            rw [List.length_append, List.length_append]
            show 1 ≤ _ + (1 + _)
            omega
          split
          · show 1 ≤ 1 + _ ∧ 1 + _ ≤ 20
            omega
          · show 1 ≤ 0 + _ ∧ 0 + _ ≤ 20
            omega
        rw [← hL] at k ⊢
        clear hL
        obtain ⟨g1, E1⟩ : ∃ g1 : AH, g1 = pushL 139 138 1 g l := ⟨_, rfl⟩
        have N1 : g1 138 1 = g 138 1 + l.length := by rw [E1, pushL_n]
        have wf1 : WF h g1 := fun k x a b => by rw [E1, pushL_f a b, wf k x a b]
        rw [pushL_app, List.length_append, ← E1] at k
        rw [← E1]
        clear E1
        refine am_cv ?_
        refine a_iiR1 (by omega) rfl rfl dX8_writeShips_44 ?_
        refine aw_goto 10 dX8_writeShips_47 (by decide) ?_
        refine wl10 hS m (i + 1) g1 wf1 (by omega) (by omega) (by omega) ?_
        rw [decide_eq_true (show 0 < g1 138 1 by omega), show g1 138 1 + ((txtF (r 141) m (i + 1) true).length : Int) = g 138 1 + ((l.length + (txtF (r 141) m (i + 1) true).length : Nat) : Int) by omega]
        exact k
      · have q2 : ¬ r 141 (46 + 25 * i + 10) = -1 := fun w => (s2b.mp w) q
        rw [e, if_neg q2] at k
        refine am_ci ?_
        refine aw_if_eq_y 44 dX8_writeShips_29 (by decide) (by decide) ?_
        refine a_iiR1 (by omega) rfl rfl dX8_writeShips_44 ?_
        refine aw_goto 10 dX8_writeShips_47 (by decide) ?_
        exact wl10 hS m (i + 1) g wf (by omega) (by omega) (by omega) k
theorem cx_writeShips {h : AH} {K : AO → Nat → AH → Prop} (hS : SR h 5 h) (k : K (.inl (some (0, (txtF (h 141) (h 141 3).toNat 0 false).length))) 159 (pushL 139 138 1 (up h 138 1 0) (txtF (h 141) (h 141 3).toNat 0 false))) : AC mX8_writeShips 4 0 0 159 [(2, 0)] h K := by
  have n3 := hS.2.2.2.1.2.2.1
  refine ac_of (ls := [(2, 0), (9, 0)]) pn_X8 rfl (Nat.le_of_ble_eq_true rfl) rfl ?_
  refine a_al0 (by decide) dX8_writeShips_0 ?_
  refine aw_getR (r := 138) 8 rfl dX8_writeShips_1 fl_X8_61 at_0 rfl rfl ?_
  refine aw_iconst dX8_writeShips_4 (by decide) ?_
  refine aw_put 1 dX8_writeShips_5 fp_X8_336 at_138 rfl ?_
  refine aw_iconst dX8_writeShips_8 (by decide) ?_
  refine a_is1 rfl rfl dX8_writeShips_9 ?_
  refine wl10 hS (h 141 3).toNat 0 (up h 138 1 0) (fun k x a b => up_ne a) (by omega) (by omega) (by rw [up_at]; decide) ?_
  rw [up_at, decide_eq_false (by decide), Int.zero_add]
  exact k
