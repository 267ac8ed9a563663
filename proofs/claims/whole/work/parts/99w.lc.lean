/-! the law's own methods around those of the class -/
theorem pn_L9 : plainName RL = true := by decide +kernel
def WK (P : Int → Prop) (ex : List (String × Int)) (K : AO → Nat → AH → Prop) (tg : Nat) : AO → Nat → AH → Prop := fun o n h1 => n = 159 ∧ match o with
  | .inl (some v) => v.1 = tg ∧ P v.2 ∧ K (.inl (some (0, 0))) 159 (up h1 157 0 v.2)
  | .inl none => False
  | .inr E => ∃ k, (E, k) ∈ ex ∧ K (.inl (some (0, k))) 159 h1
def WN (ex : List (String × Int)) (K : AO → Nat → AH → Prop) : AO → Nat → AH → Prop := fun o n h1 => n = 159 ∧ match o with
  | .inl (some _) => False
  | .inl none => K (.inl (some (0, 0))) 159 h1
  | .inr E => ∃ k, (E, k) ∈ ex ∧ K (.inl (some (0, k))) 159 h1
def WD (ex : List (String × Int)) (K : AO → Nat → AH → Prop) : AO → Nat → AH → Prop := fun o n h1 => n = 159 ∧ match o with
  | .inl (some v) => v.1 = 3 ∧ vf_n64 (FP.f2d (UInt32.ofNat v.2.toNat)) ∧ K (.inl (some (0, 0))) 159 (up h1 158 0 (f_f2d v.2))
  | .inl none => False
  | .inr E => ∃ k, (E, k) ∈ ex ∧ K (.inl (some (0, k))) 159 h1
theorem wL_append {p0 p1 p2 p3 p4 : Int} {h : AH} {K : AO → Nat → AH → Prop} (k : ∀ K' : AO → Nat → AH → Prop, (∀ o n h1, WK (fun _ => True) [(xS, 1)] K 0 o n h1 → K' o n h1) → AC mX8_append 6 1 6 159 [(2, 0), (0, p0), (0, p1), (0, p2), (0, p3), (0, p4)] h K') : AC mL_append 7 1 6 159 [(2, 0), (0, p0), (0, p1), (0, p2), (0, p3), (0, p4), (2, 157)] h K := by
  refine ac_ofX (ls := [(2, 0), (0, p0), (0, p1), (0, p2), (0, p3), (0, p4), (2, 157), (9, 0)]) pn_L9 (fun q => by cases q) (Nat.le_of_ble_eq_true rfl) rfl ?_
  refine a_al6 (by decide) dL_append_0 ?_
  refine aw_iconst dL_append_2 (by decide) ?_
  refine a_al0 (by decide) dL_append_3 ?_
  refine a_il1 dL_append_4 ?_
  refine a_il2 dL_append_5 ?_
  refine a_il3 dL_append_6 ?_
  refine a_il4 dL_append_7 ?_
  refine a_il5 dL_append_9 ?_
  refine aw_callV 6 1 6 dL_append_11 yw_X8_append ml_L_7 in_X8_append se_X8_append (ci := 7) rfl at_0 (as := [_, _, _, _, _]) rfl rfl ⟨by decide, by decide, by decide, Nat.le_of_ble_eq_true rfl⟩ ?_
  refine k _ (fun o n h1 q => ?_)
  obtain ⟨rfl, q⟩ := q
  rcases o with r | E
  · rcases r with _ | ⟨t, x⟩
    · exact q.elim
    · obtain ⟨q1, q2, q3⟩ := q
      dsimp only at q1 q2 q3
      subst q1
      show AW mL_append 7 (1 - 1) (6 - 6) K 159 14 [(2, 0), (0, p0), (0, p1), (0, p2), (0, p3), (0, p4), (2, 157), (9, 0)] ((0, x) :: [(0, 0), (2, 157)]) h1
      refine aw_i2l dL_append_14 ?_
      refine aw_last dL_append_15 ar_157 (by omega) ?_
      refine aw_goto 23 dL_append_16 (by decide) ?_
      refine aw_iconst dL_append_23 (by decide) ?_
      refine aw_iret dL_append_24 rfl ?_
      exact q3
  · obtain ⟨kk, q1, q2⟩ := q
    have q4 : (E = xS ∧ kk = 1) := by
      simpa using q1
    rcases q4 with ⟨rfl, rfl⟩
    · refine ax_cat (E := xS) (i := 7) (len := 2) [] (0, 16, 19, 13) [] rfl (fun y hy => by cases hy) ⟨0, 16, 19, 13⟩ rfl (by decide) (by decide) cl_L_13 (by decide) rfl (by decide) (Or.inl ⟨dL_append_19, rfl⟩) ?_
      refine aw_iconst dL_append_21 (by decide) ?_
      refine aw_iret dL_append_22 rfl ?_
      exact q2
theorem wL_count {p0 : Int} {h : AH} {K : AO → Nat → AH → Prop} (k : ∀ K' : AO → Nat → AH → Prop, (∀ o n h1, WK (fun _ => True) [(xA, 1)] K 0 o n h1 → K' o n h1) → AC mX8_count 6 1 6 159 [(2, 0), (0, p0)] h K') : AC mL_count 7 1 6 159 [(2, 0), (0, p0), (2, 157)] h K := by
  refine ac_ofX (ls := [(2, 0), (0, p0), (2, 157), (9, 0)]) pn_L9 (fun q => by cases q) (Nat.le_of_ble_eq_true rfl) rfl ?_
  refine a_al2 (by decide) dL_count_0 ?_
  refine aw_iconst dL_count_1 (by decide) ?_
  refine a_al0 (by decide) dL_count_2 ?_
  refine a_il1 dL_count_3 ?_
  refine aw_callV 6 1 6 dL_count_4 yw_X8_count ml_L_15 in_X8_count se_X8_count (ci := 7) rfl at_0 (as := [_]) rfl rfl ⟨by decide, by decide, by decide, Nat.le_of_ble_eq_true rfl⟩ ?_
  refine k _ (fun o n h1 q => ?_)
  obtain ⟨rfl, q⟩ := q
  rcases o with r | E
  · rcases r with _ | ⟨t, x⟩
    · exact q.elim
    · obtain ⟨q1, q2, q3⟩ := q
      dsimp only at q1 q2 q3
      subst q1
      show AW mL_count 7 (1 - 1) (6 - 6) K 159 7 [(2, 0), (0, p0), (2, 157), (9, 0)] ((0, x) :: [(0, 0), (2, 157)]) h1
      refine aw_i2l dL_count_7 ?_
      refine aw_last dL_count_8 ar_157 (by omega) ?_
      refine aw_goto 15 dL_count_9 (by decide) ?_
      refine aw_iconst dL_count_15 (by decide) ?_
      refine aw_iret dL_count_16 rfl ?_
      exact q3
  · obtain ⟨kk, q1, q2⟩ := q
    have q4 : (E = xA ∧ kk = 1) := by
      simpa using q1
    rcases q4 with ⟨rfl, rfl⟩
    · refine ax_cat (E := xA) (i := 3) (len := 1) [] (0, 9, 12, 19) [] rfl (fun y hy => by cases hy) ⟨0, 9, 12, 19⟩ rfl (by decide) (by decide) cl_L_19 (by decide) rfl (by decide) (Or.inr ⟨3, rfl, dL_count_12, rfl⟩) ?_
      refine aw_iconst dL_count_13 (by decide) ?_
      refine aw_iret dL_count_14 rfl ?_
      exact q2
theorem wL_ship {p0 p1 : Int} {h : AH} {K : AO → Nat → AH → Prop} (k : ∀ K' : AO → Nat → AH → Prop, (∀ o n h1, WK (fun _ => True) [(xI, 1), (xA, 2)] K 0 o n h1 → K' o n h1) → AC mX8_ship 7 2 12 159 [(2, 0), (0, p0), (0, p1)] h K') : AC mL_ship 8 2 12 159 [(2, 0), (0, p0), (0, p1), (2, 157)] h K := by
  refine ac_ofX (ls := [(2, 0), (0, p0), (0, p1), (2, 157), (9, 0)]) pn_L9 (fun q => by cases q) (Nat.le_of_ble_eq_true rfl) rfl ?_
  refine a_al3 (by decide) dL_ship_0 ?_
  refine aw_iconst dL_ship_1 (by decide) ?_
  refine a_al0 (by decide) dL_ship_2 ?_
  refine a_il1 dL_ship_3 ?_
  refine a_il2 dL_ship_4 ?_
  refine aw_callV 7 2 12 dL_ship_5 yw_X8_ship ml_L_21 in_X8_ship se_X8_ship (ci := 7) rfl at_0 (as := [_, _]) rfl rfl ⟨by decide, by decide, by decide, Nat.le_of_ble_eq_true rfl⟩ ?_
  refine k _ (fun o n h1 q => ?_)
  obtain ⟨rfl, q⟩ := q
  rcases o with r | E
  · rcases r with _ | ⟨t, x⟩
    · exact q.elim
    · obtain ⟨q1, q2, q3⟩ := q
      dsimp only at q1 q2 q3
      subst q1
      show AW mL_ship 8 (2 - 2) (12 - 12) K 159 8 [(2, 0), (0, p0), (0, p1), (2, 157), (9, 0)] ((0, x) :: [(0, 0), (2, 157)]) h1
      refine aw_i2l dL_ship_8 ?_
      refine aw_last dL_ship_9 ar_157 (by omega) ?_
      refine aw_goto 21 dL_ship_10 (by decide) ?_
      refine aw_iconst dL_ship_21 (by decide) ?_
      refine aw_iret dL_ship_22 rfl ?_
      exact q3
  · obtain ⟨kk, q1, q2⟩ := q
    have q4 : (E = xI ∧ kk = 1) ∨ (E = xA ∧ kk = 2) := by
      simpa using q1
    rcases q4 with ⟨rfl, rfl⟩ | ⟨rfl, rfl⟩
    · refine ax_cat (E := xI) (i := 4) (len := 2) [] (0, 10, 13, 25) [(0, 10, 17, 19)] rfl (fun y hy => by cases hy) ⟨0, 10, 13, 25⟩ rfl (by decide) (by decide) cl_L_25 (by decide) rfl (by decide) (Or.inl ⟨dL_ship_13, rfl⟩) ?_
      refine aw_iconst dL_ship_15 (by decide) ?_
      refine aw_iret dL_ship_16 rfl ?_
      exact q2
    · refine ax_cat (E := xA) (i := 4) (len := 2) [(0, 10, 13, 25)] (0, 10, 17, 19) [] rfl (fun y hy => by cases List.mem_singleton.mp hy; exact ⟨by decide, _, cl_L_25, by decide, by decide⟩) ⟨0, 10, 17, 19⟩ rfl (by decide) (by decide) cl_L_19 (by decide) rfl (by decide) (Or.inl ⟨dL_ship_17, rfl⟩) ?_
      refine aw_iconst dL_ship_19 (by decide) ?_
      refine aw_iret dL_ship_20 rfl ?_
      exact q2
theorem wL_fleet {p0 p1 : Int} {h : AH} {K : AO → Nat → AH → Prop} (k : ∀ K' : AO → Nat → AH → Prop, (∀ o n h1, WK (fun _ => True) [(xI, 1), (xA, 2)] K 0 o n h1 → K' o n h1) → AC mX8_fleet 7 2 12 159 [(2, 0), (0, p0), (0, p1)] h K') : AC mL_fleet 8 2 12 159 [(2, 0), (0, p0), (0, p1), (2, 157)] h K := by
  refine ac_ofX (ls := [(2, 0), (0, p0), (0, p1), (2, 157), (9, 0)]) pn_L9 (fun q => by cases q) (Nat.le_of_ble_eq_true rfl) rfl ?_
  refine a_al3 (by decide) dL_fleet_0 ?_
  refine aw_iconst dL_fleet_1 (by decide) ?_
  refine a_al0 (by decide) dL_fleet_2 ?_
  refine a_il1 dL_fleet_3 ?_
  refine a_il2 dL_fleet_4 ?_
  refine aw_callV 7 2 12 dL_fleet_5 yw_X8_fleet ml_L_27 in_X8_fleet se_X8_fleet (ci := 7) rfl at_0 (as := [_, _]) rfl rfl ⟨by decide, by decide, by decide, Nat.le_of_ble_eq_true rfl⟩ ?_
  refine k _ (fun o n h1 q => ?_)
  obtain ⟨rfl, q⟩ := q
  rcases o with r | E
  · rcases r with _ | ⟨t, x⟩
    · exact q.elim
    · obtain ⟨q1, q2, q3⟩ := q
      dsimp only at q1 q2 q3
      subst q1
      show AW mL_fleet 8 (2 - 2) (12 - 12) K 159 8 [(2, 0), (0, p0), (0, p1), (2, 157), (9, 0)] ((0, x) :: [(0, 0), (2, 157)]) h1
      refine aw_i2l dL_fleet_8 ?_
      refine aw_last dL_fleet_9 ar_157 (by omega) ?_
      refine aw_goto 21 dL_fleet_10 (by decide) ?_
      refine aw_iconst dL_fleet_21 (by decide) ?_
      refine aw_iret dL_fleet_22 rfl ?_
      exact q3
  · obtain ⟨kk, q1, q2⟩ := q
    have q4 : (E = xI ∧ kk = 1) ∨ (E = xA ∧ kk = 2) := by
      simpa using q1
    rcases q4 with ⟨rfl, rfl⟩ | ⟨rfl, rfl⟩
    · refine ax_cat (E := xI) (i := 4) (len := 2) [] (0, 10, 13, 25) [(0, 10, 17, 19)] rfl (fun y hy => by cases hy) ⟨0, 10, 13, 25⟩ rfl (by decide) (by decide) cl_L_25 (by decide) rfl (by decide) (Or.inl ⟨dL_fleet_13, rfl⟩) ?_
      refine aw_iconst dL_fleet_15 (by decide) ?_
      refine aw_iret dL_fleet_16 rfl ?_
      exact q2
    · refine ax_cat (E := xA) (i := 4) (len := 2) [(0, 10, 13, 25)] (0, 10, 17, 19) [] rfl (fun y hy => by cases List.mem_singleton.mp hy; exact ⟨by decide, _, cl_L_25, by decide, by decide⟩) ⟨0, 10, 17, 19⟩ rfl (by decide) (by decide) cl_L_19 (by decide) rfl (by decide) (Or.inl ⟨dL_fleet_17, rfl⟩) ?_
      refine aw_iconst dL_fleet_19 (by decide) ?_
      refine aw_iret dL_fleet_20 rfl ?_
      exact q2
theorem wL_at {p0 p1 : Int} {h : AH} {K : AO → Nat → AH → Prop} (k : ∀ K' : AO → Nat → AH → Prop, (∀ o n h1, WK (fun _ => True) [(xI, 1)] K 0 o n h1 → K' o n h1) → AC mX8_at 6 1 6 159 [(2, 0), (0, p0), (0, p1)] h K') : AC mL_at 7 1 6 159 [(2, 0), (0, p0), (0, p1), (2, 157)] h K := by
  refine ac_ofX (ls := [(2, 0), (0, p0), (0, p1), (2, 157), (9, 0)]) pn_L9 (fun q => by cases q) (Nat.le_of_ble_eq_true rfl) rfl ?_
  refine a_al3 (by decide) dL_at_0 ?_
  refine aw_iconst dL_at_1 (by decide) ?_
  refine a_al0 (by decide) dL_at_2 ?_
  refine a_il1 dL_at_3 ?_
  refine a_il2 dL_at_4 ?_
  refine aw_callV 6 1 6 dL_at_5 yw_X8_at ml_L_30 in_X8_at se_X8_at (ci := 7) rfl at_0 (as := [_, _]) rfl rfl ⟨by decide, by decide, by decide, Nat.le_of_ble_eq_true rfl⟩ ?_
  refine k _ (fun o n h1 q => ?_)
  obtain ⟨rfl, q⟩ := q
  rcases o with r | E
  · rcases r with _ | ⟨t, x⟩
    · exact q.elim
    · obtain ⟨q1, q2, q3⟩ := q
      dsimp only at q1 q2 q3
      subst q1
      show AW mL_at 7 (1 - 1) (6 - 6) K 159 8 [(2, 0), (0, p0), (0, p1), (2, 157), (9, 0)] ((0, x) :: [(0, 0), (2, 157)]) h1
      refine aw_i2l dL_at_8 ?_
      refine aw_last dL_at_9 ar_157 (by omega) ?_
      refine aw_goto 17 dL_at_10 (by decide) ?_
      refine aw_iconst dL_at_17 (by decide) ?_
      refine aw_iret dL_at_18 rfl ?_
      exact q3
  · obtain ⟨kk, q1, q2⟩ := q
    have q4 : (E = xI ∧ kk = 1) := by
      simpa using q1
    rcases q4 with ⟨rfl, rfl⟩
    · refine ax_cat (E := xI) (i := 4) (len := 2) [] (0, 10, 13, 25) [] rfl (fun y hy => by cases hy) ⟨0, 10, 13, 25⟩ rfl (by decide) (by decide) cl_L_25 (by decide) rfl (by decide) (Or.inl ⟨dL_at_13, rfl⟩) ?_
      refine aw_iconst dL_at_15 (by decide) ?_
      refine aw_iret dL_at_16 rfl ?_
      exact q2
theorem wL_order {p0 p1 : Int} {h : AH} {K : AO → Nat → AH → Prop} (k : ∀ K' : AO → Nat → AH → Prop, (∀ o n h1, WK (fun _ => True) [(xI, 1)] K 0 o n h1 → K' o n h1) → AC mX8_order 7 2 12 159 [(2, 0), (0, p0), (0, p1)] h K') : AC mL_order 8 2 12 159 [(2, 0), (0, p0), (0, p1), (2, 157)] h K := by
  refine ac_ofX (ls := [(2, 0), (0, p0), (0, p1), (2, 157), (9, 0)]) pn_L9 (fun q => by cases q) (Nat.le_of_ble_eq_true rfl) rfl ?_
  refine a_al3 (by decide) dL_order_0 ?_
  refine aw_iconst dL_order_1 (by decide) ?_
  refine a_al0 (by decide) dL_order_2 ?_
  refine a_il1 dL_order_3 ?_
  refine a_il2 dL_order_4 ?_
  refine aw_callV 7 2 12 dL_order_5 yw_X8_order ml_L_33 in_X8_order se_X8_order (ci := 7) rfl at_0 (as := [_, _]) rfl rfl ⟨by decide, by decide, by decide, Nat.le_of_ble_eq_true rfl⟩ ?_
  refine k _ (fun o n h1 q => ?_)
  obtain ⟨rfl, q⟩ := q
  rcases o with r | E
  · rcases r with _ | ⟨t, x⟩
    · exact q.elim
    · obtain ⟨q1, q2, q3⟩ := q
      dsimp only at q1 q2 q3
      subst q1
      show AW mL_order 8 (2 - 2) (12 - 12) K 159 8 [(2, 0), (0, p0), (0, p1), (2, 157), (9, 0)] ((0, x) :: [(0, 0), (2, 157)]) h1
      refine aw_i2l dL_order_8 ?_
      refine aw_last dL_order_9 ar_157 (by omega) ?_
      refine aw_goto 17 dL_order_10 (by decide) ?_
      refine aw_iconst dL_order_17 (by decide) ?_
      refine aw_iret dL_order_18 rfl ?_
      exact q3
  · obtain ⟨kk, q1, q2⟩ := q
    have q4 : (E = xI ∧ kk = 1) := by
      simpa using q1
    rcases q4 with ⟨rfl, rfl⟩
    · refine ax_cat (E := xI) (i := 4) (len := 2) [] (0, 10, 13, 25) [] rfl (fun y hy => by cases hy) ⟨0, 10, 13, 25⟩ rfl (by decide) (by decide) cl_L_25 (by decide) rfl (by decide) (Or.inl ⟨dL_order_13, rfl⟩) ?_
      refine aw_iconst dL_order_15 (by decide) ?_
      refine aw_iret dL_order_16 rfl ?_
      exact q2
theorem wL_gain {p0 p1 : Int} {h : AH} {K : AO → Nat → AH → Prop} (k : ∀ K' : AO → Nat → AH → Prop, (∀ o n h1, WK (fun _ => True) [(xI, 1), (xA, 2)] K 0 o n h1 → K' o n h1) → AC mX8_gain 7 2 12 159 [(2, 0), (0, p0), (0, p1)] h K') : AC mL_gain 8 2 12 159 [(2, 0), (0, p0), (0, p1), (2, 157)] h K := by
  refine ac_ofX (ls := [(2, 0), (0, p0), (0, p1), (2, 157), (9, 0)]) pn_L9 (fun q => by cases q) (Nat.le_of_ble_eq_true rfl) rfl ?_
  refine a_al3 (by decide) dL_gain_0 ?_
  refine aw_iconst dL_gain_1 (by decide) ?_
  refine a_al0 (by decide) dL_gain_2 ?_
  refine a_il1 dL_gain_3 ?_
  refine a_il2 dL_gain_4 ?_
  refine aw_callV 7 2 12 dL_gain_5 yw_X8_gain ml_L_36 in_X8_gain se_X8_gain (ci := 7) rfl at_0 (as := [_, _]) rfl rfl ⟨by decide, by decide, by decide, Nat.le_of_ble_eq_true rfl⟩ ?_
  refine k _ (fun o n h1 q => ?_)
  obtain ⟨rfl, q⟩ := q
  rcases o with r | E
  · rcases r with _ | ⟨t, x⟩
    · exact q.elim
    · obtain ⟨q1, q2, q3⟩ := q
      dsimp only at q1 q2 q3
      subst q1
      show AW mL_gain 8 (2 - 2) (12 - 12) K 159 8 [(2, 0), (0, p0), (0, p1), (2, 157), (9, 0)] ((0, x) :: [(0, 0), (2, 157)]) h1
      refine aw_i2l dL_gain_8 ?_
      refine aw_last dL_gain_9 ar_157 (by omega) ?_
      refine aw_goto 21 dL_gain_10 (by decide) ?_
      refine aw_iconst dL_gain_21 (by decide) ?_
      refine aw_iret dL_gain_22 rfl ?_
      exact q3
  · obtain ⟨kk, q1, q2⟩ := q
    have q4 : (E = xI ∧ kk = 1) ∨ (E = xA ∧ kk = 2) := by
      simpa using q1
    rcases q4 with ⟨rfl, rfl⟩ | ⟨rfl, rfl⟩
    · refine ax_cat (E := xI) (i := 4) (len := 2) [] (0, 10, 13, 25) [(0, 10, 17, 19)] rfl (fun y hy => by cases hy) ⟨0, 10, 13, 25⟩ rfl (by decide) (by decide) cl_L_25 (by decide) rfl (by decide) (Or.inl ⟨dL_gain_13, rfl⟩) ?_
      refine aw_iconst dL_gain_15 (by decide) ?_
      refine aw_iret dL_gain_16 rfl ?_
      exact q2
    · refine ax_cat (E := xA) (i := 4) (len := 2) [(0, 10, 13, 25)] (0, 10, 17, 19) [] rfl (fun y hy => by cases List.mem_singleton.mp hy; exact ⟨by decide, _, cl_L_25, by decide, by decide⟩) ⟨0, 10, 17, 19⟩ rfl (by decide) (by decide) cl_L_19 (by decide) rfl (by decide) (Or.inl ⟨dL_gain_17, rfl⟩) ?_
      refine aw_iconst dL_gain_19 (by decide) ?_
      refine aw_iret dL_gain_20 rfl ?_
      exact q2
theorem wL_sees {p0 p1 : Int} {h : AH} {K : AO → Nat → AH → Prop} (k : ∀ K' : AO → Nat → AH → Prop, (∀ o n h1, WK (fun x => x = 0 ∨ x = 1) [(xI, 1)] K 0 o n h1 → K' o n h1) → AC mX8_sees 7 2 12 159 [(2, 0), (0, p0), (0, p1)] h K') : AC mL_sees 8 2 12 159 [(2, 0), (0, p0), (0, p1), (2, 157)] h K := by
  refine ac_ofX (ls := [(2, 0), (0, p0), (0, p1), (2, 157), (9, 0)]) pn_L9 (fun q => by cases q) (Nat.le_of_ble_eq_true rfl) rfl ?_
  refine a_al3 (by decide) dL_sees_0 ?_
  refine aw_iconst dL_sees_1 (by decide) ?_
  refine a_al0 (by decide) dL_sees_2 ?_
  refine a_il1 dL_sees_3 ?_
  refine a_il2 dL_sees_4 ?_
  refine aw_callV 7 2 12 dL_sees_5 yw_X8_sees ml_L_39 in_X8_sees se_X8_sees (ci := 7) rfl at_0 (as := [_, _]) rfl rfl ⟨by decide, by decide, by decide, Nat.le_of_ble_eq_true rfl⟩ ?_
  refine k _ (fun o n h1 q => ?_)
  obtain ⟨rfl, q⟩ := q
  rcases o with r | E
  · rcases r with _ | ⟨t, x⟩
    · exact q.elim
    · obtain ⟨q1, q2, q3⟩ := q
      dsimp only at q1 q2 q3
      subst q1
      show AW mL_sees 8 (2 - 2) (12 - 12) K 159 8 [(2, 0), (0, p0), (0, p1), (2, 157), (9, 0)] ((0, x) :: [(0, 0), (2, 157)]) h1
      refine aw_if_eq 15 dL_sees_8 (by decide) (fun c8 => ?_) (fun c8 => ?_)
      · have e : x = 0 := by omega
        rw [e] at q3
        refine aw_lconst (x := 0) dL_sees_15 (by decide) ?_
        refine aw_last dL_sees_16 ar_157 (by omega) ?_
        refine aw_goto 24 dL_sees_17 (by decide) ?_
        refine aw_iconst dL_sees_24 (by decide) ?_
        refine aw_iret dL_sees_25 rfl ?_
        exact q3
      · have e : x = 1 := by omega
        rw [e] at q3
        refine aw_lconst (x := 1) dL_sees_11 (by decide) ?_
        refine aw_goto 16 dL_sees_12 (by decide) ?_
        refine aw_last dL_sees_16 ar_157 (by omega) ?_
        refine aw_goto 24 dL_sees_17 (by decide) ?_
        refine aw_iconst dL_sees_24 (by decide) ?_
        refine aw_iret dL_sees_25 rfl ?_
        exact q3
  · obtain ⟨kk, q1, q2⟩ := q
    have q4 : (E = xI ∧ kk = 1) := by
      simpa using q1
    rcases q4 with ⟨rfl, rfl⟩
    · refine ax_cat (E := xI) (i := 4) (len := 2) [] (0, 17, 20, 25) [] rfl (fun y hy => by cases hy) ⟨0, 17, 20, 25⟩ rfl (by decide) (by decide) cl_L_25 (by decide) rfl (by decide) (Or.inl ⟨dL_sees_20, rfl⟩) ?_
      refine aw_iconst dL_sees_22 (by decide) ?_
      refine aw_iret dL_sees_23 rfl ?_
      exact q2
theorem wL_shift {p0 p1 : Int} {h : AH} {K : AO → Nat → AH → Prop} (k : ∀ K' : AO → Nat → AH → Prop, (∀ o n h1, WK (fun _ => True) [(xA, 1)] K 0 o n h1 → K' o n h1) → AC mX8_shift 6 1 6 159 [(2, 0), (0, p0), (0, p1)] h K') : AC mL_shift 7 1 6 159 [(2, 0), (0, p0), (0, p1), (2, 157)] h K := by
  refine ac_ofX (ls := [(2, 0), (0, p0), (0, p1), (2, 157), (9, 0)]) pn_L9 (fun q => by cases q) (Nat.le_of_ble_eq_true rfl) rfl ?_
  refine a_al3 (by decide) dL_shift_0 ?_
  refine aw_iconst dL_shift_1 (by decide) ?_
  refine a_al0 (by decide) dL_shift_2 ?_
  refine a_il1 dL_shift_3 ?_
  refine a_il2 dL_shift_4 ?_
  refine aw_callV 6 1 6 dL_shift_5 yw_X8_shift ml_L_43 in_X8_shift se_X8_shift (ci := 7) rfl at_0 (as := [_, _]) rfl rfl ⟨by decide, by decide, by decide, Nat.le_of_ble_eq_true rfl⟩ ?_
  refine k _ (fun o n h1 q => ?_)
  obtain ⟨rfl, q⟩ := q
  rcases o with r | E
  · rcases r with _ | ⟨t, x⟩
    · exact q.elim
    · obtain ⟨q1, q2, q3⟩ := q
      dsimp only at q1 q2 q3
      subst q1
      show AW mL_shift 7 (1 - 1) (6 - 6) K 159 8 [(2, 0), (0, p0), (0, p1), (2, 157), (9, 0)] ((0, x) :: [(0, 0), (2, 157)]) h1
      refine aw_i2l dL_shift_8 ?_
      refine aw_last dL_shift_9 ar_157 (by omega) ?_
      refine aw_goto 17 dL_shift_10 (by decide) ?_
      refine aw_iconst dL_shift_17 (by decide) ?_
      refine aw_iret dL_shift_18 rfl ?_
      exact q3
  · obtain ⟨kk, q1, q2⟩ := q
    have q4 : (E = xA ∧ kk = 1) := by
      simpa using q1
    rcases q4 with ⟨rfl, rfl⟩
    · refine ax_cat (E := xA) (i := 4) (len := 2) [] (0, 10, 13, 19) [] rfl (fun y hy => by cases hy) ⟨0, 10, 13, 19⟩ rfl (by decide) (by decide) cl_L_19 (by decide) rfl (by decide) (Or.inl ⟨dL_shift_13, rfl⟩) ?_
      refine aw_iconst dL_shift_15 (by decide) ?_
      refine aw_iret dL_shift_16 rfl ?_
      exact q2
theorem wL_ram {p0 p1 : Int} {h : AH} {K : AO → Nat → AH → Prop} (k : ∀ K' : AO → Nat → AH → Prop, (∀ o n h1, WK (fun _ => True) [(xI, 1), (xA, 2)] K 0 o n h1 → K' o n h1) → AC mX8_ram 6 1 6 159 [(2, 0), (0, p0), (0, p1)] h K') : AC mL_ram 7 1 6 159 [(2, 0), (0, p0), (0, p1), (2, 157)] h K := by
  refine ac_ofX (ls := [(2, 0), (0, p0), (0, p1), (2, 157), (9, 0)]) pn_L9 (fun q => by cases q) (Nat.le_of_ble_eq_true rfl) rfl ?_
  refine a_al3 (by decide) dL_ram_0 ?_
  refine aw_iconst dL_ram_1 (by decide) ?_
  refine a_al0 (by decide) dL_ram_2 ?_
  refine a_il1 dL_ram_3 ?_
  refine a_il2 dL_ram_4 ?_
  refine aw_callV 6 1 6 dL_ram_5 yw_X8_ram ml_L_46 in_X8_ram se_X8_ram (ci := 7) rfl at_0 (as := [_, _]) rfl rfl ⟨by decide, by decide, by decide, Nat.le_of_ble_eq_true rfl⟩ ?_
  refine k _ (fun o n h1 q => ?_)
  obtain ⟨rfl, q⟩ := q
  rcases o with r | E
  · rcases r with _ | ⟨t, x⟩
    · exact q.elim
    · obtain ⟨q1, q2, q3⟩ := q
      dsimp only at q1 q2 q3
      subst q1
      show AW mL_ram 7 (1 - 1) (6 - 6) K 159 8 [(2, 0), (0, p0), (0, p1), (2, 157), (9, 0)] ((0, x) :: [(0, 0), (2, 157)]) h1
      refine aw_i2l dL_ram_8 ?_
      refine aw_last dL_ram_9 ar_157 (by omega) ?_
      refine aw_goto 21 dL_ram_10 (by decide) ?_
      refine aw_iconst dL_ram_21 (by decide) ?_
      refine aw_iret dL_ram_22 rfl ?_
      exact q3
  · obtain ⟨kk, q1, q2⟩ := q
    have q4 : (E = xI ∧ kk = 1) ∨ (E = xA ∧ kk = 2) := by
      simpa using q1
    rcases q4 with ⟨rfl, rfl⟩ | ⟨rfl, rfl⟩
    · refine ax_cat (E := xI) (i := 4) (len := 2) [] (0, 10, 13, 25) [(0, 10, 17, 19)] rfl (fun y hy => by cases hy) ⟨0, 10, 13, 25⟩ rfl (by decide) (by decide) cl_L_25 (by decide) rfl (by decide) (Or.inl ⟨dL_ram_13, rfl⟩) ?_
      refine aw_iconst dL_ram_15 (by decide) ?_
      refine aw_iret dL_ram_16 rfl ?_
      exact q2
    · refine ax_cat (E := xA) (i := 4) (len := 2) [(0, 10, 13, 25)] (0, 10, 17, 19) [] rfl (fun y hy => by cases List.mem_singleton.mp hy; exact ⟨by decide, _, cl_L_25, by decide, by decide⟩) ⟨0, 10, 17, 19⟩ rfl (by decide) (by decide) cl_L_19 (by decide) rfl (by decide) (Or.inl ⟨dL_ram_17, rfl⟩) ?_
      refine aw_iconst dL_ram_19 (by decide) ?_
      refine aw_iret dL_ram_20 rfl ?_
      exact q2
theorem wL_sealOf {p0 p1 : Int} {h : AH} {K : AO → Nat → AH → Prop} (k : ∀ K' : AO → Nat → AH → Prop, (∀ o n h1, WK (fun _ => True) [(xI, 1)] K 0 o n h1 → K' o n h1) → AC mX8_sealOf 7 1 6 159 [(2, 0), (0, p0), (0, p1)] h K') : AC mL_sealOf 8 1 6 159 [(2, 0), (0, p0), (0, p1), (2, 157)] h K := by
  refine ac_ofX (ls := [(2, 0), (0, p0), (0, p1), (2, 157), (9, 0)]) pn_L9 (fun q => by cases q) (Nat.le_of_ble_eq_true rfl) rfl ?_
  refine a_al3 (by decide) dL_sealOf_0 ?_
  refine aw_iconst dL_sealOf_1 (by decide) ?_
  refine a_al0 (by decide) dL_sealOf_2 ?_
  refine a_il1 dL_sealOf_3 ?_
  refine a_il2 dL_sealOf_4 ?_
  refine aw_callV 7 1 6 dL_sealOf_5 yw_X8_sealOf ml_L_49 in_X8_sealOf se_X8_sealOf (ci := 7) rfl at_0 (as := [_, _]) rfl rfl ⟨by decide, by decide, by decide, Nat.le_of_ble_eq_true rfl⟩ ?_
  refine k _ (fun o n h1 q => ?_)
  obtain ⟨rfl, q⟩ := q
  rcases o with r | E
  · rcases r with _ | ⟨t, x⟩
    · exact q.elim
    · obtain ⟨q1, q2, q3⟩ := q
      dsimp only at q1 q2 q3
      subst q1
      show AW mL_sealOf 8 (1 - 1) (6 - 6) K 159 8 [(2, 0), (0, p0), (0, p1), (2, 157), (9, 0)] ((0, x) :: [(0, 0), (2, 157)]) h1
      refine aw_i2l dL_sealOf_8 ?_
      refine aw_last dL_sealOf_9 ar_157 (by omega) ?_
      refine aw_goto 17 dL_sealOf_10 (by decide) ?_
      refine aw_iconst dL_sealOf_17 (by decide) ?_
      refine aw_iret dL_sealOf_18 rfl ?_
      exact q3
  · obtain ⟨kk, q1, q2⟩ := q
    have q4 : (E = xI ∧ kk = 1) := by
      simpa using q1
    rcases q4 with ⟨rfl, rfl⟩
    · refine ax_cat (E := xI) (i := 4) (len := 2) [] (0, 10, 13, 25) [] rfl (fun y hy => by cases hy) ⟨0, 10, 13, 25⟩ rfl (by decide) (by decide) cl_L_25 (by decide) rfl (by decide) (Or.inl ⟨dL_sealOf_13, rfl⟩) ?_
      refine aw_iconst dL_sealOf_15 (by decide) ?_
      refine aw_iret dL_sealOf_16 rfl ?_
      exact q2
theorem wL_check {p0 p1 p2 : Int} {h : AH} {K : AO → Nat → AH → Prop} (k : ∀ K' : AO → Nat → AH → Prop, (∀ o n h1, WK (fun x => x = 0 ∨ x = 1) [(xI, 1)] K 0 o n h1 → K' o n h1) → AC mX8_check 7 2 12 159 [(2, 0), (0, p0), (0, p1), (0, p2)] h K') : AC mL_check 8 2 12 159 [(2, 0), (0, p0), (0, p1), (0, p2), (2, 157)] h K := by
  refine ac_ofX (ls := [(2, 0), (0, p0), (0, p1), (0, p2), (2, 157), (9, 0)]) pn_L9 (fun q => by cases q) (Nat.le_of_ble_eq_true rfl) rfl ?_
  refine a_al4 (by decide) dL_check_0 ?_
  refine aw_iconst dL_check_2 (by decide) ?_
  refine a_al0 (by decide) dL_check_3 ?_
  refine a_il1 dL_check_4 ?_
  refine a_il2 dL_check_5 ?_
  refine a_il3 dL_check_6 ?_
  refine aw_callV 7 2 12 dL_check_7 yw_X8_check ml_L_52 in_X8_check se_X8_check (ci := 7) rfl at_0 (as := [_, _, _]) rfl rfl ⟨by decide, by decide, by decide, Nat.le_of_ble_eq_true rfl⟩ ?_
  refine k _ (fun o n h1 q => ?_)
  obtain ⟨rfl, q⟩ := q
  rcases o with r | E
  · rcases r with _ | ⟨t, x⟩
    · exact q.elim
    · obtain ⟨q1, q2, q3⟩ := q
      dsimp only at q1 q2 q3
      subst q1
      show AW mL_check 8 (2 - 2) (12 - 12) K 159 10 [(2, 0), (0, p0), (0, p1), (0, p2), (2, 157), (9, 0)] ((0, x) :: [(0, 0), (2, 157)]) h1
      refine aw_if_eq 17 dL_check_10 (by decide) (fun c10 => ?_) (fun c10 => ?_)
      · have e : x = 0 := by omega
        rw [e] at q3
        refine aw_lconst (x := 0) dL_check_17 (by decide) ?_
        refine aw_last dL_check_18 ar_157 (by omega) ?_
        refine aw_goto 26 dL_check_19 (by decide) ?_
        refine aw_iconst dL_check_26 (by decide) ?_
        refine aw_iret dL_check_27 rfl ?_
        exact q3
      · have e : x = 1 := by omega
        rw [e] at q3
        refine aw_lconst (x := 1) dL_check_13 (by decide) ?_
        refine aw_goto 18 dL_check_14 (by decide) ?_
        refine aw_last dL_check_18 ar_157 (by omega) ?_
        refine aw_goto 26 dL_check_19 (by decide) ?_
        refine aw_iconst dL_check_26 (by decide) ?_
        refine aw_iret dL_check_27 rfl ?_
        exact q3
  · obtain ⟨kk, q1, q2⟩ := q
    have q4 : (E = xI ∧ kk = 1) := by
      simpa using q1
    rcases q4 with ⟨rfl, rfl⟩
    · refine ax_cat (E := xI) (i := 5) (len := 2) [] (0, 19, 22, 25) [] rfl (fun y hy => by cases hy) ⟨0, 19, 22, 25⟩ rfl (by decide) (by decide) cl_L_25 (by decide) rfl (by decide) (Or.inl ⟨dL_check_22, rfl⟩) ?_
      refine aw_iconst dL_check_24 (by decide) ?_
      refine aw_iret dL_check_25 rfl ?_
      exact q2
theorem wL_logged {p0 p1 p2 : Int} {h : AH} {K : AO → Nat → AH → Prop} (k : ∀ K' : AO → Nat → AH → Prop, (∀ o n h1, WK (fun _ => True) [(xI, 1)] K 0 o n h1 → K' o n h1) → AC mX8_logged 7 3 18 159 [(2, 0), (0, p0), (0, p1), (0, p2)] h K') : AC mL_logged 8 3 18 159 [(2, 0), (0, p0), (0, p1), (0, p2), (2, 157)] h K := by
  refine ac_ofX (ls := [(2, 0), (0, p0), (0, p1), (0, p2), (2, 157), (9, 0)]) pn_L9 (fun q => by cases q) (Nat.le_of_ble_eq_true rfl) rfl ?_
  refine a_al4 (by decide) dL_logged_0 ?_
  refine aw_iconst dL_logged_2 (by decide) ?_
  refine a_al0 (by decide) dL_logged_3 ?_
  refine a_il1 dL_logged_4 ?_
  refine a_il2 dL_logged_5 ?_
  refine a_il3 dL_logged_6 ?_
  refine aw_callV 7 3 18 dL_logged_7 yw_X8_logged ml_L_56 in_X8_logged se_X8_logged (ci := 7) rfl at_0 (as := [_, _, _]) rfl rfl ⟨by decide, by decide, by decide, Nat.le_of_ble_eq_true rfl⟩ ?_
  refine k _ (fun o n h1 q => ?_)
  obtain ⟨rfl, q⟩ := q
  rcases o with r | E
  · rcases r with _ | ⟨t, x⟩
    · exact q.elim
    · obtain ⟨q1, q2, q3⟩ := q
      dsimp only at q1 q2 q3
      subst q1
      show AW mL_logged 8 (3 - 3) (18 - 18) K 159 10 [(2, 0), (0, p0), (0, p1), (0, p2), (2, 157), (9, 0)] ((0, x) :: [(0, 0), (2, 157)]) h1
      refine aw_i2l dL_logged_10 ?_
      refine aw_last dL_logged_11 ar_157 (by omega) ?_
      refine aw_goto 19 dL_logged_12 (by decide) ?_
      refine aw_iconst dL_logged_19 (by decide) ?_
      refine aw_iret dL_logged_20 rfl ?_
      exact q3
  · obtain ⟨kk, q1, q2⟩ := q
    have q4 : (E = xI ∧ kk = 1) := by
      simpa using q1
    rcases q4 with ⟨rfl, rfl⟩
    · refine ax_cat (E := xI) (i := 5) (len := 2) [] (0, 12, 15, 25) [] rfl (fun y hy => by cases hy) ⟨0, 12, 15, 25⟩ rfl (by decide) (by decide) cl_L_25 (by decide) rfl (by decide) (Or.inl ⟨dL_logged_15, rfl⟩) ?_
      refine aw_iconst dL_logged_17 (by decide) ?_
      refine aw_iret dL_logged_18 rfl ?_
      exact q2
theorem wL_after {p0 p1 : Int} {h : AH} {K : AO → Nat → AH → Prop} (k : ∀ K' : AO → Nat → AH → Prop, (∀ o n h1, WK (fun _ => True) [(xI, 1), (xA, 2)] K 0 o n h1 → K' o n h1) → AC mX8_after 7 2 12 159 [(2, 0), (0, p0), (0, p1)] h K') : AC mL_after 8 2 12 159 [(2, 0), (0, p0), (0, p1), (2, 157)] h K := by
  refine ac_ofX (ls := [(2, 0), (0, p0), (0, p1), (2, 157), (9, 0)]) pn_L9 (fun q => by cases q) (Nat.le_of_ble_eq_true rfl) rfl ?_
  refine a_al3 (by decide) dL_after_0 ?_
  refine aw_iconst dL_after_1 (by decide) ?_
  refine a_al0 (by decide) dL_after_2 ?_
  refine a_il1 dL_after_3 ?_
  refine a_il2 dL_after_4 ?_
  refine aw_callV 7 2 12 dL_after_5 yw_X8_after ml_L_60 in_X8_after se_X8_after (ci := 7) rfl at_0 (as := [_, _]) rfl rfl ⟨by decide, by decide, by decide, Nat.le_of_ble_eq_true rfl⟩ ?_
  refine k _ (fun o n h1 q => ?_)
  obtain ⟨rfl, q⟩ := q
  rcases o with r | E
  · rcases r with _ | ⟨t, x⟩
    · exact q.elim
    · obtain ⟨q1, q2, q3⟩ := q
      dsimp only at q1 q2 q3
      subst q1
      show AW mL_after 8 (2 - 2) (12 - 12) K 159 8 [(2, 0), (0, p0), (0, p1), (2, 157), (9, 0)] ((0, x) :: [(0, 0), (2, 157)]) h1
      refine aw_i2l dL_after_8 ?_
      refine aw_last dL_after_9 ar_157 (by omega) ?_
      refine aw_goto 21 dL_after_10 (by decide) ?_
      refine aw_iconst dL_after_21 (by decide) ?_
      refine aw_iret dL_after_22 rfl ?_
      exact q3
  · obtain ⟨kk, q1, q2⟩ := q
    have q4 : (E = xI ∧ kk = 1) ∨ (E = xA ∧ kk = 2) := by
      simpa using q1
    rcases q4 with ⟨rfl, rfl⟩ | ⟨rfl, rfl⟩
    · refine ax_cat (E := xI) (i := 4) (len := 2) [] (0, 10, 13, 25) [(0, 10, 17, 19)] rfl (fun y hy => by cases hy) ⟨0, 10, 13, 25⟩ rfl (by decide) (by decide) cl_L_25 (by decide) rfl (by decide) (Or.inl ⟨dL_after_13, rfl⟩) ?_
      refine aw_iconst dL_after_15 (by decide) ?_
      refine aw_iret dL_after_16 rfl ?_
      exact q2
    · refine ax_cat (E := xA) (i := 4) (len := 2) [(0, 10, 13, 25)] (0, 10, 17, 19) [] rfl (fun y hy => by cases List.mem_singleton.mp hy; exact ⟨by decide, _, cl_L_25, by decide, by decide⟩) ⟨0, 10, 17, 19⟩ rfl (by decide) (by decide) cl_L_19 (by decide) rfl (by decide) (Or.inl ⟨dL_after_17, rfl⟩) ?_
      refine aw_iconst dL_after_19 (by decide) ?_
      refine aw_iret dL_after_20 rfl ?_
      exact q2
theorem wL_course {p0 p1 : Int} {h : AH} {K : AO → Nat → AH → Prop} (k : ∀ K' : AO → Nat → AH → Prop, (∀ o n h1, WK (fun _ => True) [(xI, 1), (xA, 2)] K 0 o n h1 → K' o n h1) → AC mX8_course 7 2 12 159 [(2, 0), (0, p0), (0, p1)] h K') : AC mL_course 8 2 12 159 [(2, 0), (0, p0), (0, p1), (2, 157)] h K := by
  refine ac_ofX (ls := [(2, 0), (0, p0), (0, p1), (2, 157), (9, 0)]) pn_L9 (fun q => by cases q) (Nat.le_of_ble_eq_true rfl) rfl ?_
  refine a_al3 (by decide) dL_course_0 ?_
  refine aw_iconst dL_course_1 (by decide) ?_
  refine a_al0 (by decide) dL_course_2 ?_
  refine a_il1 dL_course_3 ?_
  refine a_il2 dL_course_4 ?_
  refine aw_callV 7 2 12 dL_course_5 yw_X8_course ml_L_63 in_X8_course se_X8_course (ci := 7) rfl at_0 (as := [_, _]) rfl rfl ⟨by decide, by decide, by decide, Nat.le_of_ble_eq_true rfl⟩ ?_
  refine k _ (fun o n h1 q => ?_)
  obtain ⟨rfl, q⟩ := q
  rcases o with r | E
  · rcases r with _ | ⟨t, x⟩
    · exact q.elim
    · obtain ⟨q1, q2, q3⟩ := q
      dsimp only at q1 q2 q3
      subst q1
      show AW mL_course 8 (2 - 2) (12 - 12) K 159 8 [(2, 0), (0, p0), (0, p1), (2, 157), (9, 0)] ((0, x) :: [(0, 0), (2, 157)]) h1
      refine aw_i2l dL_course_8 ?_
      refine aw_last dL_course_9 ar_157 (by omega) ?_
      refine aw_goto 21 dL_course_10 (by decide) ?_
      refine aw_iconst dL_course_21 (by decide) ?_
      refine aw_iret dL_course_22 rfl ?_
      exact q3
  · obtain ⟨kk, q1, q2⟩ := q
    have q4 : (E = xI ∧ kk = 1) ∨ (E = xA ∧ kk = 2) := by
      simpa using q1
    rcases q4 with ⟨rfl, rfl⟩ | ⟨rfl, rfl⟩
    · refine ax_cat (E := xI) (i := 4) (len := 2) [] (0, 10, 13, 25) [(0, 10, 17, 19)] rfl (fun y hy => by cases hy) ⟨0, 10, 13, 25⟩ rfl (by decide) (by decide) cl_L_25 (by decide) rfl (by decide) (Or.inl ⟨dL_course_13, rfl⟩) ?_
      refine aw_iconst dL_course_15 (by decide) ?_
      refine aw_iret dL_course_16 rfl ?_
      exact q2
    · refine ax_cat (E := xA) (i := 4) (len := 2) [(0, 10, 13, 25)] (0, 10, 17, 19) [] rfl (fun y hy => by cases List.mem_singleton.mp hy; exact ⟨by decide, _, cl_L_25, by decide, by decide⟩) ⟨0, 10, 17, 19⟩ rfl (by decide) (by decide) cl_L_19 (by decide) rfl (by decide) (Or.inl ⟨dL_course_17, rfl⟩) ?_
      refine aw_iconst dL_course_19 (by decide) ?_
      refine aw_iret dL_course_20 rfl ?_
      exact q2
theorem wL_meet {p0 p1 : Int} {h : AH} {K : AO → Nat → AH → Prop} (k : ∀ K' : AO → Nat → AH → Prop, (∀ o n h1, WK (fun _ => True) [(xI, 1)] K 0 o n h1 → K' o n h1) → AC mX8_meet 7 2 12 159 [(2, 0), (0, p0), (0, p1)] h K') : AC mL_meet 8 2 12 159 [(2, 0), (0, p0), (0, p1), (2, 157)] h K := by
  refine ac_ofX (ls := [(2, 0), (0, p0), (0, p1), (2, 157), (9, 0)]) pn_L9 (fun q => by cases q) (Nat.le_of_ble_eq_true rfl) rfl ?_
  refine a_al3 (by decide) dL_meet_0 ?_
  refine aw_iconst dL_meet_1 (by decide) ?_
  refine a_al0 (by decide) dL_meet_2 ?_
  refine a_il1 dL_meet_3 ?_
  refine a_il2 dL_meet_4 ?_
  refine aw_callV 7 2 12 dL_meet_5 yw_X8_meet ml_L_66 in_X8_meet se_X8_meet (ci := 7) rfl at_0 (as := [_, _]) rfl rfl ⟨by decide, by decide, by decide, Nat.le_of_ble_eq_true rfl⟩ ?_
  refine k _ (fun o n h1 q => ?_)
  obtain ⟨rfl, q⟩ := q
  rcases o with r | E
  · rcases r with _ | ⟨t, x⟩
    · exact q.elim
    · obtain ⟨q1, q2, q3⟩ := q
      dsimp only at q1 q2 q3
      subst q1
      show AW mL_meet 8 (2 - 2) (12 - 12) K 159 8 [(2, 0), (0, p0), (0, p1), (2, 157), (9, 0)] ((0, x) :: [(0, 0), (2, 157)]) h1
      refine aw_i2l dL_meet_8 ?_
      refine aw_last dL_meet_9 ar_157 (by omega) ?_
      refine aw_goto 17 dL_meet_10 (by decide) ?_
      refine aw_iconst dL_meet_17 (by decide) ?_
      refine aw_iret dL_meet_18 rfl ?_
      exact q3
  · obtain ⟨kk, q1, q2⟩ := q
    have q4 : (E = xI ∧ kk = 1) := by
      simpa using q1
    rcases q4 with ⟨rfl, rfl⟩
    · refine ax_cat (E := xI) (i := 4) (len := 2) [] (0, 10, 13, 25) [] rfl (fun y hy => by cases hy) ⟨0, 10, 13, 25⟩ rfl (by decide) (by decide) cl_L_25 (by decide) rfl (by decide) (Or.inl ⟨dL_meet_13, rfl⟩) ?_
      refine aw_iconst dL_meet_15 (by decide) ?_
      refine aw_iret dL_meet_16 rfl ?_
      exact q2
theorem wL_spares {p0 p1 : Int} {h : AH} {K : AO → Nat → AH → Prop} (k : ∀ K' : AO → Nat → AH → Prop, (∀ o n h1, WK (fun _ => True) [(xI, 1)] K 0 o n h1 → K' o n h1) → AC mX8_spares 7 2 12 159 [(2, 0), (0, p0), (0, p1)] h K') : AC mL_spares 8 2 12 159 [(2, 0), (0, p0), (0, p1), (2, 157)] h K := by
  refine ac_ofX (ls := [(2, 0), (0, p0), (0, p1), (2, 157), (9, 0)]) pn_L9 (fun q => by cases q) (Nat.le_of_ble_eq_true rfl) rfl ?_
  refine a_al3 (by decide) dL_spares_0 ?_
  refine aw_iconst dL_spares_1 (by decide) ?_
  refine a_al0 (by decide) dL_spares_2 ?_
  refine a_il1 dL_spares_3 ?_
  refine a_il2 dL_spares_4 ?_
  refine aw_callV 7 2 12 dL_spares_5 yw_X8_spares ml_L_69 in_X8_spares se_X8_spares (ci := 7) rfl at_0 (as := [_, _]) rfl rfl ⟨by decide, by decide, by decide, Nat.le_of_ble_eq_true rfl⟩ ?_
  refine k _ (fun o n h1 q => ?_)
  obtain ⟨rfl, q⟩ := q
  rcases o with r | E
  · rcases r with _ | ⟨t, x⟩
    · exact q.elim
    · obtain ⟨q1, q2, q3⟩ := q
      dsimp only at q1 q2 q3
      subst q1
      show AW mL_spares 8 (2 - 2) (12 - 12) K 159 8 [(2, 0), (0, p0), (0, p1), (2, 157), (9, 0)] ((0, x) :: [(0, 0), (2, 157)]) h1
      refine aw_i2l dL_spares_8 ?_
      refine aw_last dL_spares_9 ar_157 (by omega) ?_
      refine aw_goto 17 dL_spares_10 (by decide) ?_
      refine aw_iconst dL_spares_17 (by decide) ?_
      refine aw_iret dL_spares_18 rfl ?_
      exact q3
  · obtain ⟨kk, q1, q2⟩ := q
    have q4 : (E = xI ∧ kk = 1) := by
      simpa using q1
    rcases q4 with ⟨rfl, rfl⟩
    · refine ax_cat (E := xI) (i := 4) (len := 2) [] (0, 10, 13, 25) [] rfl (fun y hy => by cases hy) ⟨0, 10, 13, 25⟩ rfl (by decide) (by decide) cl_L_25 (by decide) rfl (by decide) (Or.inl ⟨dL_spares_13, rfl⟩) ?_
      refine aw_iconst dL_spares_15 (by decide) ?_
      refine aw_iret dL_spares_16 rfl ?_
      exact q2
theorem wL_bestWind {p0 : Int} {h : AH} {K : AO → Nat → AH → Prop} (k : ∀ K' : AO → Nat → AH → Prop, (∀ o n h1, WK (fun _ => True) [(xI, 1)] K 0 o n h1 → K' o n h1) → AC mX8_bestWind 7 1 6 159 [(2, 0), (0, p0)] h K') : AC mL_bestWind 8 1 6 159 [(2, 0), (0, p0), (2, 157)] h K := by
  refine ac_ofX (ls := [(2, 0), (0, p0), (2, 157), (9, 0)]) pn_L9 (fun q => by cases q) (Nat.le_of_ble_eq_true rfl) rfl ?_
  refine a_al2 (by decide) dL_bestWind_0 ?_
  refine aw_iconst dL_bestWind_1 (by decide) ?_
  refine a_al0 (by decide) dL_bestWind_2 ?_
  refine a_il1 dL_bestWind_3 ?_
  refine aw_callV 7 1 6 dL_bestWind_4 yw_X8_bestWind ml_L_72 in_X8_bestWind se_X8_bestWind (ci := 7) rfl at_0 (as := [_]) rfl rfl ⟨by decide, by decide, by decide, Nat.le_of_ble_eq_true rfl⟩ ?_
  refine k _ (fun o n h1 q => ?_)
  obtain ⟨rfl, q⟩ := q
  rcases o with r | E
  · rcases r with _ | ⟨t, x⟩
    · exact q.elim
    · obtain ⟨q1, q2, q3⟩ := q
      dsimp only at q1 q2 q3
      subst q1
      show AW mL_bestWind 8 (1 - 1) (6 - 6) K 159 7 [(2, 0), (0, p0), (2, 157), (9, 0)] ((0, x) :: [(0, 0), (2, 157)]) h1
      refine aw_i2l dL_bestWind_7 ?_
      refine aw_last dL_bestWind_8 ar_157 (by omega) ?_
      refine aw_goto 15 dL_bestWind_9 (by decide) ?_
      refine aw_iconst dL_bestWind_15 (by decide) ?_
      refine aw_iret dL_bestWind_16 rfl ?_
      exact q3
  · obtain ⟨kk, q1, q2⟩ := q
    have q4 : (E = xI ∧ kk = 1) := by
      simpa using q1
    rcases q4 with ⟨rfl, rfl⟩
    · refine ax_cat (E := xI) (i := 3) (len := 1) [] (0, 9, 12, 25) [] rfl (fun y hy => by cases hy) ⟨0, 9, 12, 25⟩ rfl (by decide) (by decide) cl_L_25 (by decide) rfl (by decide) (Or.inr ⟨3, rfl, dL_bestWind_12, rfl⟩) ?_
      refine aw_iconst dL_bestWind_13 (by decide) ?_
      refine aw_iret dL_bestWind_14 rfl ?_
      exact q2
theorem wL_pace {p0 : Int} {h : AH} {K : AO → Nat → AH → Prop} (k : ∀ K' : AO → Nat → AH → Prop, (∀ o n h1, WD [(xI, 1)] K o n h1 → K' o n h1) → AC mX8_pace 7 1 6 159 [(2, 0), (0, p0)] h K') : AC mL_pace 8 1 6 159 [(2, 0), (0, p0), (2, 158)] h K := by
  refine ac_ofX (ls := [(2, 0), (0, p0), (2, 158), (9, 0)]) pn_L9 (fun q => by cases q) (Nat.le_of_ble_eq_true rfl) rfl ?_
  refine a_al2 (by decide) dL_pace_0 ?_
  refine aw_iconst dL_pace_1 (by decide) ?_
  refine a_al0 (by decide) dL_pace_2 ?_
  refine a_il1 dL_pace_3 ?_
  refine aw_callV 7 1 6 dL_pace_4 yw_X8_pace ml_L_75 in_X8_pace se_X8_pace (ci := 7) rfl at_0 (as := [_]) rfl rfl ⟨by decide, by decide, by decide, Nat.le_of_ble_eq_true rfl⟩ ?_
  refine k _ (fun o n h1 q => ?_)
  obtain ⟨rfl, q⟩ := q
  rcases o with r | E
  · rcases r with _ | ⟨t, x⟩
    · exact q.elim
    · obtain ⟨q1, q2, q3⟩ := q
      dsimp only at q1 q2 q3
      subst q1
      show AW mL_pace 8 (1 - 1) (6 - 6) K 159 7 [(2, 0), (0, p0), (2, 158), (9, 0)] ((3, x) :: [(0, 0), (2, 158)]) h1
      refine aw_f2d dL_pace_7 q2 ?_
      refine aw_dast dL_pace_8 ar_158 (by omega) ?_
      refine aw_goto 15 dL_pace_9 (by decide) ?_
      refine aw_iconst dL_pace_15 (by decide) ?_
      refine aw_iret dL_pace_16 rfl ?_
      exact q3
  · obtain ⟨kk, q1, q2⟩ := q
    have q4 : (E = xI ∧ kk = 1) := by
      simpa using q1
    rcases q4 with ⟨rfl, rfl⟩
    · refine ax_cat (E := xI) (i := 3) (len := 1) [] (0, 9, 12, 25) [] rfl (fun y hy => by cases hy) ⟨0, 9, 12, 25⟩ rfl (by decide) (by decide) cl_L_25 (by decide) rfl (by decide) (Or.inr ⟨3, rfl, dL_pace_12, rfl⟩) ?_
      refine aw_iconst dL_pace_13 (by decide) ?_
      refine aw_iret dL_pace_14 rfl ?_
      exact q2
theorem wL_write {p0 : Int} {h : AH} {K : AO → Nat → AH → Prop} (k : ∀ K' : AO → Nat → AH → Prop, (∀ o n h1, WK (fun _ => True) [(xI, 1), (xS, 2)] K 0 o n h1 → K' o n h1) → AC mX8_write 7 2 12 159 [(2, 0), (0, p0)] h K') : AC mL_write 8 2 12 159 [(2, 0), (0, p0), (2, 157)] h K := by
  refine ac_ofX (ls := [(2, 0), (0, p0), (2, 157), (9, 0)]) pn_L9 (fun q => by cases q) (Nat.le_of_ble_eq_true rfl) rfl ?_
  refine a_al2 (by decide) dL_write_0 ?_
  refine aw_iconst dL_write_1 (by decide) ?_
  refine a_al0 (by decide) dL_write_2 ?_
  refine a_il1 dL_write_3 ?_
  refine aw_callV 7 2 12 dL_write_4 yw_X8_write ml_L_79 in_X8_write se_X8_write (ci := 7) rfl at_0 (as := [_]) rfl rfl ⟨by decide, by decide, by decide, Nat.le_of_ble_eq_true rfl⟩ ?_
  refine k _ (fun o n h1 q => ?_)
  obtain ⟨rfl, q⟩ := q
  rcases o with r | E
  · rcases r with _ | ⟨t, x⟩
    · exact q.elim
    · obtain ⟨q1, q2, q3⟩ := q
      dsimp only at q1 q2 q3
      subst q1
      show AW mL_write 8 (2 - 2) (12 - 12) K 159 7 [(2, 0), (0, p0), (2, 157), (9, 0)] ((0, x) :: [(0, 0), (2, 157)]) h1
      refine aw_i2l dL_write_7 ?_
      refine aw_last dL_write_8 ar_157 (by omega) ?_
      refine aw_goto 18 dL_write_9 (by decide) ?_
      refine aw_iconst dL_write_18 (by decide) ?_
      refine aw_iret dL_write_19 rfl ?_
      exact q3
  · obtain ⟨kk, q1, q2⟩ := q
    have q4 : (E = xI ∧ kk = 1) ∨ (E = xS ∧ kk = 2) := by
      simpa using q1
    rcases q4 with ⟨rfl, rfl⟩ | ⟨rfl, rfl⟩
    · refine ax_cat (E := xI) (i := 3) (len := 1) [] (0, 9, 12, 25) [(0, 9, 15, 13)] rfl (fun y hy => by cases hy) ⟨0, 9, 12, 25⟩ rfl (by decide) (by decide) cl_L_25 (by decide) rfl (by decide) (Or.inr ⟨3, rfl, dL_write_12, rfl⟩) ?_
      refine aw_iconst dL_write_13 (by decide) ?_
      refine aw_iret dL_write_14 rfl ?_
      exact q2
    · refine ax_cat (E := xS) (i := 3) (len := 1) [(0, 9, 12, 25)] (0, 9, 15, 13) [] rfl (fun y hy => by cases List.mem_singleton.mp hy; exact ⟨by decide, _, cl_L_25, by decide, by decide⟩) ⟨0, 9, 15, 13⟩ rfl (by decide) (by decide) cl_L_13 (by decide) rfl (by decide) (Or.inr ⟨3, rfl, dL_write_15, rfl⟩) ?_
      refine aw_iconst dL_write_16 (by decide) ?_
      refine aw_iret dL_write_17 rfl ?_
      exact q2
theorem wL_seal {p0 p1 : Int} {h : AH} {K : AO → Nat → AH → Prop} (k : ∀ K' : AO → Nat → AH → Prop, (∀ o n h1, WK (fun _ => True) [(xI, 1), (xA, 2), (xS, 3)] K 0 o n h1 → K' o n h1) → AC mX8_seal 7 2 12 159 [(2, 0), (0, p0), (0, p1)] h K') : AC mL_seal 8 2 12 159 [(2, 0), (0, p0), (0, p1), (2, 157)] h K := by
  refine ac_ofX (ls := [(2, 0), (0, p0), (0, p1), (2, 157), (9, 0)]) pn_L9 (fun q => by cases q) (Nat.le_of_ble_eq_true rfl) rfl ?_
  refine a_al3 (by decide) dL_seal_0 ?_
  refine aw_iconst dL_seal_1 (by decide) ?_
  refine a_al0 (by decide) dL_seal_2 ?_
  refine a_il1 dL_seal_3 ?_
  refine a_il2 dL_seal_4 ?_
  refine aw_callV 7 2 12 dL_seal_5 yw_X8_seal ml_L_82 in_X8_seal se_X8_seal (ci := 7) rfl at_0 (as := [_, _]) rfl rfl ⟨by decide, by decide, by decide, Nat.le_of_ble_eq_true rfl⟩ ?_
  refine k _ (fun o n h1 q => ?_)
  obtain ⟨rfl, q⟩ := q
  rcases o with r | E
  · rcases r with _ | ⟨t, x⟩
    · exact q.elim
    · obtain ⟨q1, q2, q3⟩ := q
      dsimp only at q1 q2 q3
      subst q1
      show AW mL_seal 8 (2 - 2) (12 - 12) K 159 8 [(2, 0), (0, p0), (0, p1), (2, 157), (9, 0)] ((0, x) :: [(0, 0), (2, 157)]) h1
      refine aw_i2l dL_seal_8 ?_
      refine aw_last dL_seal_9 ar_157 (by omega) ?_
      refine aw_goto 25 dL_seal_10 (by decide) ?_
      refine aw_iconst dL_seal_25 (by decide) ?_
      refine aw_iret dL_seal_26 rfl ?_
      exact q3
  · obtain ⟨kk, q1, q2⟩ := q
    have q4 : (E = xI ∧ kk = 1) ∨ (E = xA ∧ kk = 2) ∨ (E = xS ∧ kk = 3) := by
      simpa using q1
    rcases q4 with ⟨rfl, rfl⟩ | ⟨rfl, rfl⟩ | ⟨rfl, rfl⟩
    · refine ax_cat (E := xI) (i := 4) (len := 2) [] (0, 10, 13, 25) [(0, 10, 17, 19), (0, 10, 21, 13)] rfl (fun y hy => by cases hy) ⟨0, 10, 13, 25⟩ rfl (by decide) (by decide) cl_L_25 (by decide) rfl (by decide) (Or.inl ⟨dL_seal_13, rfl⟩) ?_
      refine aw_iconst dL_seal_15 (by decide) ?_
      refine aw_iret dL_seal_16 rfl ?_
      exact q2
    · refine ax_cat (E := xA) (i := 4) (len := 2) [(0, 10, 13, 25)] (0, 10, 17, 19) [(0, 10, 21, 13)] rfl (fun y hy => by cases List.mem_singleton.mp hy; exact ⟨by decide, _, cl_L_25, by decide, by decide⟩) ⟨0, 10, 17, 19⟩ rfl (by decide) (by decide) cl_L_19 (by decide) rfl (by decide) (Or.inl ⟨dL_seal_17, rfl⟩) ?_
      refine aw_iconst dL_seal_19 (by decide) ?_
      refine aw_iret dL_seal_20 rfl ?_
      exact q2
    · refine ax_cat (E := xS) (i := 4) (len := 2) [(0, 10, 13, 25), (0, 10, 17, 19)] (0, 10, 21, 13) [] rfl (fun y hy => by rcases List.mem_cons.mp hy with e | hy; (subst e; exact ⟨by decide, _, cl_L_25, by decide, by decide⟩); cases List.mem_singleton.mp hy; exact ⟨by decide, _, cl_L_19, by decide, by decide⟩) ⟨0, 10, 21, 13⟩ rfl (by decide) (by decide) cl_L_13 (by decide) rfl (by decide) (Or.inl ⟨dL_seal_21, rfl⟩) ?_
      refine aw_iconst dL_seal_23 (by decide) ?_
      refine aw_iret dL_seal_24 rfl ?_
      exact q2
theorem wL_run {h : AH} {K : AO → Nat → AH → Prop} (k : ∀ K' : AO → Nat → AH → Prop, (∀ o n h1, WK (fun _ => True) [(xS, 1)] K 0 o n h1 → K' o n h1) → AC mX8_run 7 2 12 159 [(2, 0)] h K') : AC mL_run 8 2 12 159 [(2, 0), (2, 157)] h K := by
  refine ac_ofX (ls := [(2, 0), (2, 157), (9, 0)]) pn_L9 (fun q => by cases q) (Nat.le_of_ble_eq_true rfl) rfl ?_
  refine a_al1 (by decide) dL_run_0 ?_
  refine aw_iconst dL_run_1 (by decide) ?_
  refine a_al0 (by decide) dL_run_2 ?_
  refine aw_callV 7 2 12 dL_run_3 yw_X8_run ml_L_85 in_X8_run se_X8_run (ci := 7) rfl at_0 (as := []) rfl rfl ⟨by decide, by decide, by decide, Nat.le_of_ble_eq_true rfl⟩ ?_
  refine k _ (fun o n h1 q => ?_)
  obtain ⟨rfl, q⟩ := q
  rcases o with r | E
  · rcases r with _ | ⟨t, x⟩
    · exact q.elim
    · obtain ⟨q1, q2, q3⟩ := q
      dsimp only at q1 q2 q3
      subst q1
      show AW mL_run 8 (2 - 2) (12 - 12) K 159 6 [(2, 0), (2, 157), (9, 0)] ((0, x) :: [(0, 0), (2, 157)]) h1
      refine aw_i2l dL_run_6 ?_
      refine aw_last dL_run_7 ar_157 (by omega) ?_
      refine aw_goto 14 dL_run_8 (by decide) ?_
      refine aw_iconst dL_run_14 (by decide) ?_
      refine aw_iret dL_run_15 rfl ?_
      exact q3
  · obtain ⟨kk, q1, q2⟩ := q
    have q4 : (E = xS ∧ kk = 1) := by
      simpa using q1
    rcases q4 with ⟨rfl, rfl⟩
    · refine ax_cat (E := xS) (i := 2) (len := 1) [] (0, 8, 11, 13) [] rfl (fun y hy => by cases hy) ⟨0, 8, 11, 13⟩ rfl (by decide) (by decide) cl_L_13 (by decide) rfl (by decide) (Or.inr ⟨2, rfl, dL_run_11, rfl⟩) ?_
      refine aw_iconst dL_run_12 (by decide) ?_
      refine aw_iret dL_run_13 rfl ?_
      exact q2
theorem wL_setWind {p0 p1 : Int} {h : AH} {K : AO → Nat → AH → Prop} (k : ∀ K' : AO → Nat → AH → Prop, (∀ o n h1, WK (fun _ => True) [(xA, 1)] K 0 o n h1 → K' o n h1) → AC mX8_setWind 6 1 6 159 [(2, 0), (0, p0), (0, p1)] h K') : AC mL_setWind 7 1 6 159 [(2, 0), (0, p0), (0, p1), (2, 157)] h K := by
  refine ac_ofX (ls := [(2, 0), (0, p0), (0, p1), (2, 157), (9, 0)]) pn_L9 (fun q => by cases q) (Nat.le_of_ble_eq_true rfl) rfl ?_
  refine a_al3 (by decide) dL_setWind_0 ?_
  refine aw_iconst dL_setWind_1 (by decide) ?_
  refine a_al0 (by decide) dL_setWind_2 ?_
  refine a_il1 dL_setWind_3 ?_
  refine a_il2 dL_setWind_4 ?_
  refine aw_callV 6 1 6 dL_setWind_5 yw_X8_setWind ml_L_89 in_X8_setWind se_X8_setWind (ci := 7) rfl at_0 (as := [_, _]) rfl rfl ⟨by decide, by decide, by decide, Nat.le_of_ble_eq_true rfl⟩ ?_
  refine k _ (fun o n h1 q => ?_)
  obtain ⟨rfl, q⟩ := q
  rcases o with r | E
  · rcases r with _ | ⟨t, x⟩
    · exact q.elim
    · obtain ⟨q1, q2, q3⟩ := q
      dsimp only at q1 q2 q3
      subst q1
      show AW mL_setWind 7 (1 - 1) (6 - 6) K 159 8 [(2, 0), (0, p0), (0, p1), (2, 157), (9, 0)] ((0, x) :: [(0, 0), (2, 157)]) h1
      refine aw_i2l dL_setWind_8 ?_
      refine aw_last dL_setWind_9 ar_157 (by omega) ?_
      refine aw_goto 17 dL_setWind_10 (by decide) ?_
      refine aw_iconst dL_setWind_17 (by decide) ?_
      refine aw_iret dL_setWind_18 rfl ?_
      exact q3
  · obtain ⟨kk, q1, q2⟩ := q
    have q4 : (E = xA ∧ kk = 1) := by
      simpa using q1
    rcases q4 with ⟨rfl, rfl⟩
    · refine ax_cat (E := xA) (i := 4) (len := 2) [] (0, 10, 13, 19) [] rfl (fun y hy => by cases hy) ⟨0, 10, 13, 19⟩ rfl (by decide) (by decide) cl_L_19 (by decide) rfl (by decide) (Or.inl ⟨dL_setWind_13, rfl⟩) ?_
      refine aw_iconst dL_setWind_15 (by decide) ?_
      refine aw_iret dL_setWind_16 rfl ?_
      exact q2
theorem wL_undo {h : AH} {K : AO → Nat → AH → Prop} (k : ∀ K' : AO → Nat → AH → Prop, (∀ o n h1, WK (fun _ => True) [(xS, 1)] K 0 o n h1 → K' o n h1) → AC mX8_undo 6 1 6 159 [(2, 0)] h K') : AC mL_undo 7 1 6 159 [(2, 0), (2, 157)] h K := by
  refine ac_ofX (ls := [(2, 0), (2, 157), (9, 0)]) pn_L9 (fun q => by cases q) (Nat.le_of_ble_eq_true rfl) rfl ?_
  refine a_al1 (by decide) dL_undo_0 ?_
  refine aw_iconst dL_undo_1 (by decide) ?_
  refine a_al0 (by decide) dL_undo_2 ?_
  refine aw_callV 6 1 6 dL_undo_3 yw_X8_undo ml_L_92 in_X8_undo se_X8_undo (ci := 7) rfl at_0 (as := []) rfl rfl ⟨by decide, by decide, by decide, Nat.le_of_ble_eq_true rfl⟩ ?_
  refine k _ (fun o n h1 q => ?_)
  obtain ⟨rfl, q⟩ := q
  rcases o with r | E
  · rcases r with _ | ⟨t, x⟩
    · exact q.elim
    · obtain ⟨q1, q2, q3⟩ := q
      dsimp only at q1 q2 q3
      subst q1
      show AW mL_undo 7 (1 - 1) (6 - 6) K 159 6 [(2, 0), (2, 157), (9, 0)] ((0, x) :: [(0, 0), (2, 157)]) h1
      refine aw_i2l dL_undo_6 ?_
      refine aw_last dL_undo_7 ar_157 (by omega) ?_
      refine aw_goto 14 dL_undo_8 (by decide) ?_
      refine aw_iconst dL_undo_14 (by decide) ?_
      refine aw_iret dL_undo_15 rfl ?_
      exact q3
  · obtain ⟨kk, q1, q2⟩ := q
    have q4 : (E = xS ∧ kk = 1) := by
      simpa using q1
    rcases q4 with ⟨rfl, rfl⟩
    · refine ax_cat (E := xS) (i := 2) (len := 1) [] (0, 8, 11, 13) [] rfl (fun y hy => by cases hy) ⟨0, 8, 11, 13⟩ rfl (by decide) (by decide) cl_L_13 (by decide) rfl (by decide) (Or.inr ⟨2, rfl, dL_undo_11, rfl⟩) ?_
      refine aw_iconst dL_undo_12 (by decide) ?_
      refine aw_iret dL_undo_13 rfl ?_
      exact q2
theorem wL_save {p0 : Int} {h : AH} {K : AO → Nat → AH → Prop} (k : ∀ K' : AO → Nat → AH → Prop, (∀ o n h1, WN [(xI, 1)] K o n h1 → K' o n h1) → AC mX8_save 7 1 6 159 [(2, 0), (0, p0)] h K') : AC mL_save 8 1 6 159 [(2, 0), (0, p0)] h K := by
  refine ac_ofX (ls := [(2, 0), (0, p0), (9, 0)]) pn_L9 (fun q => by cases q) (Nat.le_of_ble_eq_true rfl) rfl ?_
  refine a_al0 (by decide) dL_save_0 ?_
  refine a_il1 dL_save_1 ?_
  refine aw_callV 7 1 6 dL_save_2 yw_X8_save ml_L_95 in_X8_save se_X8_save (ci := 7) rfl at_0 (as := [_]) rfl rfl ⟨by decide, by decide, by decide, Nat.le_of_ble_eq_true rfl⟩ ?_
  refine k _ (fun o n h1 q => ?_)
  obtain ⟨rfl, q⟩ := q
  rcases o with r | E
  · rcases r with _ | ⟨t, x⟩
    · show AW mL_save 8 (1 - 1) (6 - 6) K 159 5 [(2, 0), (0, p0), (9, 0)] [] h1
      refine aw_goto 11 dL_save_5 (by decide) ?_
      refine aw_iconst dL_save_11 (by decide) ?_
      refine aw_iret dL_save_12 rfl ?_
      exact q
    · exact q.elim
  · obtain ⟨kk, q1, q2⟩ := q
    have q4 : (E = xI ∧ kk = 1) := by
      simpa using q1
    rcases q4 with ⟨rfl, rfl⟩
    · refine ax_cat (E := xI) (i := 2) (len := 1) [] (0, 5, 8, 25) [] rfl (fun y hy => by cases hy) ⟨0, 5, 8, 25⟩ rfl (by decide) (by decide) cl_L_25 (by decide) rfl (by decide) (Or.inr ⟨2, rfl, dL_save_8, rfl⟩) ?_
      refine aw_iconst dL_save_9 (by decide) ?_
      refine aw_iret dL_save_10 rfl ?_
      exact q2
theorem wL_restore {p0 : Int} {h : AH} {K : AO → Nat → AH → Prop} (k : ∀ K' : AO → Nat → AH → Prop, (∀ o n h1, WK (fun _ => True) [(xI, 1), (xS, 2)] K 0 o n h1 → K' o n h1) → AC mX8_restore 7 2 12 159 [(2, 0), (0, p0)] h K') : AC mL_restore 8 2 12 159 [(2, 0), (0, p0), (2, 157)] h K := by
  refine ac_ofX (ls := [(2, 0), (0, p0), (2, 157), (9, 0)]) pn_L9 (fun q => by cases q) (Nat.le_of_ble_eq_true rfl) rfl ?_
  refine a_al2 (by decide) dL_restore_0 ?_
  refine aw_iconst dL_restore_1 (by decide) ?_
  refine a_al0 (by decide) dL_restore_2 ?_
  refine a_il1 dL_restore_3 ?_
  refine aw_callV 7 2 12 dL_restore_4 yw_X8_restore ml_L_99 in_X8_restore se_X8_restore (ci := 7) rfl at_0 (as := [_]) rfl rfl ⟨by decide, by decide, by decide, Nat.le_of_ble_eq_true rfl⟩ ?_
  refine k _ (fun o n h1 q => ?_)
  obtain ⟨rfl, q⟩ := q
  rcases o with r | E
  · rcases r with _ | ⟨t, x⟩
    · exact q.elim
    · obtain ⟨q1, q2, q3⟩ := q
      dsimp only at q1 q2 q3
      subst q1
      show AW mL_restore 8 (2 - 2) (12 - 12) K 159 7 [(2, 0), (0, p0), (2, 157), (9, 0)] ((0, x) :: [(0, 0), (2, 157)]) h1
      refine aw_i2l dL_restore_7 ?_
      refine aw_last dL_restore_8 ar_157 (by omega) ?_
      refine aw_goto 18 dL_restore_9 (by decide) ?_
      refine aw_iconst dL_restore_18 (by decide) ?_
      refine aw_iret dL_restore_19 rfl ?_
      exact q3
  · obtain ⟨kk, q1, q2⟩ := q
    have q4 : (E = xI ∧ kk = 1) ∨ (E = xS ∧ kk = 2) := by
      simpa using q1
    rcases q4 with ⟨rfl, rfl⟩ | ⟨rfl, rfl⟩
    · refine ax_cat (E := xI) (i := 3) (len := 1) [] (0, 9, 12, 25) [(0, 9, 15, 13)] rfl (fun y hy => by cases hy) ⟨0, 9, 12, 25⟩ rfl (by decide) (by decide) cl_L_25 (by decide) rfl (by decide) (Or.inr ⟨3, rfl, dL_restore_12, rfl⟩) ?_
      refine aw_iconst dL_restore_13 (by decide) ?_
      refine aw_iret dL_restore_14 rfl ?_
      exact q2
    · refine ax_cat (E := xS) (i := 3) (len := 1) [(0, 9, 12, 25)] (0, 9, 15, 13) [] rfl (fun y hy => by cases List.mem_singleton.mp hy; exact ⟨by decide, _, cl_L_25, by decide, by decide⟩) ⟨0, 9, 15, 13⟩ rfl (by decide) (by decide) cl_L_13 (by decide) rfl (by decide) (Or.inr ⟨3, rfl, dL_restore_15, rfl⟩) ?_
      refine aw_iconst dL_restore_16 (by decide) ?_
      refine aw_iret dL_restore_17 rfl ?_
      exact q2
theorem wL_writtenByte {p0 : Int} {h : AH} {K : AO → Nat → AH → Prop} (k : ∀ K' : AO → Nat → AH → Prop, (∀ o n h1, WK (fun _ => True) [(xI, 1)] K 0 o n h1 → K' o n h1) → AC mX8_writtenByte 6 1 6 159 [(2, 0), (0, p0)] h K') : AC mL_writtenByte 7 1 6 159 [(2, 0), (0, p0), (2, 157)] h K := by
  refine ac_ofX (ls := [(2, 0), (0, p0), (2, 157), (9, 0)]) pn_L9 (fun q => by cases q) (Nat.le_of_ble_eq_true rfl) rfl ?_
  refine a_al2 (by decide) dL_writtenByte_0 ?_
  refine aw_iconst dL_writtenByte_1 (by decide) ?_
  refine a_al0 (by decide) dL_writtenByte_2 ?_
  refine a_il1 dL_writtenByte_3 ?_
  refine aw_callV 6 1 6 dL_writtenByte_4 yw_X8_writtenByte ml_L_102 in_X8_writtenByte se_X8_writtenByte (ci := 7) rfl at_0 (as := [_]) rfl rfl ⟨by decide, by decide, by decide, Nat.le_of_ble_eq_true rfl⟩ ?_
  refine k _ (fun o n h1 q => ?_)
  obtain ⟨rfl, q⟩ := q
  rcases o with r | E
  · rcases r with _ | ⟨t, x⟩
    · exact q.elim
    · obtain ⟨q1, q2, q3⟩ := q
      dsimp only at q1 q2 q3
      subst q1
      show AW mL_writtenByte 7 (1 - 1) (6 - 6) K 159 7 [(2, 0), (0, p0), (2, 157), (9, 0)] ((0, x) :: [(0, 0), (2, 157)]) h1
      refine aw_i2l dL_writtenByte_7 ?_
      refine aw_last dL_writtenByte_8 ar_157 (by omega) ?_
      refine aw_goto 15 dL_writtenByte_9 (by decide) ?_
      refine aw_iconst dL_writtenByte_15 (by decide) ?_
      refine aw_iret dL_writtenByte_16 rfl ?_
      exact q3
  · obtain ⟨kk, q1, q2⟩ := q
    have q4 : (E = xI ∧ kk = 1) := by
      simpa using q1
    rcases q4 with ⟨rfl, rfl⟩
    · refine ax_cat (E := xI) (i := 3) (len := 1) [] (0, 9, 12, 25) [] rfl (fun y hy => by cases hy) ⟨0, 9, 12, 25⟩ rfl (by decide) (by decide) cl_L_25 (by decide) rfl (by decide) (Or.inr ⟨3, rfl, dL_writtenByte_12, rfl⟩) ?_
      refine aw_iconst dL_writtenByte_13 (by decide) ?_
      refine aw_iret dL_writtenByte_14 rfl ?_
      exact q2
