/-! the class: what is asked of the sheet -/
theorem isOnly_u {g : AH} {r s : Int} (hr : isOnly g r) (hs : isOnly g s) (hf : ∀ i, 0 ≤ i → i < g 141 3 → 0 ≤ g 141 (46 + 25 * i + 0)) : r = s := by
  rcases hr with ⟨i, i0, i1, q1, q2, q3⟩ | ⟨e, q⟩ <;> rcases hs with ⟨j, j0, j1, p1, p2, p3⟩ | ⟨e2, p⟩
  · rw [← p3 i i0 i1 q1, q2]
  · exfalso
    rcases p with p | ⟨a, c, a0, a1, c0, c1, p1, p2, p3⟩
    · exact p i i0 i1 q1
    · exact p3 (by rw [q3 a a0 a1 p1, q3 c c0 c1 p2])
  · exfalso
    rcases q with q | ⟨a, c, a0, a1, c0, c1, q1, q2, q3⟩
    · exact q j j0 j1 p1
    · exact q3 (by rw [p3 a a0 a1 q1, p3 c c0 c1 q2])
  · rw [e, e2]
theorem cx_count {w : Int} {h : AH} {K : AO → Nat → AH → Prop} (hS : SR h 5 h) (k1 : ¬ (0 ≤ w ∧ w ≤ 10) → K (.inr xA) 159 h) (k0 : 0 ≤ w ∧ w < 9 → K (.inl (some (0, h 141 w))) 159 h) (k9 : w = 9 → K (.inl (some (0, sumN (flN h) (h 141 3).toNat))) 159 h) (k10 : w = 10 → ∀ r, isOnly h r → K (.inl (some (0, r))) 159 h) : AC mX8_count 6 1 6 159 [(2, 0), (0, w)] h K := by
  obtain ⟨d0, d1, d2, d3, d4, d5, d6⟩ := hS.1.1
  have d8 := hS.2.2.1.1.2
  have n3 := hS.2.2.2.1.2.2.1
  have n2 := hS.2.2.2.1.2.2.2.2.1
  have r8 := hS.2.2.2.2.2.1
  have sl := SR_sail hS
  have e8 : (if (10 : Int) < h 5 4 then 10 else h 5 4) = h 141 8 := by
    rw [r8, d4]
    split <;> split <;> omega
  refine ac_of (ls := [(2, 0), (0, w)]) pn_X8 rfl (Nat.le_of_ble_eq_true rfl) rfl ?_
  refine a_il1 dX8_count_0 ?_
  by_cases hw : 0 ≤ w ∧ w ≤ 10
  · have : w = 0 ∨ w = 1 ∨ w = 2 ∨ w = 3 ∨ w = 4 ∨ w = 5 ∨ w = 6 ∨ w = 7 ∨ w = 8 ∨ w = 9 ∨ w = 10 := by omega
    rcases this with rfl | rfl | rfl | rfl | rfl | rfl | rfl | rfl | rfl | rfl | rfl
    · refine aw_tsw_in 60 dX8_count_1 (by omega) rfl (by decide) ?_
      refine a_al0 (by decide) dX8_count_60 ?_
      refine aw_getR (r := 5) 2 rfl dX8_count_61 fl_X8_24 at_0 rfl rfl ?_
      refine aw_get 0 dX8_count_64 fl_X8_68 at_5 rfl ?_
      refine aw_iret dX8_count_67 rfl ?_
      rw [d0]
      exact k0 (by decide)
    · refine aw_tsw_in 68 dX8_count_1 (by omega) rfl (by decide) ?_
      refine a_al0 (by decide) dX8_count_68 ?_
      refine aw_getR (r := 5) 2 rfl dX8_count_69 fl_X8_24 at_0 rfl rfl ?_
      refine aw_get 1 dX8_count_72 fl_X8_72 at_5 rfl ?_
      refine aw_iret dX8_count_75 rfl ?_
      rw [d1]
      exact k0 (by decide)
    · refine aw_tsw_in 76 dX8_count_1 (by omega) rfl (by decide) ?_
      refine a_al0 (by decide) dX8_count_76 ?_
      refine aw_getR (r := 5) 2 rfl dX8_count_77 fl_X8_24 at_0 rfl rfl ?_
      refine aw_get 2 dX8_count_80 fl_X8_75 at_5 rfl ?_
      refine aw_iret dX8_count_83 rfl ?_
      rw [d2]
      exact k0 (by decide)
    · refine aw_tsw_in 84 dX8_count_1 (by omega) rfl (by decide) ?_
      refine a_al0 (by decide) dX8_count_84 ?_
      refine aw_getR (r := 5) 2 rfl dX8_count_85 fl_X8_24 at_0 rfl rfl ?_
      refine aw_get 3 dX8_count_88 fl_X8_111 at_5 rfl ?_
      refine aw_iret dX8_count_91 rfl ?_
      rw [d3]
      exact k0 (by decide)
    · refine aw_tsw_in 92 dX8_count_1 (by omega) rfl (by decide) ?_
      refine a_al0 (by decide) dX8_count_92 ?_
      refine aw_getR (r := 5) 2 rfl dX8_count_93 fl_X8_24 at_0 rfl rfl ?_
      refine aw_get 4 dX8_count_96 fl_X8_117 at_5 rfl ?_
      refine aw_iret dX8_count_99 rfl ?_
      rw [d4]
      exact k0 (by decide)
    · refine aw_tsw_in 100 dX8_count_1 (by omega) rfl (by decide) ?_
      refine a_al0 (by decide) dX8_count_100 ?_
      refine aw_getR (r := 5) 2 rfl dX8_count_101 fl_X8_24 at_0 rfl rfl ?_
      refine aw_get 5 dX8_count_104 fl_X8_120 at_5 rfl ?_
      refine aw_iret dX8_count_107 rfl ?_
      rw [d5]
      exact k0 (by decide)
    · refine aw_tsw_in 108 dX8_count_1 (by omega) rfl (by decide) ?_
      refine a_al0 (by decide) dX8_count_108 ?_
      refine aw_getR (r := 5) 2 rfl dX8_count_109 fl_X8_24 at_0 rfl rfl ?_
      refine aw_get 6 dX8_count_112 fl_X8_123 at_5 rfl ?_
      refine aw_iret dX8_count_115 rfl ?_
      rw [d6]
      exact k0 (by decide)
    · refine aw_tsw_in 116 dX8_count_1 (by omega) rfl (by decide) ?_
      refine a_al0 (by decide) dX8_count_116 ?_
      refine aw_getR (r := 5) 2 rfl dX8_count_117 fl_X8_24 at_0 rfl rfl ?_
      refine aw_get 8 dX8_count_120 fl_X8_126 at_5 rfl ?_
      refine aw_iret dX8_count_123 rfl ?_
      rw [d8]
      exact k0 (by decide)
    · refine aw_tsw_in 124 dX8_count_1 (by omega) rfl (by decide) ?_
      refine a_al0 (by decide) dX8_count_124 ?_
      refine aw_getR (r := 5) 2 rfl dX8_count_125 fl_X8_24 at_0 rfl rfl ?_
      refine aw_get 4 dX8_count_128 fl_X8_117 at_5 rfl ?_
      refine aw_bipush dX8_count_131 (by decide) ?_
      refine aw_mmin dX8_count_133 ⟨ml_X8_129, mw_min⟩ ⟨by decide, Nat.le_of_ble_eq_true rfl⟩ ?_
      refine aw_iret dX8_count_136 rfl ?_
      rw [e8]
      exact k0 (by decide)
    · refine aw_tsw_in 137 dX8_count_1 (by omega) rfl (by decide) ?_
      refine a_al0 (by decide) dX8_count_137 ?_
      refine aw_getR (r := 5) 2 rfl dX8_count_138 fl_X8_24 at_0 rfl rfl ?_
      refine aw_callV 5 0 0 dX8_count_141 yw_X3_floatingShips ml_X8_135 in_X3_floatingShips se_X3_floatingShips (ci := 2) rfl at_5 (as := []) rfl rfl ⟨by decide, by decide, by decide, Nat.le_of_ble_eq_true rfl⟩ ?_
      refine ac_floatingShips (Or.inl rfl) (by rw [d3]; exact n3) (by rw [d2]; exact n2) ?_
      rw [sl]
      refine am_ci ?_
      refine aw_iret dX8_count_144 rfl ?_
      exact k9 rfl
    · refine aw_tsw_in 145 dX8_count_1 (by omega) rfl (by decide) ?_
      refine a_al0 (by decide) dX8_count_145 ?_
      refine aw_getR (r := 5) 2 rfl dX8_count_146 fl_X8_24 at_0 rfl rfl ?_
      refine aw_callV 5 0 0 dX8_count_149 yw_X3_onlyFleet ml_X8_139 in_X3_onlyFleet se_X3_onlyFleet (ci := 2) rfl at_5 (as := []) rfl rfl ⟨by decide, by decide, by decide, Nat.le_of_ble_eq_true rfl⟩ ?_
      refine ac_onlyFleetC (Or.inl rfl) (by rw [d3]; exact n3) (by rw [d2]; exact n2) (fun r hr => ?_)
      refine am_ci ?_
      refine aw_iret dX8_count_152 rfl ?_
      exact k10 rfl r (SR_only hS hr)
  · refine aw_tsw_out 153 dX8_count_1 (by omega) (by decide) ?_
    refine aw_throw (i := 10) rfl rfl dX8_count_153 dX8_count_156 dX8_count_157 dX8_count_159 dX8_count_162 tw_IllegalArgumentException rfl ⟨rfl, rfl⟩ ⟨by decide, by decide, by decide, rfl⟩ ?_
    exact k1 hw
theorem cx_ship {i w : Int} {h : AH} {K : AO → Nat → AH → Prop} (hS : SR h 5 h) (k1 : ¬ (0 ≤ i ∧ i < h 141 3) → K (.inr xI) 159 h) (k2 : 0 ≤ i ∧ i < h 141 3 → ¬ (0 ≤ w ∧ w ≤ 10) → K (.inr xA) 159 h) (k0 : 0 ≤ i ∧ i < h 141 3 → 0 ≤ w ∧ w ≤ 10 → K (.inl (some (0, h 141 (46 + 25 * i + w)))) 159 h) : AC mX8_ship 7 2 12 159 [(2, 0), (0, i), (0, w)] h K := by
  have d3 := hS.1.1.2.2.2.1
  have n3 := hS.2.2.2.1.2.2.1
  refine ac_of (ls := [(2, 0), (0, i), (0, w)]) pn_X8 rfl (Nat.le_of_ble_eq_true rfl) rfl ?_
  refine a_al0 (by decide) dX8_ship_0 ?_
  refine a_il1 dX8_ship_1 ?_
  refine aw_callV 6 1 6 dX8_ship_2 yw_X8_needShip ml_X8_147 in_X8_needShip se_X8_needShip (ci := 7) rfl at_0 (as := [_]) rfl rfl ⟨by decide, by decide, by decide, Nat.le_of_ble_eq_true rfl⟩ ?_
  refine ac_needShip (fun q => ?_) (fun q => ?_)
  · rw [d3] at q
    refine am_cv ?_
    refine a_il2 dX8_ship_5 ?_
    refine aw_callS 6 1 6 dX8_ship_6 yw_X8_needShipNumber ml_X8_150 sm_X8_needShipNumber (as := [_]) rfl rfl ⟨by decide, by decide, by decide, Nat.le_of_ble_eq_true rfl⟩ ?_
    refine ac_needShipNumber (fun q2 => ?_) (fun q2 => ?_)
    · refine am_cv ?_
      refine a_al0 (by decide) dX8_ship_9 ?_
      refine aw_getR (r := 5) 2 rfl dX8_ship_10 fl_X8_24 at_0 rfl rfl ?_
      try simp (disch := omega) only [up_at, up_ne]
      refine a_il1 dX8_ship_13 ?_
      refine a_il2 dX8_ship_14 ?_
      refine aw_callV 1 0 0 dX8_ship_15 yw_X3_get ml_X8_153 in_X3_get se_X3_get (ci := 2) rfl at_5 (as := [_, _]) rfl rfl ⟨by decide, by decide, by decide, Nat.le_of_ble_eq_true rfl⟩ ?_
      refine ac_get (Or.inl rfl) (by omega) q2 ?_
      have e : h (5 + 2) (i * 11 + w) = h 141 (46 + 25 * i + w) := by
        obtain ⟨s1, s2, s3, -⟩ := hS.1.2.1 i q.1 q.2
        by_cases z : w = 10
        · rw [z]; exact s3 trivial
        · exact s1 w q2.1 (by omega)
      rw [e]
      refine am_ci ?_
      try simp (disch := omega) only [up_at, up_ne]
      refine aw_iret dX8_ship_18 rfl ?_
      exact k0 q q2
    · exact am_cx rfl (k2 q q2)
  · rw [d3] at q
    exact am_cx rfl (k1 q)
theorem cx_fleet {f w : Int} {h : AH} {K : AO → Nat → AH → Prop} (hS : SR h 5 h) (k1 : ¬ (0 ≤ f ∧ f < h 141 2) → K (.inr xI) 159 h) (k2 : 0 ≤ f ∧ f < h 141 2 → ¬ (0 ≤ w ∧ w ≤ 4) → K (.inr xA) 159 h) (k0 : 0 ≤ f ∧ f < h 141 2 → 0 ≤ w ∧ w ≤ 4 → K (.inl (some (0, if w = 0 then orN (fSail h f) (h 141 3).toNat else if w = 1 then h 141 (34 + 3 * f) else if w = 2 then sumN (hulN h f) (h 141 3).toNat else if w = 3 then h 141 (34 + 3 * f + 1) else sumN (fun i => sumN (letN h f i) 6) (h 141 3).toNat))) 159 h) : AC mX8_fleet 7 2 12 159 [(2, 0), (0, f), (0, w)] h K := by
  have d2 := hS.1.1.2.2.1
  have d3 := hS.1.1.2.2.2.1
  have n3 := hS.2.2.2.1.2.2.1
  have n2 := hS.2.2.2.1.2.2.2.2.1
  have hh := hS.2.2.2.1.2.2.2.1
  refine ac_of (ls := [(2, 0), (0, f), (0, w)]) pn_X8 rfl (Nat.le_of_ble_eq_true rfl) rfl ?_
  refine a_al0 (by decide) dX8_fleet_0 ?_
  refine a_il1 dX8_fleet_1 ?_
  refine aw_callV 6 1 6 dX8_fleet_2 yw_X8_needFleet ml_X8_156 in_X8_needFleet se_X8_needFleet (ci := 7) rfl at_0 (as := [_]) rfl rfl ⟨by decide, by decide, by decide, Nat.le_of_ble_eq_true rfl⟩ ?_
  refine ac_needFleet (fun q => ?_) (fun q => ?_)
  · rw [d2] at q
    refine am_cv ?_
    refine a_il2 dX8_fleet_5 ?_
    by_cases hw : 0 ≤ w ∧ w ≤ 4
    · have k0 := k0 q hw
      have : w = 0 ∨ w = 1 ∨ w = 2 ∨ w = 3 ∨ w = 4 := by omega
      rcases this with rfl | rfl | rfl | rfl | rfl
      · refine aw_tsw_in 40 dX8_fleet_6 (by omega) rfl (by decide) ?_
        refine a_al0 (by decide) dX8_fleet_40 ?_
        refine aw_getR (r := 5) 2 rfl dX8_fleet_41 fl_X8_24 at_0 rfl rfl ?_
        try simp (disch := omega) only [up_at, up_ne]
        refine a_il1 dX8_fleet_44 ?_
        refine aw_callV 4 0 0 dX8_fleet_45 yw_X3_shipsOf ml_X8_159 in_X3_shipsOf se_X3_shipsOf (ci := 2) rfl at_5 (as := [_]) rfl rfl ⟨by decide, by decide, by decide, Nat.le_of_ble_eq_true rfl⟩ ?_
        refine ac_shipsOf (Or.inl rfl) (by rw [d3]; exact n3) ?_
        rw [d3, orN_eq (P' := fSail h f) _ (fun i a c => SR_fl hS ⟨a, by omega⟩)]
        refine am_ci ?_
        try simp (disch := omega) only [up_at, up_ne]
        refine aw_iret dX8_fleet_48 rfl ?_
        exact k0
      · refine aw_tsw_in 49 dX8_fleet_6 (by omega) rfl (by decide) ?_
        refine a_al0 (by decide) dX8_fleet_49 ?_
        refine aw_getR (r := 5) 2 rfl dX8_fleet_50 fl_X8_24 at_0 rfl rfl ?_
        try simp (disch := omega) only [up_at, up_ne]
        refine aw_getR (r := 11) 14 rfl dX8_fleet_53 fl_X8_162 at_5 rfl rfl ?_
        try simp (disch := omega) only [up_at, up_ne]
        refine a_il1 dX8_fleet_56 ?_
        refine aw_iald dX8_fleet_57 ar_11 (by omega) ?_
        try simp (disch := omega) only [up_at, up_ne]
        refine aw_iret dX8_fleet_58 rfl ?_
        rw [show h 11 f = h 141 (34 + 3 * f) from hS.1.2.2 f q.1 q.2]
        exact k0
      · refine aw_tsw_in 59 dX8_fleet_6 (by omega) rfl (by decide) ?_
        refine a_al0 (by decide) dX8_fleet_59 ?_
        refine aw_getR (r := 5) 2 rfl dX8_fleet_60 fl_X8_24 at_0 rfl rfl ?_
        try simp (disch := omega) only [up_at, up_ne]
        refine a_il1 dX8_fleet_63 ?_
        refine aw_callV 4 0 0 dX8_fleet_64 yw_X3_hullOf ml_X8_166 in_X3_hullOf se_X3_hullOf (ci := 2) rfl at_5 (as := [_]) rfl rfl ⟨by decide, by decide, by decide, Nat.le_of_ble_eq_true rfl⟩ ?_
        refine ac_hullOf (Or.inl rfl) (by rw [d3]; exact n3) (fun i a c => ?_) ?_
        · rw [d3] at c
          rw [(hS.1.2.1 i a c).1 4 (by decide) (by decide)]
          have := (hh i a c).1
          omega
        rw [d3, sumN_eq (f' := hulN h f) _ (fun i a c => ?_)]
        · refine am_ci ?_
          try simp (disch := omega) only [up_at, up_ne]
          refine aw_iret dX8_fleet_67 rfl ?_
          exact k0
        · unfold cHul hulN
          have e := SR_fl (f := f) hS ⟨a, show i < h 141 3 by omega⟩
          by_cases z : cFl h 5 f i
          · rw [if_pos z, if_pos (e.mp z)]
            exact (hS.1.2.1 i a (by omega)).1 4 (by decide) (by decide)
          · rw [if_neg z, if_neg (fun y => z (e.mpr y))]
      · have hs := hS.2.2.1.2.2.2.2.1 f q.1 q.2
        have hr := hS.2.2.2.2.2.2.2.2.1 f q.1 q.2
        unfold mSN at hs
        refine aw_tsw_in 68 dX8_fleet_6 (by omega) rfl (by decide) ?_
        refine a_al0 (by decide) dX8_fleet_68 ?_
        refine aw_getR (r := 5) 2 rfl dX8_fleet_69 fl_X8_24 at_0 rfl rfl ?_
        try simp (disch := omega) only [up_at, up_ne]
        refine a_il1 dX8_fleet_72 ?_
        refine aw_callV 1 0 0 dX8_fleet_73 yw_X3_hasSealed ml_X8_169 in_X3_hasSealed se_X3_hasSealed (ci := 2) rfl at_5 (as := [_]) rfl rfl ⟨by decide, by decide, by decide, Nat.le_of_ble_eq_true rfl⟩ ?_
        refine ac_hasSealed (Or.inl rfl) (by omega) (fun q2 => ?_) (fun q2 => ?_)
        · have e : h 141 (34 + 3 * f + 1) = 1 := by
            by_cases z : h 141 (34 + 3 * f + 1) = 1
            · exact z
            · rw [if_neg z] at hs
              exact absurd hs q2
          refine am_ci ?_
          refine aw_if_eq_n 83 dX8_fleet_76 (by decide) (by decide) ?_
          refine aw_iconst dX8_fleet_79 (by decide) ?_
          refine aw_goto 84 dX8_fleet_80 (by decide) ?_
          refine aw_iret dX8_fleet_84 rfl ?_
          rw [show (1 : Int) = h 141 (34 + 3 * f + 1) from e.symm]
          exact k0
        · have e : h 141 (34 + 3 * f + 1) = 0 := by
            rcases hr.1 with z | z
            · exact z
            · rw [if_pos z] at hs
              have := hr.2.1 z
              have q3 : h (5 + 7) f = -1 := q2
              omega
          refine am_ci ?_
          refine aw_if_eq_y 83 dX8_fleet_76 (by decide) (by decide) ?_
          refine aw_iconst dX8_fleet_83 (by decide) ?_
          refine aw_iret dX8_fleet_84 rfl ?_
          rw [show (0 : Int) = h 141 (34 + 3 * f + 1) from e.symm]
          exact k0
      · refine aw_tsw_in 85 dX8_fleet_6 (by omega) rfl (by decide) ?_
        refine a_al0 (by decide) dX8_fleet_85 ?_
        refine aw_getR (r := 5) 2 rfl dX8_fleet_86 fl_X8_24 at_0 rfl rfl ?_
        try simp (disch := omega) only [up_at, up_ne]
        refine a_il1 dX8_fleet_89 ?_
        refine aw_callV 4 0 0 dX8_fleet_90 yw_X3_maneuversOf ml_X8_173 in_X3_maneuversOf se_X3_maneuversOf (ci := 2) rfl at_5 (as := [_]) rfl rfl ⟨by decide, by decide, by decide, Nat.le_of_ble_eq_true rfl⟩ ?_
        refine ac_maneuversOf (Or.inl rfl) (by rw [d3]; exact n3) ?_
        rw [d3, sumN_eq (f' := fun i => sumN (letN h f i) 6) _ (fun i a c => ?_)]
        · refine am_ci ?_
          try simp (disch := omega) only [up_at, up_ne]
          refine aw_iret dX8_fleet_93 rfl ?_
          exact k0
        · have il : i < h 141 3 := by omega
          have e := SR_fl (f := f) hS ⟨a, il⟩
          have s4 := (hS.1.2.1 i a il).2.2.2
          unfold cManF
          by_cases z : cFl h 5 f i
          · rw [if_pos z]
            refine sumN_eq 6 (fun p p0 p1 => ?_)
            unfold cMan letN
            rw [s4 p p0 (by omega)]
            by_cases y : h 141 (46 + 25 * i + (11 + p)) = 1
            · rw [if_pos y, if_neg (fun x => x.2 y)]
            · rw [if_neg y, if_pos ⟨e.mp z, y⟩]
          · rw [if_neg z]
            show (0 : Int) = sumN (letN h f i) 6
            rw [sumN_eq (f' := fun _ => 0) 6 (fun p p0 p1 => ?_), sumN_0]
            unfold letN
            rw [if_neg (fun x => z (e.mpr x.1))]
    · refine aw_tsw_out 94 dX8_fleet_6 (by omega) (by decide) ?_
      refine aw_throw (i := 14) rfl rfl dX8_fleet_94 dX8_fleet_97 dX8_fleet_98 dX8_fleet_100 dX8_fleet_103 tw_IllegalArgumentException rfl ⟨rfl, rfl⟩ ⟨by decide, by decide, by decide, rfl⟩ ?_
      exact k2 q hw
  · rw [d2] at q
    exact am_cx rfl (k1 q)
theorem cx_at {c r : Int} {h : AH} {K : AO → Nat → AH → Prop} (hS : SR h 5 h) (k1 : ¬ ((0 ≤ c ∧ c < h 141 0) ∧ (0 ≤ r ∧ r < h 141 1)) → K (.inr xI) 159 h) (k0 : 0 ≤ c ∧ c < h 141 0 → 0 ≤ r ∧ r < h 141 1 → ∀ x, isFst (mAt h c r) (h 141 3) x → K (.inl (some (0, x))) 159 h) : AC mX8_at 6 1 6 159 [(2, 0), (0, c), (0, r)] h K := by
  obtain ⟨d0, d1, d2, d3, -⟩ := hS.1.1
  have n3 := hS.2.2.2.1.2.2.1
  refine ac_of (ls := [(2, 0), (0, c), (0, r)]) pn_X8 rfl (Nat.le_of_ble_eq_true rfl) rfl ?_
  refine a_al0 (by decide) dX8_at_0 ?_
  refine aw_getR (r := 5) 2 rfl dX8_at_1 fl_X8_24 at_0 rfl rfl ?_
  refine a_il1 dX8_at_4 ?_
  refine a_il2 dX8_at_5 ?_
  refine aw_callV 1 0 0 dX8_at_6 yw_X3_hasCell ml_X8_178 in_X3_hasCell se_X3_hasCell (ci := 2) rfl at_5 (as := [_, _]) rfl rfl ⟨by decide, by decide, by decide, Nat.le_of_ble_eq_true rfl⟩ ?_
  refine ac_hasCell (Or.inl rfl) (fun q => ?_) (fun q => ?_)
  · rw [d0, d1] at q
    refine am_ci ?_
    refine aw_if_ne_y 22 dX8_at_9 (by decide) (by decide) ?_
    refine a_al0 (by decide) dX8_at_22 ?_
    refine aw_getR (r := 5) 2 rfl dX8_at_23 fl_X8_24 at_0 rfl rfl ?_
    refine a_il1 dX8_at_26 ?_
    refine a_il2 dX8_at_27 ?_
    refine aw_callV 2 0 0 dX8_at_28 yw_X3_shipIn ml_X8_187 in_X3_shipIn se_X3_shipIn (ci := 2) rfl at_5 (as := [_, _]) rfl rfl ⟨by decide, by decide, by decide, Nat.le_of_ble_eq_true rfl⟩ ?_
    refine ac_shipIn (Or.inl rfl) (by rw [d3]; exact n3) (fun x hx => ?_)
    rw [d3] at hx
    have e : ∀ j, 0 ≤ j → j < h 141 3 → (cAt h 5 c r j ↔ mAt h c r j) := fun j a b => by
      obtain ⟨s1, s2, -⟩ := hS.1.2.1 j a b
      have o := hS.2.1 j a b
      unfold cAt mAt
      rw [s1 1 (by decide) (by decide), s1 2 (by decide) (by decide)]
      constructor
      · intro q2
        by_cases z : h 141 (46 + 25 * j + 10) = -1
        · exact ⟨z, q2⟩
        · have := o.2.2 z
          omega
      · exact fun q2 => q2.2
    have hx2 : isFst (mAt h c r) (h 141 3) x := by
      rcases hx with ⟨a1, a2, a3, a4⟩ | ⟨a1, a2⟩
      · exact Or.inl ⟨a1, a2, (e x a1 a2).mp a3, fun j b1 b2 b3 => a4 j b1 b2 ((e j b1 (by omega)).mpr b3)⟩
      · exact Or.inr ⟨a1, fun j b1 b2 b3 => a2 j b1 b2 ((e j b1 b2).mpr b3)⟩
    refine am_ci ?_
    refine aw_iret dX8_at_31 rfl ?_
    exact k0 ⟨q.1, q.2.1⟩ ⟨q.2.2.1, q.2.2.2⟩ x hx2
  · rw [d0, d1] at q
    refine am_ci ?_
    refine aw_if_ne_n 22 dX8_at_9 (by decide) (by decide) ?_
    refine aw_throw (i := 15) rfl rfl dX8_at_12 dX8_at_15 dX8_at_16 dX8_at_18 dX8_at_21 tw_IndexOutOfBoundsException rfl ⟨rfl, rfl⟩ ⟨by decide, by decide, by decide, rfl⟩ ?_
    exact k1 (fun x => q ⟨x.1.1, x.1.2, x.2.1, x.2.2⟩)
theorem cx_order {i p : Int} {h : AH} {K : AO → Nat → AH → Prop} (hS : SR h 5 h) (k1 : ¬ ((0 ≤ i ∧ i < h 141 3) ∧ (0 ≤ p ∧ p ≤ 5)) → K (.inr xI) 159 h) (k0 : (0 ≤ i ∧ i < h 141 3) → (0 ≤ p ∧ p ≤ 5) → K (.inl (some (0, h 141 (46 + 25 * i + (11 + p))))) 159 h) : AC mX8_order 7 2 12 159 [(2, 0), (0, i), (0, p)] h K := by
  have d3 := hS.1.1.2.2.2.1
  have n3 := hS.2.2.2.1.2.2.1
  refine ac_of (ls := [(2, 0), (0, i), (0, p)]) pn_X8 rfl (Nat.le_of_ble_eq_true rfl) rfl ?_
  refine a_al0 (by decide) dX8_order_0 ?_
  refine a_il1 dX8_order_1 ?_
  refine aw_callV 6 1 6 dX8_order_2 yw_X8_needShip ml_X8_147 in_X8_needShip se_X8_needShip (ci := 7) rfl at_0 (as := [_]) rfl rfl ⟨by decide, by decide, by decide, Nat.le_of_ble_eq_true rfl⟩ ?_
  refine ac_needShip (fun q => ?_) (fun q => ?_)
  · rw [d3] at q
    refine am_cv ?_
    refine a_il2 dX8_order_5 ?_
    refine aw_callS 6 1 6 dX8_order_6 yw_X8_needPulse ml_X8_190 sm_X8_needPulse (as := [_]) rfl rfl ⟨by decide, by decide, by decide, Nat.le_of_ble_eq_true rfl⟩ ?_
    refine ac_needPulse (fun q2 => ?_) (fun q2 => ?_)
    · refine am_cv ?_
      refine a_al0 (by decide) dX8_order_9 ?_
      refine aw_getR (r := 5) 2 rfl dX8_order_10 fl_X8_24 at_0 rfl rfl ?_
      try simp (disch := omega) only [up_at, up_ne]
      refine aw_getR (r := 8) 11 rfl dX8_order_13 fl_X8_193 at_5 rfl rfl ?_
      try simp (disch := omega) only [up_at, up_ne]
      refine a_il1 dX8_order_16 ?_
      refine aw_iald dX8_order_17 ar_8 (by omega) ?_
      try simp (disch := omega) only [up_at, up_ne]
      refine a_il2 dX8_order_18 ?_
      refine aw_callS 1 0 0 dX8_order_19 yw_X2_letter ml_X8_196 sm_X2_letter (as := [_, _]) rfl rfl ⟨by decide, by decide, by decide, Nat.le_of_ble_eq_true rfl⟩ ?_
      refine ac_letter q2 ?_
      have e := (hS.1.2.1 i q.1 q.2).2.2.2 p q2.1 q2.2
      rw [show cLt (h 8 i) p = h 141 (46 + 25 * i + (11 + p)) from e]
      refine am_ci ?_
      try simp (disch := omega) only [up_at, up_ne]
      refine aw_iret dX8_order_22 rfl ?_
      exact k0 q q2
    · exact am_cx rfl (k1 (fun x => q2 x.2))
  · rw [d3] at q
    exact am_cx rfl (k1 (fun x => q x.1))
theorem cx_gain {i d : Int} {h : AH} {K : AO → Nat → AH → Prop} (hS : SR h 5 h) (k1 : ¬ (0 ≤ i ∧ i < h 141 3) → K (.inr xI) 159 h) (k2 : 0 ≤ i ∧ i < h 141 3 → ¬ (0 ≤ d ∧ d ≤ 7) → K (.inr xA) 159 h) (k0 : 0 ≤ i ∧ i < h 141 3 → 0 ≤ d ∧ d ≤ 7 → K (.inl (some (0, h 141 (46 + 25 * i + 6) * h 141 6 * tab0 (ang d (h 141 5))))) 159 h) : AC mX8_gain 7 2 12 159 [(2, 0), (0, i), (0, d)] h K := by
  obtain ⟨d0, d1, d2, d3, d4, d5, d6⟩ := hS.1.1
  have n3 := hS.2.2.2.1.2.2.1
  obtain ⟨-, -, b5, b6⟩ := hS.2.2.2.1.1
  refine ac_of (ls := [(2, 0), (0, i), (0, d)]) pn_X8 rfl (Nat.le_of_ble_eq_true rfl) rfl ?_
  refine a_al0 (by decide) dX8_gain_0 ?_
  refine a_il1 dX8_gain_1 ?_
  refine aw_callV 6 1 6 dX8_gain_2 yw_X8_needShip ml_X8_147 in_X8_needShip se_X8_needShip (ci := 7) rfl at_0 (as := [_]) rfl rfl ⟨by decide, by decide, by decide, Nat.le_of_ble_eq_true rfl⟩ ?_
  refine ac_needShip (fun q => ?_) (fun q => ?_)
  · rw [d3] at q
    have e := (hS.1.2.1 i q.1 q.2).1 6 (by decide) (by decide)
    have s6 := (hS.2.2.2.1.2.1 i q.1 q.2).1.2.2.2.1
    refine am_cv ?_
    refine a_il2 dX8_gain_5 ?_
    refine aw_callS 1 0 0 dX8_gain_6 yw_X8_isDirection ml_X8_201 sm_X8_isDirection (as := [_]) rfl rfl ⟨by decide, by decide, by decide, Nat.le_of_ble_eq_true rfl⟩ ?_
    refine ac_isDirection (fun q2 => ?_) (fun q2 => ?_)
    · refine am_ci ?_
      refine aw_if_ne_y 22 dX8_gain_9 (by decide) (by decide) ?_
      refine a_al0 (by decide) dX8_gain_22 ?_
      refine aw_getR (r := 5) 2 rfl dX8_gain_23 fl_X8_24 at_0 rfl rfl ?_
      try simp (disch := omega) only [up_at, up_ne]
      refine a_il1 dX8_gain_26 ?_
      refine a_il2 dX8_gain_27 ?_
      refine aw_callV 2 0 0 dX8_gain_28 yw_X3_growth ml_X8_206 in_X3_growth se_X3_growth (ci := 2) rfl at_5 (as := [_, _]) rfl rfl ⟨by decide, by decide, by decide, Nat.le_of_ble_eq_true rfl⟩ ?_
      refine ac_growth (Or.inl rfl) (by omega) q2 (by rw [d5]; exact b5) (by rw [d6]; exact b6) (by rw [e]; exact s6) ?_
      rw [e, d5, d6]
      refine am_ci ?_
      try simp (disch := omega) only [up_at, up_ne]
      refine aw_iret dX8_gain_31 rfl ?_
      exact k0 q q2
    · refine am_ci ?_
      refine aw_if_ne_n 22 dX8_gain_9 (by decide) (by decide) ?_
      refine aw_throw (i := 17) rfl rfl dX8_gain_12 dX8_gain_15 dX8_gain_16 dX8_gain_18 dX8_gain_21 tw_IllegalArgumentException rfl ⟨rfl, rfl⟩ ⟨by decide, by decide, by decide, rfl⟩ ?_
      exact k2 q q2
  · rw [d3] at q
    exact am_cx rfl (k1 q)
theorem cx_sees {f i : Int} {h : AH} {K : AO → Nat → AH → Prop} (hS : SR h 5 h) (k1 : ¬ ((0 ≤ f ∧ f < h 141 2) ∧ 0 ≤ i ∧ i < h 141 3) → K (.inr xI) 159 h) (kt : (0 ≤ f ∧ f < h 141 2) → (0 ≤ i ∧ i < h 141 3) → mSees h f i → K (.inl (some (0, 1))) 159 h) (kf : (0 ≤ f ∧ f < h 141 2) → (0 ≤ i ∧ i < h 141 3) → ¬ mSees h f i → K (.inl (some (0, 0))) 159 h) : AC mX8_sees 7 2 12 159 [(2, 0), (0, f), (0, i)] h K := by
  obtain ⟨d0, d1, d2, d3, -⟩ := hS.1.1
  have n3 := hS.2.2.2.1.2.2.1
  refine ac_of (ls := [(2, 0), (0, f), (0, i)]) pn_X8 rfl (Nat.le_of_ble_eq_true rfl) rfl ?_
  refine a_al0 (by decide) dX8_sees_0 ?_
  refine a_il1 dX8_sees_1 ?_
  refine aw_callV 6 1 6 dX8_sees_2 yw_X8_needFleet ml_X8_156 in_X8_needFleet se_X8_needFleet (ci := 7) rfl at_0 (as := [_]) rfl rfl ⟨by decide, by decide, by decide, Nat.le_of_ble_eq_true rfl⟩ ?_
  refine ac_needFleet (fun q => ?_) (fun q => ?_)
  · rw [d2] at q
    refine am_cv ?_
    refine a_al0 (by decide) dX8_sees_5 ?_
    refine a_il2 dX8_sees_6 ?_
    refine aw_callV 6 1 6 dX8_sees_7 yw_X8_needShip ml_X8_147 in_X8_needShip se_X8_needShip (ci := 7) rfl at_0 (as := [_]) rfl rfl ⟨by decide, by decide, by decide, Nat.le_of_ble_eq_true rfl⟩ ?_
    refine ac_needShip (fun q2 => ?_) (fun q2 => ?_)
    · have e : cSees h 5 f i ↔ mSees h f i := by
        rw [d3] at q2
        obtain ⟨s1, s2, -⟩ := hS.1.2.1 i q2.1 q2.2
        unfold cSees mSees
        rw [d3, s1 0 (by decide) (by decide), s2]
        have en : ∀ j, 0 ≤ j → j < h 141 3 → (cNear h 5 j i ↔ mNear h j i) := fun j a b => by
          obtain ⟨t1, -⟩ := hS.1.2.1 j a b
          unfold cNear mNear
          rw [s1 1 (by decide) (by decide), s1 2 (by decide) (by decide), t1 1 (by decide) (by decide), t1 2 (by decide) (by decide)]
        constructor
        · rintro (x | ⟨x, j, a, b, y, z⟩)
          · exact Or.inl x
          · exact Or.inr ⟨x, j, a, b, (SR_fl hS ⟨a, b⟩).mp y, (en j a b).mp z⟩
        · rintro (x | ⟨x, j, a, b, y, z⟩)
          · exact Or.inl x
          · exact Or.inr ⟨x, j, a, b, (SR_fl hS ⟨a, b⟩).mpr y, (en j a b).mpr z⟩
      refine am_cv ?_
      refine a_al0 (by decide) dX8_sees_10 ?_
      refine aw_getR (r := 5) 2 rfl dX8_sees_11 fl_X8_24 at_0 rfl rfl ?_
      try simp (disch := omega) only [up_at, up_ne]
      refine a_il1 dX8_sees_14 ?_
      refine a_il2 dX8_sees_15 ?_
      refine aw_callV 4 0 0 dX8_sees_16 yw_X3_isSeenBy ml_X8_209 in_X3_isSeenBy se_X3_isSeenBy (ci := 2) rfl at_5 (as := [_, _]) rfl rfl ⟨by decide, by decide, by decide, Nat.le_of_ble_eq_true rfl⟩ ?_
      refine ac_isSeenBy (Or.inl rfl) (by rw [d3]; exact n3) q2 (fun j a b => ?_) (fun q3 => ?_) (fun q3 => ?_)
      · rw [d3] at b
        obtain ⟨t1, -⟩ := hS.1.2.1 j a b
        have o := (hS.2.2.2.1.2.1 j a b).1
        unfold cCOk
        rw [t1 1 (by decide) (by decide), t1 2 (by decide) (by decide)]
        exact ⟨o.1, o.2.1⟩
      · rw [d3] at q2
        refine am_ci ?_
        refine aw_zret dX8_sees_19 rfl (by omega) ?_
        exact kt q q2 (e.mp q3)
      · rw [d3] at q2
        refine am_ci ?_
        refine aw_zret dX8_sees_19 rfl (by omega) ?_
        exact kf q q2 (fun x => q3 (e.mpr x))
    · rw [d3] at q2
      exact am_cx rfl (k1 (fun x => q2 x.2))
  · rw [d2] at q
    exact am_cx rfl (k1 (fun x => q x.1))
