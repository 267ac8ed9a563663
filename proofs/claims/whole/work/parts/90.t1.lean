/-! the class: bytes that come in -/
def bW (v k : Int) : Int := i_and (i_shr v (24 - 8 * k)) 255
def bY (v : Int) : List Int := fl (bW v) 4 0
theorem by_n (v : Int) : (bY v).length ≤ 4 := fl_le _ 4 0
theorem bi5 {v : Int} {h : AH} {K : AO → Nat → AH → Prop} : ∀ (m : Nat) (k a : Int), k + m = 4 → 0 ≤ k → 0 ≤ a ∧ a ≤ k → K (.inl (some (0, a + (fl (bW v) m k).length))) 159 h → AW mX8_bytesIn 1 0 0 K 159 5 [(0, v), (0, a), (0, 24 - 8 * k)] [] h
  | 0, k, a, hk, k0, ha, kk => by
    have e : a + ((fl (bW v) 0 k).length : Int) = a := by show a + ((0 : Nat) : Int) = _; omega
    rw [e] at kk
    refine a_il2 dX8_bytesIn_5 ?_
    refine aw_if_lt 28 dX8_bytesIn_6 (by decide) (fun c6 => ?_) (fun c6 => ?_)
    · refine a_il1 dX8_bytesIn_28 ?_
      refine aw_iret dX8_bytesIn_29 rfl ?_
      exact kk
    · exfalso; omega
  | m + 1, k, a, hk, k0, ha, kk => by
    have e : fl (bW v) (m + 1) k = if bW v k = 0 then fl (bW v) m (k + 1) else bW v k :: fl (bW v) m (k + 1) := rfl
    have e8 : 24 - 8 * k + -8 = 24 - 8 * (k + 1) := by omega
    have eb : i_and (i_shr v (24 - 8 * k)) 255 = bW v k := rfl
    have hn := fl_le (bW v) m (k + 1)
    refine a_il2 dX8_bytesIn_5 ?_
    refine aw_if_lt 28 dX8_bytesIn_6 (by decide) (fun c6 => ?_) (fun c6 => ?_)
    · exfalso; omega
    · refine a_il0 dX8_bytesIn_9 ?_
      refine a_il2 dX8_bytesIn_10 ?_
      refine aw_ishr dX8_bytesIn_11 ?_
      refine aw_sipush dX8_bytesIn_12 (by decide) ?_
      refine aw_iand dX8_bytesIn_15 ?_
      refine aw_if_eq 22 dX8_bytesIn_16 (by decide) (fun c16 => ?_) (fun c16 => ?_)
      · rw [e, if_pos (by omega)] at kk
        refine a_iiR2 (by omega) rfl rfl dX8_bytesIn_22 ?_
        refine aw_goto 5 dX8_bytesIn_25 (by decide) ?_
        rw [e8]
        exact bi5 m (k + 1) a (by omega) (by omega) (by omega) kk
      · rw [e, if_neg (by omega), List.length_cons] at kk
        refine a_iiR1 (by omega) rfl rfl dX8_bytesIn_19 ?_
        refine a_iiR2 (by omega) rfl rfl dX8_bytesIn_22 ?_
        refine aw_goto 5 dX8_bytesIn_25 (by decide) ?_
        rw [e8]
        refine bi5 m (k + 1) (a + 1) (by omega) (by omega) (by omega) ?_
        rw [show a + 1 + ((fl (bW v) m (k + 1)).length : Int) = a + (((fl (bW v) m (k + 1)).length + 1 : Nat) : Int) by omega]
        exact kk
theorem ac_bytesIn {v : Int} {h : AH} {K : AO → Nat → AH → Prop} (k : K (.inl (some (0, ((bY v).length : Int)))) 159 h) : AC mX8_bytesIn 1 0 0 159 [(0, v)] h K := by
  refine ac_of (ls := [(0, v), (9, 0), (9, 0)]) pn_X8 rfl (Nat.le_of_ble_eq_true rfl) rfl ?_
  refine aw_iconst dX8_bytesIn_0 (by decide) ?_
  refine a_is1 rfl rfl dX8_bytesIn_1 ?_
  refine aw_bipush dX8_bytesIn_2 (by decide) ?_
  refine a_is2 rfl rfl dX8_bytesIn_4 ?_
  refine bi5 4 0 0 (by omega) (by omega) (by omega) ?_
  rw [Int.zero_add]
  exact k
theorem ab3 {v : Int} {K : AO → Nat → AH → Prop} : ∀ (m : Nat) (k : Int) (w : AV) (g : AH), k + m = 4 → 0 ≤ k → 0 ≤ g 2 1 → g 2 1 + (fl (bW v) m k).length ≤ 600 → am_n2 w = true → K (.inl none) 159 (pushL 3 2 1 g (fl (bW v) m k)) → AW mX5_addBytes 1 0 0 K 159 3 [(2, 2), (0, v), (0, 24 - 8 * k), w] [] g
  | 0, k, w, g, hk, k0, h9, hl, hw, kk => by
    refine a_il2 dX5_addBytes_3 ?_
    refine aw_if_lt 55 dX5_addBytes_4 (by decide) (fun c4 => ?_) (fun c4 => ?_)
    · refine aw_vret dX5_addBytes_55 rfl ?_
      exact kk
    · exfalso; omega
  | m + 1, k, w, g, hk, k0, h9, hl, hw, kk => by
    have e : fl (bW v) (m + 1) k = if bW v k = 0 then fl (bW v) m (k + 1) else bW v k :: fl (bW v) m (k + 1) := rfl
    have e8 : 24 - 8 * k + -8 = 24 - 8 * (k + 1) := by omega
    refine a_il2 dX5_addBytes_3 ?_
    refine aw_if_lt 55 dX5_addBytes_4 (by decide) (fun c4 => ?_) (fun c4 => ?_)
    · exfalso; omega
    · refine a_il1 dX5_addBytes_7 ?_
      refine a_il2 dX5_addBytes_8 ?_
      refine aw_ishr dX5_addBytes_9 ?_
      refine aw_sipush dX5_addBytes_10 (by decide) ?_
      refine aw_iand dX5_addBytes_13 ?_
      refine a_is3 rfl rfl dX5_addBytes_14 ?_
      refine a_il3 dX5_addBytes_15 ?_
      refine aw_if_eq 49 dX5_addBytes_16 (by decide) (fun c16 => ?_) (fun c16 => ?_)
      · rw [e, if_pos (by assumption)] at kk hl
        refine a_iiR2 (by omega) rfl rfl dX5_addBytes_49 ?_
        refine aw_goto 3 dX5_addBytes_52 (by decide) ?_
        rw [e8]
        exact ab3 m (k + 1) (0, bW v k) g (by omega) (by omega) h9 hl rfl kk
      · rw [e, if_neg (by assumption)] at kk hl
        rw [List.length_cons] at hl
        refine a_al0 (by decide) dX5_addBytes_19 ?_
        refine aw_get 1 dX5_addBytes_20 fl_X5_19 at_2 rfl ?_
        refine aw_sipush dX5_addBytes_23 (by decide) ?_
        refine aw_icmp_ge 49 dX5_addBytes_26 (by decide) (fun c26 => ?_) (fun c26 => ?_)
        · exfalso; omega
        · refine a_al0 (by decide) dX5_addBytes_29 ?_
          refine aw_getR (r := 3) 0 rfl dX5_addBytes_30 fl_X5_9 at_2 rfl rfl ?_
          refine a_al0 (by decide) dX5_addBytes_33 ?_
          refine aw_get 1 dX5_addBytes_34 fl_X5_19 at_2 rfl ?_
          refine a_il3 dX5_addBytes_37 ?_
          refine aw_iast dX5_addBytes_38 ar_3 (by omega) ?_
          refine a_al0 (by decide) dX5_addBytes_39 ?_
          refine aw_dup dX5_addBytes_40 rfl ?_
          refine aw_get 1 dX5_addBytes_41 fl_X5_19 at_2 rfl ?_
          try simp (disch := omega) only [up_at, up_ne]
          refine aw_iconst dX5_addBytes_44 (by decide) ?_
          refine aw_iaddR (by omega) dX5_addBytes_45 ?_
          refine aw_put 1 dX5_addBytes_46 fp_X5_19 at_2 rfl ?_
          refine a_iiR2 (by omega) rfl rfl dX5_addBytes_49 ?_
          refine aw_goto 3 dX5_addBytes_52 (by decide) ?_
          rw [e8]
          exact ab3 m (k + 1) (0, bW v k) (push 3 2 1 g (bW v k)) (by omega) (by omega) (by rw [push_n]; omega) (by rw [push_n]; omega) rfl kk
theorem ac_addBytes {v : Int} {h : AH} {K : AO → Nat → AH → Prop} (h9 : 0 ≤ h 2 1) (hl : h 2 1 + (bY v).length ≤ 600) (k : K (.inl none) 159 (pushL 3 2 1 h (bY v))) : AC mX5_addBytes 1 0 0 159 [(2, 2), (0, v)] h K := by
  refine ac_of (ls := [(2, 2), (0, v), (9, 0), (9, 0)]) pn_X5 rfl (Nat.le_of_ble_eq_true rfl) rfl ?_
  refine aw_bipush dX5_addBytes_0 (by decide) ?_
  refine a_is2 rfl rfl dX5_addBytes_2 ?_
  exact ab3 4 0 (9, 0) h (by omega) (by omega) h9 hl rfl k
theorem fl_add (f : Int → Int) : ∀ (m n : Nat) (k : Int), fl f (m + n) k = fl f m k ++ fl f n (k + m)
  | 0, n, k => by
    rw [Nat.zero_add, show k + ((0 : Nat) : Int) = k by omega]
    rfl
  | m + 1, n, k => by
    have ih := fl_add f m n (k + 1)
    rw [show k + 1 + (m : Int) = k + ((m + 1 : Nat) : Int) by omega] at ih
    rw [show m + 1 + n = (m + n) + 1 by omega]
    show (if f k = 0 then fl f (m + n) (k + 1) else f k :: fl f (m + n) (k + 1)) = (if f k = 0 then fl f m (k + 1) else f k :: fl f m (k + 1)) ++ _
    rw [ih]
    by_cases z : f k = 0
    · rw [if_pos z, if_pos z]
    · rw [if_neg z, if_neg z]
      rfl
theorem fl_eq {f g : Int → Int} : ∀ (m : Nat) (k l : Int), (∀ i : Int, 0 ≤ i → i < m → f (k + i) = g (l + i)) → fl f m k = fl g m l
  | 0, _, _, _ => rfl
  | m + 1, k, l, e => by
    have e0 := e 0 (by omega) (by omega)
    rw [Int.add_zero, Int.add_zero] at e0
    show (if f k = 0 then fl f m (k + 1) else f k :: fl f m (k + 1)) = if g l = 0 then fl g m (l + 1) else g l :: fl g m (l + 1)
    rw [e0, fl_eq m (k + 1) (l + 1) (fun i a c => by
      have := e (i + 1) (by omega) (by omega)
      rw [show k + (i + 1) = k + 1 + i by omega, show l + (i + 1) = l + 1 + i by omega] at this
      exact this)]
def bL (v0 v1 v2 v3 v4 : Int) : List Int := bY v0 ++ (bY v1 ++ (bY v2 ++ (bY v3 ++ bY v4)))
theorem bL_eq (v0 v1 v2 v3 v4 : Int) : fl (bOf v0 v1 v2 v3 v4) 20 0 = bL v0 v1 v2 v3 v4 := by
  have a := fl_add (bOf v0 v1 v2 v3 v4) 4 16 0
  have b := fl_add (bOf v0 v1 v2 v3 v4) 4 12 (0 + ((4 : Nat) : Int))
  have c := fl_add (bOf v0 v1 v2 v3 v4) 4 8 (0 + ((4 : Nat) : Int) + ((4 : Nat) : Int))
  have d := fl_add (bOf v0 v1 v2 v3 v4) 4 4 (0 + ((4 : Nat) : Int) + ((4 : Nat) : Int) + ((4 : Nat) : Int))
  rw [d] at c
  rw [c] at b
  rw [b] at a
  rw [a]
  unfold bL bY
  have e0 : fl (bOf v0 v1 v2 v3 v4) 4 0 = fl (bW v0) 4 0 := fl_eq 4 _ _ (fun i i0 i1 => by
    unfold bOf bW
    rw [if_pos (by omega), show (0 + i) % 4 = 0 + i by omega])
  have e1 : fl (bOf v0 v1 v2 v3 v4) 4 (0 + ((4 : Nat) : Int)) = fl (bW v1) 4 0 := fl_eq 4 _ _ (fun i i0 i1 => by
    unfold bOf bW
    rw [if_neg (by omega), if_pos (by omega), show (0 + ((4 : Nat) : Int) + i) % 4 = 0 + i by omega])
  have e2 : fl (bOf v0 v1 v2 v3 v4) 4 (0 + ((4 : Nat) : Int) + ((4 : Nat) : Int)) = fl (bW v2) 4 0 := fl_eq 4 _ _ (fun i i0 i1 => by
    unfold bOf bW
    rw [if_neg (by omega), if_neg (by omega), if_pos (by omega), show (0 + ((4 : Nat) : Int) + ((4 : Nat) : Int) + i) % 4 = 0 + i by omega])
  have e3 : fl (bOf v0 v1 v2 v3 v4) 4 (0 + ((4 : Nat) : Int) + ((4 : Nat) : Int) + ((4 : Nat) : Int)) = fl (bW v3) 4 0 := fl_eq 4 _ _ (fun i i0 i1 => by
    unfold bOf bW
    rw [if_neg (by omega), if_neg (by omega), if_neg (by omega), if_pos (by omega), show (0 + ((4 : Nat) : Int) + ((4 : Nat) : Int) + ((4 : Nat) : Int) + i) % 4 = 0 + i by omega])
  have e4 : fl (bOf v0 v1 v2 v3 v4) 4 (0 + ((4 : Nat) : Int) + ((4 : Nat) : Int) + ((4 : Nat) : Int) + ((4 : Nat) : Int)) = fl (bW v4) 4 0 := fl_eq 4 _ _ (fun i i0 i1 => by
    unfold bOf bW
    rw [if_neg (by omega), if_neg (by omega), if_neg (by omega), if_neg (by omega), show (0 + ((4 : Nat) : Int) + ((4 : Nat) : Int) + ((4 : Nat) : Int) + ((4 : Nat) : Int) + i) % 4 = 0 + i by omega])
  rw [e0, e1, e2, e3, e4]
theorem bL_n (v0 v1 v2 v3 v4 : Int) : (bL v0 v1 v2 v3 v4).length = (bY v0).length + (bY v1).length + (bY v2).length + (bY v3).length + (bY v4).length := by
  unfold bL
  rw [List.length_append, List.length_append, List.length_append, List.length_append]
  omega
theorem cx_append {v0 v1 v2 v3 v4 : Int} {h : AH} {K : AO → Nat → AH → Prop} (h9 : 0 ≤ h 2 1 ∧ h 2 1 ≤ 600) (k1 : ¬ h 2 1 + (bL v0 v1 v2 v3 v4).length ≤ 600 → K (.inr xS) 159 h) (k0 : h 2 1 + (bL v0 v1 v2 v3 v4).length ≤ 600 → K (.inl (some (0, h 2 1 + (bL v0 v1 v2 v3 v4).length))) 159 (pushL 3 2 1 h (bL v0 v1 v2 v3 v4))) : AC mX8_append 6 1 6 159 [(2, 0), (0, v0), (0, v1), (0, v2), (0, v3), (0, v4)] h K := by
  have n := bL_n v0 v1 v2 v3 v4
  have n0 := by_n v0
  have n1 := by_n v1
  have n2 := by_n v2
  have n3 := by_n v3
  have n4 := by_n v4
  refine ac_of (ls := [(2, 0), (0, v0), (0, v1), (0, v2), (0, v3), (0, v4), (9, 0)]) pn_X8 rfl (Nat.le_of_ble_eq_true rfl) rfl ?_
  refine a_il1 dX8_append_0 ?_
  refine aw_callS 1 0 0 dX8_append_1 yw_X8_bytesIn ml_X8_78 sm_X8_bytesIn (as := [_]) rfl rfl ⟨by decide, by decide, by decide, Nat.le_of_ble_eq_true rfl⟩ ?_
  refine ac_bytesIn ?_
  refine am_ci ?_
  refine a_il2 dX8_append_4 ?_
  refine aw_callS 1 0 0 dX8_append_5 yw_X8_bytesIn ml_X8_78 sm_X8_bytesIn (as := [_]) rfl rfl ⟨by decide, by decide, by decide, Nat.le_of_ble_eq_true rfl⟩ ?_
  refine ac_bytesIn ?_
  refine am_ci ?_
  refine aw_iaddR (by omega) dX8_append_8 ?_
  refine a_il3 dX8_append_9 ?_
  refine aw_callS 1 0 0 dX8_append_10 yw_X8_bytesIn ml_X8_78 sm_X8_bytesIn (as := [_]) rfl rfl ⟨by decide, by decide, by decide, Nat.le_of_ble_eq_true rfl⟩ ?_
  refine ac_bytesIn ?_
  refine am_ci ?_
  refine aw_iaddR (by omega) dX8_append_13 ?_
  refine a_il4 dX8_append_14 ?_
  refine aw_callS 1 0 0 dX8_append_16 yw_X8_bytesIn ml_X8_78 sm_X8_bytesIn (as := [_]) rfl rfl ⟨by decide, by decide, by decide, Nat.le_of_ble_eq_true rfl⟩ ?_
  refine ac_bytesIn ?_
  refine am_ci ?_
  refine aw_iaddR (by omega) dX8_append_19 ?_
  refine a_il5 dX8_append_20 ?_
  refine aw_callS 1 0 0 dX8_append_22 yw_X8_bytesIn ml_X8_78 sm_X8_bytesIn (as := [_]) rfl rfl ⟨by decide, by decide, by decide, Nat.le_of_ble_eq_true rfl⟩ ?_
  refine ac_bytesIn ?_
  refine am_ci ?_
  refine aw_iaddR (by omega) dX8_append_25 ?_
  refine a_is6 rfl rfl dX8_append_26 ?_
  refine a_al0 (by decide) dX8_append_28 ?_
  refine aw_getR (r := 2) 1 rfl dX8_append_29 fl_X8_20 at_0 rfl rfl ?_
  refine aw_get 1 dX8_append_32 fl_X8_82 at_2 rfl ?_
  refine a_il6 dX8_append_35 ?_
  refine aw_iaddR (by omega) dX8_append_37 ?_
  refine aw_sipush dX8_append_38 (by decide) ?_
  refine aw_icmp_le 54 dX8_append_41 (by decide) (fun c41 => ?_) (fun c41 => ?_)
  · have k9 := k0 (by omega)
    unfold bL at k9
    rw [pushL_app, pushL_app, pushL_app, pushL_app] at k9
    refine a_al0 (by decide) dX8_append_54 ?_
    refine aw_getR (r := 2) 1 rfl dX8_append_55 fl_X8_20 at_0 rfl rfl ?_
    refine a_il1 dX8_append_58 ?_
    refine aw_callV 1 0 0 dX8_append_59 yw_X5_addBytes ml_X8_94 in_X5_addBytes se_X5_addBytes (ci := 4) rfl at_2 (as := [_]) rfl rfl ⟨by decide, by decide, by decide, Nat.le_of_ble_eq_true rfl⟩ ?_
    refine ac_addBytes h9.1 (by omega) ?_
    refine am_cv ?_
    refine a_al0 (by decide) dX8_append_62 ?_
    refine aw_getR (r := 2) 1 rfl dX8_append_63 fl_X8_20 at_0 rfl rfl ?_
    try simp (disch := omega) only [up_at, up_ne]
    refine a_il2 dX8_append_66 ?_
    refine aw_callV 1 0 0 dX8_append_67 yw_X5_addBytes ml_X8_94 in_X5_addBytes se_X5_addBytes (ci := 4) rfl at_2 (as := [_]) rfl rfl ⟨by decide, by decide, by decide, Nat.le_of_ble_eq_true rfl⟩ ?_
    refine ac_addBytes (by rw [pushL_n]; omega) (by rw [pushL_n]; omega) ?_
    refine am_cv ?_
    refine a_al0 (by decide) dX8_append_70 ?_
    refine aw_getR (r := 2) 1 rfl dX8_append_71 fl_X8_20 at_0 rfl rfl ?_
    try simp (disch := omega) only [up_at, up_ne]
    refine a_il3 dX8_append_74 ?_
    refine aw_callV 1 0 0 dX8_append_75 yw_X5_addBytes ml_X8_94 in_X5_addBytes se_X5_addBytes (ci := 4) rfl at_2 (as := [_]) rfl rfl ⟨by decide, by decide, by decide, Nat.le_of_ble_eq_true rfl⟩ ?_
    refine ac_addBytes (by rw [pushL_n, pushL_n]; omega) (by rw [pushL_n, pushL_n]; omega) ?_
    refine am_cv ?_
    refine a_al0 (by decide) dX8_append_78 ?_
    refine aw_getR (r := 2) 1 rfl dX8_append_79 fl_X8_20 at_0 rfl rfl ?_
    try simp (disch := omega) only [up_at, up_ne]
    refine a_il4 dX8_append_82 ?_
    refine aw_callV 1 0 0 dX8_append_84 yw_X5_addBytes ml_X8_94 in_X5_addBytes se_X5_addBytes (ci := 4) rfl at_2 (as := [_]) rfl rfl ⟨by decide, by decide, by decide, Nat.le_of_ble_eq_true rfl⟩ ?_
    refine ac_addBytes (by rw [pushL_n, pushL_n, pushL_n]; omega) (by rw [pushL_n, pushL_n, pushL_n]; omega) ?_
    refine am_cv ?_
    refine a_al0 (by decide) dX8_append_87 ?_
    refine aw_getR (r := 2) 1 rfl dX8_append_88 fl_X8_20 at_0 rfl rfl ?_
    try simp (disch := omega) only [up_at, up_ne]
    refine a_il5 dX8_append_91 ?_
    refine aw_callV 1 0 0 dX8_append_93 yw_X5_addBytes ml_X8_94 in_X5_addBytes se_X5_addBytes (ci := 4) rfl at_2 (as := [_]) rfl rfl ⟨by decide, by decide, by decide, Nat.le_of_ble_eq_true rfl⟩ ?_
    refine ac_addBytes (by rw [pushL_n, pushL_n, pushL_n, pushL_n]; omega) (by rw [pushL_n, pushL_n, pushL_n, pushL_n]; omega) ?_
    refine am_cv ?_
    refine a_al0 (by decide) dX8_append_96 ?_
    refine aw_getR (r := 2) 1 rfl dX8_append_97 fl_X8_20 at_0 rfl rfl ?_
    try simp (disch := omega) only [up_at, up_ne]
    refine aw_get 1 dX8_append_100 fl_X8_82 at_2 rfl ?_
    try simp (disch := omega) only [up_at, up_ne]
    refine aw_iret dX8_append_103 rfl ?_
    rw [pushL_n, pushL_n, pushL_n, pushL_n, pushL_n]
    rw [← pushL_app, ← pushL_app, ← pushL_app, ← pushL_app] at k9
    rw [show (h 2 1 + ((bY v0 ++ (bY v1 ++ (bY v2 ++ (bY v3 ++ bY v4)))).length : Int)) = h 2 1 + (bY v0).length + (bY v1).length + (bY v2).length + (bY v3).length + (bY v4).length by
      have := bL_n v0 v1 v2 v3 v4
      unfold bL at this
      omega] at k9
    rw [pushL_app, pushL_app, pushL_app, pushL_app] at k9
    exact k9
  · refine aw_throw (i := 9) rfl rfl dX8_append_44 dX8_append_47 dX8_append_48 dX8_append_50 dX8_append_53 tw_IllegalStateException rfl ⟨rfl, rfl⟩ ⟨by decide, by decide, by decide, rfl⟩ ?_
    exact k1 (by omega)
theorem cx_errorPosition {h : AH} {K : AO → Nat → AH → Prop} (k : K (.inl (some (0, h 2 3))) 159 h) : AC mX8_errorPosition 2 0 0 159 [(2, 0)] h K := by
  refine ac_of (ls := [(2, 0)]) pn_X8 rfl (Nat.le_of_ble_eq_true rfl) rfl ?_
  refine a_al0 (by decide) dX8_errorPosition_0 ?_
  refine aw_getR (r := 2) 1 rfl dX8_errorPosition_1 fl_X8_20 at_0 rfl rfl ?_
  refine aw_get 3 dX8_errorPosition_4 fl_X8_114 at_2 rfl ?_
  refine aw_iret dX8_errorPosition_7 rfl ?_
  exact k
theorem cx_writtenByte {i : Int} {h : AH} {K : AO → Nat → AH → Prop} (hw : 0 ≤ h 138 1 ∧ h 138 1 ≤ 240) (k1 : ¬ (0 ≤ i ∧ i < h 138 1) → K (.inr xI) 159 h) (k0 : 0 ≤ i ∧ i < h 138 1 → K (.inl (some (0, h 139 i))) 159 h) : AC mX8_writtenByte 6 1 6 159 [(2, 0), (0, i)] h K := by
  refine ac_of (ls := [(2, 0), (0, i)]) pn_X8 rfl (Nat.le_of_ble_eq_true rfl) rfl ?_
  refine a_il1 dX8_writtenByte_0 ?_
  refine aw_if_lt 15 dX8_writtenByte_1 (by decide) (fun c1 => ?_) (fun c1 => ?_)
  · refine aw_throwW (i := 34) rfl rfl dX8_writtenByte_15 dX8_writtenByte_18 dX8_writtenByte_19 dX8_writtenByte_22 dX8_writtenByte_25 tw_IndexOutOfBoundsException rfl ⟨rfl, rfl⟩ ⟨by decide, by decide, by decide, rfl⟩ ?_
    exact k1 (by omega)
  · refine a_il1 dX8_writtenByte_4 ?_
    refine a_al0 (by decide) dX8_writtenByte_5 ?_
    refine aw_getR (r := 138) 8 rfl dX8_writtenByte_6 fl_X8_61 at_0 rfl rfl ?_
    refine aw_get 1 dX8_writtenByte_9 fl_X8_336 at_138 rfl ?_
    refine aw_icmp_lt 26 dX8_writtenByte_12 (by decide) (fun c12 => ?_) (fun c12 => ?_)
    · refine a_al0 (by decide) dX8_writtenByte_26 ?_
      refine aw_getR (r := 138) 8 rfl dX8_writtenByte_27 fl_X8_61 at_0 rfl rfl ?_
      refine aw_getR (r := 139) 0 rfl dX8_writtenByte_30 fl_X8_342 at_138 rfl rfl ?_
      refine a_il1 dX8_writtenByte_33 ?_
      refine aw_iald dX8_writtenByte_34 ar_139 (by omega) ?_
      refine aw_iret dX8_writtenByte_35 rfl ?_
      exact k0 (by omega)
    · refine aw_throwW (i := 34) rfl rfl dX8_writtenByte_15 dX8_writtenByte_18 dX8_writtenByte_19 dX8_writtenByte_22 dX8_writtenByte_25 tw_IndexOutOfBoundsException rfl ⟨rfl, rfl⟩ ⟨by decide, by decide, by decide, rfl⟩ ?_
      exact k1 (by omega)
