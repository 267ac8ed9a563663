/-! the model: bytes that come in -/
/-- those of f k, f (k + 1), .. that aren't 0 -/
def fl (f : Int → Int) : Nat → Int → List Int
  | 0, _ => []
  | m + 1, k => if f k = 0 then fl f m (k + 1) else f k :: fl f m (k + 1)
theorem fl_le (f : Int → Int) : ∀ (m : Nat) (k : Int), (fl f m k).length ≤ m
  | 0, k => Nat.le_refl _
  | m + 1, k => by
    show (if f k = 0 then fl f m (k + 1) else f k :: fl f m (k + 1)).length ≤ m + 1
    have ih := fl_le f m (k + 1)
    split
    · omega
    · show (fl f m (k + 1)).length + 1 ≤ m + 1
      omega
def bOf (v0 v1 v2 v3 v4 k : Int) : Int := i_and (i_shr (if k < 4 then v0 else if k < 8 then v1 else if k < 12 then v2 else if k < 16 then v3 else v4) (24 - 8 * (k % 4))) 255
theorem bo42 {v0 v1 v2 v3 v4 x k : Int} {h : AH} {K : AO → Nat → AH → Prop} (hk : 0 ≤ k ∧ k ≤ 19) (kk : K (.inl (some (0, i_and (i_shr x (24 - 8 * (k % 4))) 255))) 159 h) : AW mX9_byteOf 1 0 0 K 159 42 [(0, k), (0, v0), (0, v1), (0, v2), (0, v3), (0, v4), (9, 0)] [(0, x)] h := by
  refine a_is6 rfl rfl dX9_byteOf_42 ?_
  refine a_il6 dX9_byteOf_44 ?_
  refine aw_bipush dX9_byteOf_46 (by decide) ?_
  refine aw_bipush dX9_byteOf_48 (by decide) ?_
  refine a_il0 dX9_byteOf_50 ?_
  refine aw_iconst dX9_byteOf_51 (by decide) ?_
  refine aw_irem dX9_byteOf_52 (by omega) ?_
  rw [Int.tmod_eq_emod_of_nonneg hk.1]
  refine aw_imulR (by omega) dX9_byteOf_53 ?_
  refine aw_isubR (by omega) dX9_byteOf_54 ?_
  refine aw_ishr dX9_byteOf_55 ?_
  refine aw_sipush dX9_byteOf_56 (by decide) ?_
  refine aw_iand dX9_byteOf_59 ?_
  refine aw_iret dX9_byteOf_60 rfl ?_
  exact kk
theorem ac_byteOf {v0 v1 v2 v3 v4 k : Int} {h : AH} {K : AO → Nat → AH → Prop} (hk : 0 ≤ k ∧ k ≤ 19) (kk : K (.inl (some (0, bOf v0 v1 v2 v3 v4 k))) 159 h) : AC mX9_byteOf 1 0 0 159 [(0, k), (0, v0), (0, v1), (0, v2), (0, v3), (0, v4)] h K := by
  unfold bOf at kk
  refine ac_of (ls := [(0, k), (0, v0), (0, v1), (0, v2), (0, v3), (0, v4), (9, 0)]) pn_X9 rfl (Nat.le_of_ble_eq_true rfl) rfl ?_
  refine a_il0 dX9_byteOf_0 ?_
  refine aw_iconst dX9_byteOf_1 (by decide) ?_
  refine aw_icmp_ge 9 dX9_byteOf_2 (by decide) (fun c2 => ?_) (fun c2 => ?_)
  · rw [if_neg (by omega)] at kk
    refine a_il0 dX9_byteOf_9 ?_
    refine aw_bipush dX9_byteOf_10 (by decide) ?_
    refine aw_icmp_ge 19 dX9_byteOf_12 (by decide) (fun c12 => ?_) (fun c12 => ?_)
    · rw [if_neg (by omega)] at kk
      refine a_il0 dX9_byteOf_19 ?_
      refine aw_bipush dX9_byteOf_20 (by decide) ?_
      refine aw_icmp_ge 29 dX9_byteOf_22 (by decide) (fun c22 => ?_) (fun c22 => ?_)
      · rw [if_neg (by omega)] at kk
        refine a_il0 dX9_byteOf_29 ?_
        refine aw_bipush dX9_byteOf_30 (by decide) ?_
        refine aw_icmp_ge 40 dX9_byteOf_32 (by decide) (fun c32 => ?_) (fun c32 => ?_)
        · rw [if_neg (by omega)] at kk
          refine a_il5 dX9_byteOf_40 ?_
          exact bo42 hk kk
        · rw [if_pos (by omega)] at kk
          refine a_il4 dX9_byteOf_35 ?_
          refine aw_goto 42 dX9_byteOf_37 (by decide) ?_
          exact bo42 hk kk
      · rw [if_pos (by omega)] at kk
        refine a_il3 dX9_byteOf_25 ?_
        refine aw_goto 42 dX9_byteOf_26 (by decide) ?_
        exact bo42 hk kk
    · rw [if_pos (by omega)] at kk
      refine a_il2 dX9_byteOf_15 ?_
      refine aw_goto 42 dX9_byteOf_16 (by decide) ?_
      exact bo42 hk kk
  · rw [if_pos (by omega)] at kk
    refine a_il1 dX9_byteOf_5 ?_
    refine aw_goto 42 dX9_byteOf_6 (by decide) ?_
    exact bo42 hk kk
abbrev putL : AH → List Int → AH := pushL 147 140 9
theorem put_n (h : AH) (c : Int) : push 147 140 9 h c 140 9 = h 140 9 + 1 := push_n h c
theorem ap78 {v0 v1 v2 v3 v4 a : Int} {K : AO → Nat → AH → Prop} : ∀ (m : Nat) (k : Int) (w : AV) (g : AH), k + m = 20 → 0 ≤ k → 0 ≤ g 140 9 → g 140 9 + (fl (bOf v0 v1 v2 v3 v4) m k).length ≤ 600 → am_n2 w = true → K (.inl (some (0, g 140 9 + (fl (bOf v0 v1 v2 v3 v4) m k).length))) 159 (putL g (fl (bOf v0 v1 v2 v3 v4) m k)) → AW mX9_append 2 0 0 K 159 78 [(2, 140), (0, v0), (0, v1), (0, v2), (0, v3), (0, v4), (0, a), (0, k), w] [] g
  | 0, k, w, g, hk, k0, h9, hl, hw, kk => by
    refine a_il7 dX9_append_78 ?_
    refine aw_bipush dX9_append_80 (by decide) ?_
    refine aw_icmp_ge 134 dX9_append_82 (by decide) (fun c82 => ?_) (fun c82 => ?_)
    · refine a_al0 (by decide) dX9_append_134 ?_
      refine aw_get 9 dX9_append_135 fl_X9_88 at_140 rfl ?_
      refine aw_iret dX9_append_138 rfl ?_
      have e : g 140 9 + ((fl (bOf v0 v1 v2 v3 v4) 0 k).length : Int) = g 140 9 := by show g 140 9 + ((0 : Nat) : Int) = _; omega
      rw [e] at kk
      exact kk
    · exfalso; omega
  | m + 1, k, w, g, hk, k0, h9, hl, hw, kk => by
    have e : fl (bOf v0 v1 v2 v3 v4) (m + 1) k = if bOf v0 v1 v2 v3 v4 k = 0 then fl (bOf v0 v1 v2 v3 v4) m (k + 1) else bOf v0 v1 v2 v3 v4 k :: fl (bOf v0 v1 v2 v3 v4) m (k + 1) := rfl
    refine a_il7 dX9_append_78 ?_
    refine aw_bipush dX9_append_80 (by decide) ?_
    refine aw_icmp_ge 134 dX9_append_82 (by decide) (fun c82 => ?_) (fun c82 => ?_)
    · exfalso; omega
    · refine a_il7 dX9_append_85 ?_
      refine a_il1 dX9_append_87 ?_
      refine a_il2 dX9_append_88 ?_
      refine a_il3 dX9_append_89 ?_
      refine a_il4 dX9_append_90 ?_
      refine a_il5 dX9_append_92 ?_
      refine aw_callS 1 0 0 dX9_append_94 yw_X9_byteOf ml_X9_84 sm_X9_byteOf (as := [_, _, _, _, _, _]) rfl rfl ⟨by decide, by decide, by decide, Nat.le_of_ble_eq_true rfl⟩ ?_
      refine ac_byteOf ⟨k0, by omega⟩ ?_
      refine am_ci ?_
      refine a_is8 rfl rfl dX9_append_97 ?_
      refine a_il8 dX9_append_99 ?_
      refine aw_if_ne 107 dX9_append_101 (by decide) (fun c101 => ?_) (fun c101 => ?_)
      · rw [e, if_neg (by omega), List.length_cons] at kk hl
        have hl2 : g 140 9 + 1 + ((fl (bOf v0 v1 v2 v3 v4) m (k + 1)).length : Int) ≤ 600 := by omega
        have h599 : g 140 9 ≤ 599 := by omega
        refine a_al0 (by decide) dX9_append_107 ?_
        refine aw_getR (r := 147) 8 rfl dX9_append_108 fl_X9_29 at_140 rfl rfl ?_
        refine a_al0 (by decide) dX9_append_111 ?_
        refine aw_get 9 dX9_append_112 fl_X9_88 at_140 rfl ?_
        refine a_il8 dX9_append_115 ?_
        refine aw_iast dX9_append_117 ar_147 (by omega) ?_
        refine a_al0 (by decide) dX9_append_118 ?_
        refine aw_dup dX9_append_119 rfl ?_
        refine aw_get 9 dX9_append_120 fl_X9_88 at_140 rfl ?_
        try simp (disch := omega) only [up_at, up_ne]
        refine aw_iconst dX9_append_123 (by decide) ?_
        refine aw_iaddR (by omega) dX9_append_124 ?_
        refine aw_put 9 dX9_append_125 fp_X9_88 at_140 rfl ?_
        refine a_iiR7 (by omega) rfl rfl dX9_append_128 ?_
        refine aw_goto 78 dX9_append_131 (by decide) ?_
        refine ap78 m (k + 1) (0, bOf v0 v1 v2 v3 v4 k) (push 147 140 9 g (bOf v0 v1 v2 v3 v4 k)) (by omega) (by omega) (by rw [put_n]; omega) (by rw [put_n]; omega) rfl ?_
        rw [put_n, show g 140 9 + 1 + ((fl (bOf v0 v1 v2 v3 v4) m (k + 1)).length : Int) = g 140 9 + (((fl (bOf v0 v1 v2 v3 v4) m (k + 1)).length + 1 : Nat) : Int) by omega]
        exact kk
      · rw [e, if_pos (by omega)] at kk hl
        refine aw_goto 128 dX9_append_104 (by decide) ?_
        refine a_iiR7 (by omega) rfl rfl dX9_append_128 ?_
        refine aw_goto 78 dX9_append_131 (by decide) ?_
        exact ap78 m (k + 1) (0, bOf v0 v1 v2 v3 v4 k) g (by omega) (by omega) h9 hl rfl kk
theorem ap6 {v0 v1 v2 v3 v4 : Int} {g : AH} {K : AO → Nat → AH → Prop} : ∀ (m : Nat) (k a : Int), k + m = 20 → 0 ≤ k → 0 ≤ a ∧ a ≤ k → AW mX9_append 2 0 0 K 159 44 [(2, 140), (0, v0), (0, v1), (0, v2), (0, v3), (0, v4), (0, a + (fl (bOf v0 v1 v2 v3 v4) m k).length), (0, 20), (9, 0)] [] g → AW mX9_append 2 0 0 K 159 6 [(2, 140), (0, v0), (0, v1), (0, v2), (0, v3), (0, v4), (0, a), (0, k), (9, 0)] [] g
  | 0, k, a, hk, k0, ha, kk => by
    refine a_il7 dX9_append_6 ?_
    refine aw_bipush dX9_append_8 (by decide) ?_
    refine aw_icmp_ge 44 dX9_append_10 (by decide) (fun c10 => ?_) (fun c10 => ?_)
    · skip
      have e : a + ((fl (bOf v0 v1 v2 v3 v4) 0 k).length : Int) = a := by show a + ((0 : Nat) : Int) = _; omega
      rw [e] at kk
      rw [show k = 20 by omega]
      exact kk
    · exfalso; omega
  | m + 1, k, a, hk, k0, ha, kk => by
    have e : fl (bOf v0 v1 v2 v3 v4) (m + 1) k = if bOf v0 v1 v2 v3 v4 k = 0 then fl (bOf v0 v1 v2 v3 v4) m (k + 1) else bOf v0 v1 v2 v3 v4 k :: fl (bOf v0 v1 v2 v3 v4) m (k + 1) := rfl
    refine a_il7 dX9_append_6 ?_
    refine aw_bipush dX9_append_8 (by decide) ?_
    refine aw_icmp_ge 44 dX9_append_10 (by decide) (fun c10 => ?_) (fun c10 => ?_)
    · exfalso; omega
    · refine a_il6 dX9_append_13 ?_
      refine a_il7 dX9_append_15 ?_
      refine a_il1 dX9_append_17 ?_
      refine a_il2 dX9_append_18 ?_
      refine a_il3 dX9_append_19 ?_
      refine a_il4 dX9_append_20 ?_
      refine a_il5 dX9_append_22 ?_
      refine aw_callS 1 0 0 dX9_append_24 yw_X9_byteOf ml_X9_84 sm_X9_byteOf (as := [_, _, _, _, _, _]) rfl rfl ⟨by decide, by decide, by decide, Nat.le_of_ble_eq_true rfl⟩ ?_
      refine ac_byteOf ⟨k0, by omega⟩ ?_
      refine am_ci ?_
      refine aw_if_ne 34 dX9_append_27 (by decide) (fun c27 => ?_) (fun c27 => ?_)
      · rw [e, if_neg (by omega), List.length_cons] at kk
        refine aw_iconst dX9_append_34 (by decide) ?_
        refine aw_iaddR (by omega) dX9_append_35 ?_
        refine a_is6 rfl rfl dX9_append_36 ?_
        refine a_iiR7 (by omega) rfl rfl dX9_append_38 ?_
        refine aw_goto 6 dX9_append_41 (by decide) ?_
        refine ap6 m (k + 1) (a + 1) (by omega) (by omega) (by omega) ?_
        rw [show a + 1 + ((fl (bOf v0 v1 v2 v3 v4) m (k + 1)).length : Int) = a + (((fl (bOf v0 v1 v2 v3 v4) m (k + 1)).length + 1 : Nat) : Int) by omega]
        exact kk
      · rw [e, if_pos (by omega)] at kk
        refine aw_iconst dX9_append_30 (by decide) ?_
        refine aw_goto 35 dX9_append_31 (by decide) ?_
        refine aw_iaddR (by omega) dX9_append_35 ?_
        refine a_is6 rfl rfl dX9_append_36 ?_
        refine a_iiR7 (by omega) rfl rfl dX9_append_38 ?_
        refine aw_goto 6 dX9_append_41 (by decide) ?_
        refine ap6 m (k + 1) (a + 0) (by omega) (by omega) (by omega) ?_
        rw [Int.add_zero]
        exact kk
theorem ac_append {v0 v1 v2 v3 v4 : Int} {h : AH} {K : AO → Nat → AH → Prop} (h9 : 0 ≤ h 140 9 ∧ h 140 9 ≤ 600) (k1 : ¬ h 140 9 + (fl (bOf v0 v1 v2 v3 v4) 20 0).length ≤ 600 → K (.inl (some (0, 0))) 159 (up h 140 7 1)) (k0 : h 140 9 + (fl (bOf v0 v1 v2 v3 v4) 20 0).length ≤ 600 → K (.inl (some (0, h 140 9 + (fl (bOf v0 v1 v2 v3 v4) 20 0).length))) 159 (putL (up h 140 7 0) (fl (bOf v0 v1 v2 v3 v4) 20 0))) : AC mX9_append 2 0 0 159 [(2, 140), (0, v0), (0, v1), (0, v2), (0, v3), (0, v4)] h K := by
  have hl := fl_le (bOf v0 v1 v2 v3 v4) 20 0
  have e9 : up h 140 7 0 140 9 = h 140 9 := up_ne (by omega)
  refine ac_of (ls := [(2, 140), (0, v0), (0, v1), (0, v2), (0, v3), (0, v4), (9, 0), (9, 0), (9, 0)]) pn_X9 rfl (Nat.le_of_ble_eq_true rfl) rfl ?_
  refine aw_iconst dX9_append_0 (by decide) ?_
  refine a_is6 rfl rfl dX9_append_1 ?_
  refine aw_iconst dX9_append_3 (by decide) ?_
  refine a_is7 rfl rfl dX9_append_4 ?_
  refine ap6 20 0 0 (by omega) (by omega) (by omega) ?_
  rw [Int.zero_add]
  refine a_al0 (by decide) dX9_append_44 ?_
  refine a_al0 (by decide) dX9_append_45 ?_
  refine aw_get 9 dX9_append_46 fl_X9_88 at_140 rfl ?_
  refine a_il6 dX9_append_49 ?_
  refine aw_iaddR (by omega) dX9_append_51 ?_
  refine aw_sipush dX9_append_52 (by decide) ?_
  refine aw_icmp_le 62 dX9_append_55 (by decide) (fun c55 => ?_) (fun c55 => ?_)
  · have k9 := k0 (by omega)
    rw [← e9] at k9
    refine aw_iconst dX9_append_62 (by decide) ?_
    refine aw_put 7 dX9_append_63 fp_X9_66 at_140 rfl ?_
    refine a_al0 (by decide) dX9_append_66 ?_
    refine aw_get 7 dX9_append_67 fl_X9_66 at_140 rfl ?_
    try simp (disch := omega) only [up_at, up_ne]
    refine aw_if_le_y 75 dX9_append_70 (by decide) (by decide) ?_
    refine aw_iconst dX9_append_75 (by decide) ?_
    refine a_is7 rfl rfl dX9_append_76 ?_
    exact ap78 20 0 (9, 0) (up h 140 7 0) (by omega) (by omega) (by omega) (by omega) rfl k9
  · refine aw_iconst dX9_append_58 (by decide) ?_
    refine aw_goto 63 dX9_append_59 (by decide) ?_
    refine aw_put 7 dX9_append_63 fp_X9_66 at_140 rfl ?_
    refine a_al0 (by decide) dX9_append_66 ?_
    refine aw_get 7 dX9_append_67 fl_X9_66 at_140 rfl ?_
    try simp (disch := omega) only [up_at, up_ne]
    refine aw_if_le_n 75 dX9_append_70 (by decide) (by decide) ?_
    refine aw_iconst dX9_append_73 (by decide) ?_
    refine aw_iret dX9_append_74 rfl ?_
    exact k1 (by omega)
