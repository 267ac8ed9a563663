/-! the model: saving; a ship's way -/
theorem ac_save {s : Int} {h : AH} {K : AO → Nat → AH → Prop} (k1 : ¬ (0 ≤ s ∧ s ≤ 1) → K (.inl none) 159 (up h 140 7 1)) (k0 : 0 ≤ s ∧ s ≤ 1 → K (.inl none) 159 (up (cpy (up h 140 7 0) 145 (1256 * s) 141 0 1256) 146 s 1)) : AC mX9_save 2 0 0 159 [(2, 140), (0, s)] h K := by
  refine ac_of (ls := [(2, 140), (0, s)]) pn_X9 rfl (Nat.le_of_ble_eq_true rfl) rfl ?_
  refine a_al0 (by decide) dX9_save_0 ?_
  refine a_il1 dX9_save_1 ?_
  refine aw_iconst dX9_save_2 (by decide) ?_
  refine aw_iconst dX9_save_3 (by decide) ?_
  refine aw_callS 1 0 0 dX9_save_4 yw_X9_isIn ml_X9_76 sm_X9_isIn (as := [_, _, _]) rfl rfl ⟨by decide, by decide, by decide, Nat.le_of_ble_eq_true rfl⟩ ?_
  refine ac_isIn (fun q => ?_) (fun q => ?_)
  · refine am_ci ?_
    refine aw_if_eq_n 14 dX9_save_7 (by decide) (by decide) ?_
    refine aw_iconst dX9_save_10 (by decide) ?_
    refine aw_goto 15 dX9_save_11 (by decide) ?_
    refine aw_put 7 dX9_save_15 fp_X9_66 at_140 rfl ?_
    refine a_al0 (by decide) dX9_save_18 ?_
    refine aw_get 7 dX9_save_19 fl_X9_66 at_140 rfl ?_
    try simp (disch := omega) only [up_at, up_ne]
    refine aw_if_le 26 dX9_save_22 (by decide) (fun c22 => ?_) (fun c22 => ?_)
    · refine a_al0 (by decide) dX9_save_26 ?_
      refine aw_getR (r := 145) 4 rfl dX9_save_27 fl_X9_22 at_140 rfl rfl ?_
      try simp (disch := omega) only [up_at, up_ne]
      refine aw_sipush dX9_save_30 (by decide) ?_
      refine a_il1 dX9_save_33 ?_
      refine aw_imulR (by omega) dX9_save_34 ?_
      refine a_al0 (by decide) dX9_save_35 ?_
      refine aw_getR (r := 141) 0 rfl dX9_save_36 fl_X9_7 at_140 rfl rfl ?_
      try simp (disch := omega) only [up_at, up_ne]
      refine aw_iconst dX9_save_39 (by decide) ?_
      refine aw_callS 1 0 0 dX9_save_40 yw_X9_copies ml_X9_72 sm_X9_copies (as := [_, _, _, _]) rfl rfl ⟨by decide, by decide, by decide, Nat.le_of_ble_eq_true rfl⟩ ?_
      refine ac_copies ar_145 ar_141 (by decide) (by omega) (by omega) (by omega) ?_
      refine am_cv ?_
      refine a_al0 (by decide) dX9_save_43 ?_
      refine aw_getR (r := 146) 5 rfl dX9_save_44 fl_X9_25 at_140 rfl rfl ?_
      try simp (disch := omega) only [up_at, up_ne]
      refine a_il1 dX9_save_47 ?_
      refine aw_iconst dX9_save_48 (by decide) ?_
      refine aw_zast dX9_save_49 ar_146 (by omega) (by omega) ?_
      refine aw_vret dX9_save_50 rfl ?_
      exact k0 q
    · exfalso; omega
  · refine am_ci ?_
    refine aw_if_eq_y 14 dX9_save_7 (by decide) (by decide) ?_
    refine aw_iconst dX9_save_14 (by decide) ?_
    refine aw_put 7 dX9_save_15 fp_X9_66 at_140 rfl ?_
    refine a_al0 (by decide) dX9_save_18 ?_
    refine aw_get 7 dX9_save_19 fl_X9_66 at_140 rfl ?_
    try simp (disch := omega) only [up_at, up_ne]
    refine aw_if_le 26 dX9_save_22 (by decide) (fun c22 => ?_) (fun c22 => ?_)
    · exfalso; omega
    · refine aw_vret dX9_save_25 rfl ?_
      exact k1 q
theorem ac_restore {s : Int} {h : AH} {K : AO → Nat → AH → Prop} (hk : 0 ≤ h 140 6 ∧ h 140 6 ≤ 8) (k1 : ¬ (0 ≤ s ∧ s ≤ 1) → K (.inl (some (0, 0))) 159 (up h 140 7 1)) (k2 : 0 ≤ s ∧ s ≤ 1 → h 146 s = 0 → K (.inl (some (0, 0))) 159 (up h 140 7 2)) (k0 : 0 ≤ s ∧ s ≤ 1 → ¬ h 146 s = 0 → ∀ h1, Kept (up h 140 7 0) 141 h1 → K (.inl (some (0, cpy h1 141 0 145 (1256 * s) 1256 141 4))) 159 (cpy h1 141 0 145 (1256 * s) 1256)) : AC mX9_restore 3 0 0 159 [(2, 140), (0, s)] h K := by
  refine ac_of (ls := [(2, 140), (0, s)]) pn_X9 rfl (Nat.le_of_ble_eq_true rfl) rfl ?_
  refine a_al0 (by decide) dX9_restore_0 ?_
  refine a_il1 dX9_restore_1 ?_
  refine aw_iconst dX9_restore_2 (by decide) ?_
  refine aw_iconst dX9_restore_3 (by decide) ?_
  refine aw_callS 1 0 0 dX9_restore_4 yw_X9_isIn ml_X9_76 sm_X9_isIn (as := [_, _, _]) rfl rfl ⟨by decide, by decide, by decide, Nat.le_of_ble_eq_true rfl⟩ ?_
  refine ac_isIn (fun q => ?_) (fun q => ?_)
  · refine am_ci ?_
    refine aw_if_ne_y 14 dX9_restore_7 (by decide) (by decide) ?_
    refine a_al0 (by decide) dX9_restore_14 ?_
    refine aw_getR (r := 146) 5 rfl dX9_restore_15 fl_X9_25 at_140 rfl rfl ?_
    refine a_il1 dX9_restore_18 ?_
    refine aw_zald dX9_restore_19 ar_146 (by omega) ?_
    refine aw_if_eq 27 dX9_restore_20 (by decide) (fun c20 => ?_) (fun c20 => ?_)
    · refine aw_iconst dX9_restore_27 (by decide) ?_
      refine aw_put 7 dX9_restore_28 fp_X9_66 at_140 rfl ?_
      refine a_al0 (by decide) dX9_restore_31 ?_
      refine aw_get 7 dX9_restore_32 fl_X9_66 at_140 rfl ?_
      try simp (disch := omega) only [up_at, up_ne]
      refine aw_if_le 40 dX9_restore_35 (by decide) (fun c35 => ?_) (fun c35 => ?_)
      · exfalso; omega
      · refine aw_iconst dX9_restore_38 (by decide) ?_
        refine aw_iret dX9_restore_39 rfl ?_
        exact k2 q (by omega)
    · refine aw_iconst dX9_restore_23 (by decide) ?_
      refine aw_goto 28 dX9_restore_24 (by decide) ?_
      refine aw_put 7 dX9_restore_28 fp_X9_66 at_140 rfl ?_
      refine a_al0 (by decide) dX9_restore_31 ?_
      refine aw_get 7 dX9_restore_32 fl_X9_66 at_140 rfl ?_
      try simp (disch := omega) only [up_at, up_ne]
      refine aw_if_le 40 dX9_restore_35 (by decide) (fun c35 => ?_) (fun c35 => ?_)
      · refine a_al0 (by decide) dX9_restore_40 ?_
        refine a_al0 (by decide) dX9_restore_41 ?_
        refine aw_getR (r := 141) 0 rfl dX9_restore_42 fl_X9_7 at_140 rfl rfl ?_
        try simp (disch := omega) only [up_at, up_ne]
        refine aw_callV 2 0 0 dX9_restore_45 yw_X9_keeps ml_X9_80 in_X9_keeps se_X9_keeps (ci := 8) rfl at_140 (as := [_]) rfl rfl ⟨by decide, by decide, by decide, Nat.le_of_ble_eq_true rfl⟩ ?_
        refine ac_keeps ar_141 (by decide) (by omega) ?_ (fun h1 hk1 => ?_)
        · rw [up_ne (by omega)]
          exact hk
        refine am_cv ?_
        refine a_al0 (by decide) dX9_restore_48 ?_
        refine aw_getR (r := 141) 0 rfl dX9_restore_49 fl_X9_7 at_140 rfl rfl ?_
        try simp (disch := omega) only [up_at, up_ne]
        refine aw_iconst dX9_restore_52 (by decide) ?_
        refine a_al0 (by decide) dX9_restore_53 ?_
        refine aw_getR (r := 145) 4 rfl dX9_restore_54 fl_X9_22 at_140 rfl rfl ?_
        try simp (disch := omega) only [up_at, up_ne]
        refine aw_sipush dX9_restore_57 (by decide) ?_
        refine a_il1 dX9_restore_60 ?_
        refine aw_imulR (by omega) dX9_restore_61 ?_
        refine aw_callS 1 0 0 dX9_restore_62 yw_X9_copies ml_X9_72 sm_X9_copies (as := [_, _, _, _]) rfl rfl ⟨by decide, by decide, by decide, Nat.le_of_ble_eq_true rfl⟩ ?_
        refine ac_copies ar_141 ar_145 (by decide) (by omega) (by omega) (by omega) ?_
        refine am_cv ?_
        refine a_al0 (by decide) dX9_restore_65 ?_
        refine aw_getR (r := 141) 0 rfl dX9_restore_66 fl_X9_7 at_140 rfl rfl ?_
        try simp (disch := omega) only [up_at, up_ne]
        refine aw_iconst dX9_restore_69 (by decide) ?_
        refine aw_iald dX9_restore_70 ar_141 (by omega) ?_
        try simp (disch := omega) only [up_at, up_ne]
        refine aw_iret dX9_restore_71 rfl ?_
        exact k0 q (by omega) h1 hk1
      · exfalso; omega
  · refine am_ci ?_
    refine aw_if_ne_n 14 dX9_restore_7 (by decide) (by decide) ?_
    refine aw_iconst dX9_restore_10 (by decide) ?_
    refine aw_goto 28 dX9_restore_11 (by decide) ?_
    refine aw_put 7 dX9_restore_28 fp_X9_66 at_140 rfl ?_
    refine a_al0 (by decide) dX9_restore_31 ?_
    refine aw_get 7 dX9_restore_32 fl_X9_66 at_140 rfl ?_
    try simp (disch := omega) only [up_at, up_ne]
    refine aw_if_le 40 dX9_restore_35 (by decide) (fun c35 => ?_) (fun c35 => ?_)
    · exfalso; omega
    · refine aw_iconst dX9_restore_38 (by decide) ?_
      refine aw_iret dX9_restore_39 rfl ?_
      exact k1 q
def gHd (l s st hd : Int) : Int := if (l = 2 ∨ l = 3) ∧ st < mn 4 (s + 1) then (hd + (if l = 2 then 7 else 1)) % 8 else hd
def gSi (l s st : Int) : Int := if (l = 2 ∨ l = 3) ∧ st < mn 4 (s + 1) then 0 else mn 4 (s + 1)
def gWay (way sail force hd fr : Int) : Int := mn 180 (way + sail * force * tab0 (ang hd fr))
/-- the second half of goes: way, and where to -/
def GoneT (h : AH) (i l : Int) (h' : AH) (x : Int) : Prop :=
  (∀ k j, ¬ (k = 141 ∧ j = 46 + 25 * i + 8) → ¬ (k = 150 ∧ j = i) → ¬ (k = 151 ∧ j = i) → h' k j = h k j) ∧ (l = 4 → h' = h ∧ x = 0) ∧
  (l ≠ 4 → ∀ w, w = gWay (h 141 (46 + 25 * i + 8)) (h 141 (46 + 25 * i + 6)) (h 141 6) (h 141 (46 + 25 * i + 3)) (h 141 5) →
    (w < 90 → x = 0 ∧ h' 141 (46 + 25 * i + 8) = w) ∧
    (90 ≤ w → h' 150 i = h 141 (46 + 25 * i + 1) + tab1 (h 141 (46 + 25 * i + 3)) ∧ h' 151 i = h 141 (46 + 25 * i + 2) + tab2 (h 141 (46 + 25 * i + 3)) ∧
      ((0 ≤ h' 150 i ∧ h' 150 i < h 141 0 ∧ 0 ≤ h' 151 i ∧ h' 151 i < h 141 1) → x = 1 ∧ h' 141 (46 + 25 * i + 8) = w) ∧
      (¬ (0 ≤ h' 150 i ∧ h' 150 i < h 141 0 ∧ 0 ≤ h' 151 i ∧ h' 151 i < h 141 1) → x = 0 ∧ h' 141 (46 + 25 * i + 8) = 0)))
/-- numbers of a ship as they must be -/
def shOk (h : AH) (i : Int) : Prop := (-1 ≤ h 141 (46 + 25 * i + 1) ∧ h 141 (46 + 25 * i + 1) ≤ 30) ∧ (-1 ≤ h 141 (46 + 25 * i + 2) ∧ h 141 (46 + 25 * i + 2) ≤ 30) ∧ (0 ≤ h 141 (46 + 25 * i + 3) ∧ h 141 (46 + 25 * i + 3) ≤ 7) ∧ (0 ≤ h 141 (46 + 25 * i + 6) ∧ h 141 (46 + 25 * i + 6) ≤ 9) ∧ (0 ≤ h 141 (46 + 25 * i + 7) ∧ h 141 (46 + 25 * i + 7) ≤ 3) ∧ (0 ≤ h 141 (46 + 25 * i + 8) ∧ h 141 (46 + 25 * i + 8) ≤ 180) ∧ (0 ≤ h 141 (46 + 25 * i + 9) ∧ h 141 (46 + 25 * i + 9) ≤ 4)
def bdOk (h : AH) : Prop := (4 ≤ h 141 0 ∧ h 141 0 ≤ 30) ∧ (4 ≤ h 141 1 ∧ h 141 1 ≤ 30) ∧ (0 ≤ h 141 5 ∧ h 141 5 ≤ 7) ∧ (0 ≤ h 141 6 ∧ h 141 6 ≤ 9)
theorem go_tail {i l : Int} {h : AH} {K : AO → Nat → AH → Prop} (hi : 0 ≤ i ∧ i ≤ 11) (hl : 1 ≤ l ∧ l ≤ 4) (hs : shOk h i) (hb : bdOk h) (k : ∀ h' x, GoneT h i l h' x → K (.inl (some (0, x))) 159 h') : AW mX9_goes 4 0 0 K 159 82 [(2, 140), (0, i), (0, l)] [] h := by
  obtain ⟨s1, s2, s3, s6, s7, s8, s9⟩ := hs
  obtain ⟨b0, b1, b5, b6⟩ := hb
  have p1 := mulr s6 b6
  have p2 := mulr p1 (tab0_r (ang (h 141 (46 + 25 * i + 3)) (h 141 5)))
  have t1 := tab1_rg (h 141 (46 + 25 * i + 3))
  have t2 := tab2_rg (h 141 (46 + 25 * i + 3))
  obtain ⟨w, hw⟩ : ∃ w, w = gWay (h 141 (46 + 25 * i + 8)) (h 141 (46 + 25 * i + 6)) (h 141 6) (h 141 (46 + 25 * i + 3)) (h 141 5) := ⟨_, rfl⟩
  refine a_il2 dX9_goes_82 ?_
  refine aw_iconst dX9_goes_83 (by decide) ?_
  refine aw_icmp_ne 89 dX9_goes_84 (by decide) (fun c84 => ?_) (fun c84 => ?_)
  · refine a_al0 (by decide) dX9_goes_89 ?_
    refine a_il1 dX9_goes_90 ?_
    refine aw_bipush dX9_goes_91 (by decide) ?_
    refine aw_sipush dX9_goes_93 (by decide) ?_
    refine a_al0 (by decide) dX9_goes_96 ?_
    refine a_il1 dX9_goes_97 ?_
    refine aw_bipush dX9_goes_98 (by decide) ?_
    refine aw_callV 1 0 0 dX9_goes_100 yw_X9_of ml_X9_213 in_X9_of se_X9_of (ci := 8) rfl at_140 (as := [_, _]) rfl rfl ⟨by decide, by decide, by decide, Nat.le_of_ble_eq_true rfl⟩ ?_
    refine ac_of_ (by omega) (by decide) ?_
    refine am_ci ?_
    refine a_al0 (by decide) dX9_goes_103 ?_
    refine a_il1 dX9_goes_104 ?_
    refine a_al0 (by decide) dX9_goes_105 ?_
    refine a_il1 dX9_goes_106 ?_
    refine aw_iconst dX9_goes_107 (by decide) ?_
    refine aw_callV 1 0 0 dX9_goes_108 yw_X9_of ml_X9_213 in_X9_of se_X9_of (ci := 8) rfl at_140 (as := [_, _]) rfl rfl ⟨by decide, by decide, by decide, Nat.le_of_ble_eq_true rfl⟩ ?_
    refine ac_of_ (by omega) (by decide) ?_
    refine am_ci ?_
    refine aw_callV 3 0 0 dX9_goes_111 yw_X9_gainOf ml_X9_232 in_X9_gainOf se_X9_gainOf (ci := 8) rfl at_140 (as := [_, _]) rfl rfl ⟨by decide, by decide, by decide, Nat.le_of_ble_eq_true rfl⟩ ?_
    refine ac_gainOf (by omega) s3 b5 b6 s6 ?_
    refine am_ci ?_
    refine aw_iaddR (by omega) dX9_goes_114 ?_
    refine aw_mmin dX9_goes_115 ⟨ml_X9_114, mw_min⟩ ⟨by decide, Nat.le_of_ble_eq_true rfl⟩ ?_
    refine aw_callV 1 0 0 dX9_goes_118 yw_X9_sets ml_X9_228 in_X9_sets se_X9_sets (ci := 8) rfl at_140 (as := [_, _, _]) rfl rfl ⟨by decide, by decide, by decide, Nat.le_of_ble_eq_true rfl⟩ ?_
    rw [show (if h 141 (46 + 25 * i + 8) + h 141 (46 + 25 * i + 6) * h 141 6 * tab0 (ang (h 141 (46 + 25 * i + 3)) (h 141 5)) < 180 then h 141 (46 + 25 * i + 8) + h 141 (46 + 25 * i + 6) * h 141 6 * tab0 (ang (h 141 (46 + 25 * i + 3)) (h 141 5)) else 180) = w from hw.symm]
    refine ac_sets (by omega) (by decide) ?_
    refine am_cv ?_
    refine a_al0 (by decide) dX9_goes_121 ?_
    refine a_il1 dX9_goes_122 ?_
    refine aw_bipush dX9_goes_123 (by decide) ?_
    refine aw_callV 1 0 0 dX9_goes_125 yw_X9_of ml_X9_213 in_X9_of se_X9_of (ci := 8) rfl at_140 (as := [_, _]) rfl rfl ⟨by decide, by decide, by decide, Nat.le_of_ble_eq_true rfl⟩ ?_
    refine ac_of_ (by omega) (by decide) ?_
    refine am_ci ?_
    try simp (disch := omega) only [up_at, up_ne]
    refine aw_bipush dX9_goes_128 (by decide) ?_
    refine aw_icmp_ge 135 dX9_goes_130 (by decide) (fun c130 => ?_) (fun c130 => ?_)
    · refine a_al0 (by decide) dX9_goes_135 ?_
      refine aw_getR (r := 150) 19 rfl dX9_goes_136 fl_X9_42 at_140 rfl rfl ?_
      try simp (disch := omega) only [up_at, up_ne]
      refine a_il1 dX9_goes_139 ?_
      refine a_al0 (by decide) dX9_goes_140 ?_
      refine a_il1 dX9_goes_141 ?_
      refine aw_iconst dX9_goes_142 (by decide) ?_
      refine aw_callV 1 0 0 dX9_goes_143 yw_X9_of ml_X9_213 in_X9_of se_X9_of (ci := 8) rfl at_140 (as := [_, _]) rfl rfl ⟨by decide, by decide, by decide, Nat.le_of_ble_eq_true rfl⟩ ?_
      refine ac_of_ (by omega) (by decide) ?_
      refine am_ci ?_
      try simp (disch := omega) only [up_at, up_ne]
      refine a_al0 (by decide) dX9_goes_146 ?_
      refine a_il1 dX9_goes_147 ?_
      refine aw_iconst dX9_goes_148 (by decide) ?_
      refine aw_callV 1 0 0 dX9_goes_149 yw_X9_of ml_X9_213 in_X9_of se_X9_of (ci := 8) rfl at_140 (as := [_, _]) rfl rfl ⟨by decide, by decide, by decide, Nat.le_of_ble_eq_true rfl⟩ ?_
      refine ac_of_ (by omega) (by decide) ?_
      refine am_ci ?_
      try simp (disch := omega) only [up_at, up_ne]
      refine aw_callS 1 0 0 dX9_goes_152 yw_X9_columnWay ml_X9_235 sm_X9_columnWay (as := [_]) rfl rfl ⟨by decide, by decide, by decide, Nat.le_of_ble_eq_true rfl⟩ ?_
      refine ac_columnWay s3 ?_
      refine am_ci ?_
      try simp (disch := omega) only [up_at, up_ne]
      refine aw_iaddR (by omega) dX9_goes_155 ?_
      refine aw_iast dX9_goes_156 ar_150 (by omega) ?_
      refine a_al0 (by decide) dX9_goes_157 ?_
      refine aw_getR (r := 151) 20 rfl dX9_goes_158 fl_X9_45 at_140 rfl rfl ?_
      try simp (disch := omega) only [up_at, up_ne]
      refine a_il1 dX9_goes_161 ?_
      refine a_al0 (by decide) dX9_goes_162 ?_
      refine a_il1 dX9_goes_163 ?_
      refine aw_iconst dX9_goes_164 (by decide) ?_
      refine aw_callV 1 0 0 dX9_goes_165 yw_X9_of ml_X9_213 in_X9_of se_X9_of (ci := 8) rfl at_140 (as := [_, _]) rfl rfl ⟨by decide, by decide, by decide, Nat.le_of_ble_eq_true rfl⟩ ?_
      refine ac_of_ (by omega) (by decide) ?_
      refine am_ci ?_
      try simp (disch := omega) only [up_at, up_ne]
      refine a_al0 (by decide) dX9_goes_168 ?_
      refine a_il1 dX9_goes_169 ?_
      refine aw_iconst dX9_goes_170 (by decide) ?_
      refine aw_callV 1 0 0 dX9_goes_171 yw_X9_of ml_X9_213 in_X9_of se_X9_of (ci := 8) rfl at_140 (as := [_, _]) rfl rfl ⟨by decide, by decide, by decide, Nat.le_of_ble_eq_true rfl⟩ ?_
      refine ac_of_ (by omega) (by decide) ?_
      refine am_ci ?_
      try simp (disch := omega) only [up_at, up_ne]
      refine aw_callS 2 0 0 dX9_goes_174 yw_X9_rowWay ml_X9_238 sm_X9_rowWay (as := [_]) rfl rfl ⟨by decide, by decide, by decide, Nat.le_of_ble_eq_true rfl⟩ ?_
      refine ac_rowWay s3 ?_
      refine am_ci ?_
      try simp (disch := omega) only [up_at, up_ne]
      refine aw_iaddR (by omega) dX9_goes_177 ?_
      refine aw_iast dX9_goes_178 ar_151 (by omega) ?_
      refine a_al0 (by decide) dX9_goes_179 ?_
      refine aw_getR (r := 150) 19 rfl dX9_goes_180 fl_X9_42 at_140 rfl rfl ?_
      try simp (disch := omega) only [up_at, up_ne]
      refine a_il1 dX9_goes_183 ?_
      refine aw_iald dX9_goes_184 ar_150 (by omega) ?_
      try simp (disch := omega) only [up_at, up_ne]
      refine aw_iconst dX9_goes_185 (by decide) ?_
      refine a_al0 (by decide) dX9_goes_186 ?_
      refine aw_getR (r := 141) 0 rfl dX9_goes_187 fl_X9_7 at_140 rfl rfl ?_
      try simp (disch := omega) only [up_at, up_ne]
      refine aw_iconst dX9_goes_190 (by decide) ?_
      refine aw_iald dX9_goes_191 ar_141 (by omega) ?_
      try simp (disch := omega) only [up_at, up_ne]
      refine aw_iconst dX9_goes_192 (by decide) ?_
      refine aw_isubR (by omega) dX9_goes_193 ?_
      refine aw_callS 1 0 0 dX9_goes_194 yw_X9_isIn ml_X9_76 sm_X9_isIn (as := [_, _, _]) rfl rfl ⟨by decide, by decide, by decide, Nat.le_of_ble_eq_true rfl⟩ ?_
      refine ac_isIn (fun q1 => ?_) (fun q1 => ?_)
      · refine am_ci ?_
        refine aw_if_eq_n 223 dX9_goes_197 (by decide) (by decide) ?_
        refine a_al0 (by decide) dX9_goes_200 ?_
        refine aw_getR (r := 151) 20 rfl dX9_goes_201 fl_X9_45 at_140 rfl rfl ?_
        try simp (disch := omega) only [up_at, up_ne]
        refine a_il1 dX9_goes_204 ?_
        refine aw_iald dX9_goes_205 ar_151 (by omega) ?_
        try simp (disch := omega) only [up_at, up_ne]
        refine aw_iconst dX9_goes_206 (by decide) ?_
        refine a_al0 (by decide) dX9_goes_207 ?_
        refine aw_getR (r := 141) 0 rfl dX9_goes_208 fl_X9_7 at_140 rfl rfl ?_
        try simp (disch := omega) only [up_at, up_ne]
        refine aw_iconst dX9_goes_211 (by decide) ?_
        refine aw_iald dX9_goes_212 ar_141 (by omega) ?_
        try simp (disch := omega) only [up_at, up_ne]
        refine aw_iconst dX9_goes_213 (by decide) ?_
        refine aw_isubR (by omega) dX9_goes_214 ?_
        refine aw_callS 1 0 0 dX9_goes_215 yw_X9_isIn ml_X9_76 sm_X9_isIn (as := [_, _, _]) rfl rfl ⟨by decide, by decide, by decide, Nat.le_of_ble_eq_true rfl⟩ ?_
        refine ac_isIn (fun q2 => ?_) (fun q2 => ?_)
        · refine am_ci ?_
          refine aw_if_eq_n 223 dX9_goes_218 (by decide) (by decide) ?_
          refine aw_iconst dX9_goes_221 (by decide) ?_
          refine aw_zret dX9_goes_222 rfl (by omega) ?_
          refine k _ _ ⟨fun k j h1 h2 h3 => by simp (disch := omega) only [up_at, up_ne], fun q => by omega, fun q w' hw' => ⟨fun q3 => by omega, fun q3 => ?_⟩⟩
          simp (disch := omega) only [up_at, up_ne]
          exact ⟨trivial, trivial, fun q4 => ⟨trivial, by omega⟩, fun q4 => by omega⟩
        · refine am_ci ?_
          refine aw_if_eq_y 223 dX9_goes_218 (by decide) (by decide) ?_
          refine a_al0 (by decide) dX9_goes_223 ?_
          refine a_il1 dX9_goes_224 ?_
          refine aw_bipush dX9_goes_225 (by decide) ?_
          refine aw_iconst dX9_goes_227 (by decide) ?_
          refine aw_callV 1 0 0 dX9_goes_228 yw_X9_sets ml_X9_228 in_X9_sets se_X9_sets (ci := 8) rfl at_140 (as := [_, _, _]) rfl rfl ⟨by decide, by decide, by decide, Nat.le_of_ble_eq_true rfl⟩ ?_
          refine ac_sets (by omega) (by decide) ?_
          refine am_cv ?_
          refine aw_iconst dX9_goes_231 (by decide) ?_
          refine aw_zret dX9_goes_232 rfl (by omega) ?_
          refine k _ _ ⟨fun k j h1 h2 h3 => by simp (disch := omega) only [up_at, up_ne], fun q => by omega, fun q w' hw' => ⟨fun q3 => by omega, fun q3 => ?_⟩⟩
          simp (disch := omega) only [up_at, up_ne]
          exact ⟨trivial, trivial, fun q4 => by omega, fun q4 => ⟨trivial, trivial⟩⟩
      · refine am_ci ?_
        refine aw_if_eq_y 223 dX9_goes_197 (by decide) (by decide) ?_
        refine a_al0 (by decide) dX9_goes_223 ?_
        refine a_il1 dX9_goes_224 ?_
        refine aw_bipush dX9_goes_225 (by decide) ?_
        refine aw_iconst dX9_goes_227 (by decide) ?_
        refine aw_callV 1 0 0 dX9_goes_228 yw_X9_sets ml_X9_228 in_X9_sets se_X9_sets (ci := 8) rfl at_140 (as := [_, _, _]) rfl rfl ⟨by decide, by decide, by decide, Nat.le_of_ble_eq_true rfl⟩ ?_
        refine ac_sets (by omega) (by decide) ?_
        refine am_cv ?_
        refine aw_iconst dX9_goes_231 (by decide) ?_
        refine aw_zret dX9_goes_232 rfl (by omega) ?_
        refine k _ _ ⟨fun k j h1 h2 h3 => by simp (disch := omega) only [up_at, up_ne], fun q => by omega, fun q w' hw' => ⟨fun q3 => by omega, fun q3 => ?_⟩⟩
        simp (disch := omega) only [up_at, up_ne]
        exact ⟨trivial, trivial, fun q4 => by omega, fun q4 => ⟨trivial, trivial⟩⟩
    · refine aw_iconst dX9_goes_133 (by decide) ?_
      refine aw_zret dX9_goes_134 rfl (by omega) ?_
      refine k _ _ ⟨fun k j h1 h2 h3 => by simp (disch := omega) only [up_at, up_ne], fun q => by omega, fun q w' hw' => ⟨fun q3 => ?_, fun q3 => by omega⟩⟩
      simp (disch := omega) only [up_at, up_ne]
      exact ⟨trivial, by omega⟩
  · refine aw_iconst dX9_goes_87 (by decide) ?_
    refine aw_zret dX9_goes_88 rfl (by omega) ?_
    exact k _ _ ⟨fun k j _ _ _ => rfl, fun _ => ⟨rfl, rfl⟩, fun q => by omega⟩
