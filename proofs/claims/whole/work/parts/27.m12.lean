/-! the model: the log -/
def mSN (h : AH) (f : Int) : Int := if h 141 (34 + 3 * f + 1) = 1 then h 141 (34 + 3 * f + 2) else -1
theorem ac_sealNow {f : Int} {h : AH} {K : AO → Nat → AH → Prop} (hf : 0 ≤ f ∧ f ≤ 3) (k : K (.inl (some (0, mSN h f))) 159 h) : AC mX9_sealNow 1 0 0 159 [(2, 140), (0, f)] h K := by
  unfold mSN at k
  refine ac_of (ls := [(2, 140), (0, f), (9, 0)]) pn_X9 rfl (Nat.le_of_ble_eq_true rfl) rfl ?_
  refine aw_bipush dX9_sealNow_0 (by decide) ?_
  refine aw_iconst dX9_sealNow_2 (by decide) ?_
  refine a_il1 dX9_sealNow_3 ?_
  refine aw_imulR (by omega) dX9_sealNow_4 ?_
  refine aw_iaddR (by omega) dX9_sealNow_5 ?_
  refine a_is2 rfl rfl dX9_sealNow_6 ?_
  refine a_al0 (by decide) dX9_sealNow_7 ?_
  refine aw_getR (r := 141) 0 rfl dX9_sealNow_8 fl_X9_7 at_140 rfl rfl ?_
  refine a_il2 dX9_sealNow_11 ?_
  refine aw_iconst dX9_sealNow_12 (by decide) ?_
  refine aw_iaddR (by omega) dX9_sealNow_13 ?_
  refine aw_iald dX9_sealNow_14 ar_141 (by omega) ?_
  refine aw_iconst dX9_sealNow_15 (by decide) ?_
  refine aw_icmp_ne 30 dX9_sealNow_16 (by decide) (fun c16 => ?_) (fun c16 => ?_)
  · refine aw_iconst dX9_sealNow_30 (by decide) ?_
    refine aw_iret dX9_sealNow_31 rfl ?_
    rw [if_neg (by assumption)] at k
    exact k
  · refine a_al0 (by decide) dX9_sealNow_19 ?_
    refine aw_getR (r := 141) 0 rfl dX9_sealNow_20 fl_X9_7 at_140 rfl rfl ?_
    refine a_il2 dX9_sealNow_23 ?_
    refine aw_iconst dX9_sealNow_24 (by decide) ?_
    refine aw_iaddR (by omega) dX9_sealNow_25 ?_
    refine aw_iald dX9_sealNow_26 ar_141 (by omega) ?_
    refine aw_goto 31 dX9_sealNow_27 (by decide) ?_
    refine aw_iret dX9_sealNow_31 rfl ?_
    rw [if_pos (by assumption)] at k
    exact k
def lgV (g : AH) (y : Int) : Int := if y < 4 then (if y < g 141 2 then mSN g y else -1) else if g 141 (46 + 25 * ((y - 4) / 6) + 10) = -1 then g 141 (46 + 25 * ((y - 4) / 6) + (11 + (y - 4) % 6)) else 0
def PF (g : AH) (t c : Int) (g1 : AH) : Prop := (∀ k x, ¬ (k = 141 ∧ t ≤ x ∧ x < t + c) → g1 k x = g k x) ∧ ∀ y, 0 ≤ y → y < c → g1 141 (t + y) = lgV g y
theorem PF_s {g g1 : AH} {t c x v : Int} (hc : 0 ≤ c) (hx : x = t + c) (hv : v = lgV g c) (h : PF g t c g1) : PF g t (c + 1) (up g1 141 x v) := by
  subst hx
  refine ⟨fun k x a => ?_, fun y y0 y1 => ?_⟩
  · rw [up_ne (by omega)]
    exact h.1 k x (by omega)
  · by_cases e : y = c
    · rw [e, up_at, hv]
    · rw [up_ne (by omega)]
      exact h.2 y y0 (by omega)
/-- the log's newest entry, written behind M others -/
def LogT (g g' : AH) : Prop := (∀ k x, ¬ (k = 141 ∧ (x = 8 ∨ (496 + 76 * g 141 8 ≤ x ∧ x < 496 + 76 * g 141 8 + 76))) → g' k x = g k x) ∧ g' 141 8 = g 141 8 + 1 ∧ ∀ y, 0 ≤ y → y < 4 + 6 * g 141 3 → g' 141 (496 + 76 * g 141 8 + y) = lgV g y
theorem lg55 {v1 v2 v3 : AV} {g : AH} {K : AO → Nat → AH → Prop} (h2 : am_n2 v1 = true ∧ am_n2 v2 = true) (hM : 0 ≤ g 141 8 ∧ g 141 8 ≤ 9) (hn : 0 ≤ g 141 3 ∧ g 141 3 ≤ 12) (hf : 0 ≤ g 141 2 ∧ g 141 2 ≤ 4) (k : ∀ g', LogT g g' → K (.inl none) 159 g') : AW mX9_logs 4 0 0 K 159 55 [(2, 140), v1, v2, v3] [] g := by
  refine aw_sipush dX9_logs_55 (by decide) ?_
  refine aw_bipush dX9_logs_58 (by decide) ?_
  refine a_al0 (by decide) dX9_logs_60 ?_
  refine aw_getR (r := 141) 0 rfl dX9_logs_61 fl_X9_7 at_140 rfl rfl ?_
  refine aw_bipush dX9_logs_64 (by decide) ?_
  refine aw_iald dX9_logs_66 ar_141 (by omega) ?_
  refine aw_imulR (by omega) dX9_logs_67 ?_
  refine aw_iaddR (by omega) dX9_logs_68 ?_
  refine a_is1 rfl rfl dX9_logs_69 ?_
  refine aw_iconst dX9_logs_70 (by decide) ?_
  refine a_is2 rfl rfl dX9_logs_71 ?_
  refine aw_loop (fun q : Int × AH => 0 ≤ q.1 ∧ q.1 ≤ 4 ∧ PF g (496 + 76 * g 141 8) q.1 q.2) (fun q => (4 - q.1).toNat) (fun q => AW mX9_logs 4 0 0 K 159 72 [(2, 140), (0, 496 + 76 * g 141 8), (0, q.1), v3] [] q.2) (fun q hq ih => ?_) (0, g) ⟨by dsimp only; omega, by dsimp only; omega, fun _ _ _ => rfl, fun y h1 h2 => by dsimp only at h2; omega⟩
  obtain ⟨f, g1⟩ := q
  obtain ⟨f0, f1, pf⟩ := hq
  dsimp only at f0 f1 pf ih ⊢
  have e2 : g1 141 2 = g 141 2 := pf.1 _ _ (by omega)
  have e3 : g1 141 3 = g 141 3 := pf.1 _ _ (by omega)
  refine a_il2 dX9_logs_72 ?_
  refine aw_iconst dX9_logs_73 (by decide) ?_
  refine aw_icmp_ge 108 dX9_logs_74 (by decide) (fun c74 => ?_) (fun c74 => ?_)
  · refine aw_iconst dX9_logs_108 (by decide) ?_
    refine a_is2 rfl rfl dX9_logs_109 ?_
    have f4 : f = 4 := by omega
    subst f4
    refine aw_loop (fun q : Int × AV × AH => 0 ≤ q.1 ∧ q.1 ≤ g 141 3 ∧ PF g (496 + 76 * g 141 8) (4 + 6 * q.1) q.2.2) (fun q => (g 141 3 - q.1).toNat) (fun q => AW mX9_logs 4 0 0 K 159 110 [(2, 140), (0, 496 + 76 * g 141 8), (0, q.1), q.2.1] [] q.2.2) (fun q hq ih2 => ?_) (0, v3, g1) ⟨by dsimp only; omega, by dsimp only; omega, pf⟩
    obtain ⟨i, w3, g2⟩ := q
    obtain ⟨i0, i1, pf2⟩ := hq
    dsimp only at i0 i1 pf2 ih2 ⊢
    have e83 : g2 141 3 = g 141 3 := pf2.1 _ _ (by omega)
    have e88 : g2 141 8 = g 141 8 := pf2.1 _ _ (by omega)
    refine a_il2 dX9_logs_110 ?_
    refine a_al0 (by decide) dX9_logs_111 ?_
    refine aw_getR (r := 141) 0 rfl dX9_logs_112 fl_X9_7 at_140 rfl rfl ?_
    refine aw_iconst dX9_logs_115 (by decide) ?_
    refine aw_iald dX9_logs_116 ar_141 (by omega) ?_
    refine aw_icmp_ge 176 dX9_logs_117 (by decide) (fun c117 => ?_) (fun c117 => ?_)
    · refine a_al0 (by decide) dX9_logs_176 ?_
      refine aw_getR (r := 141) 0 rfl dX9_logs_177 fl_X9_7 at_140 rfl rfl ?_
      refine aw_bipush dX9_logs_180 (by decide) ?_
      refine aw_dup2 dX9_logs_182 rfl rfl ?_
      refine aw_iald dX9_logs_183 ar_141 (by omega) ?_
      refine aw_iconst dX9_logs_184 (by decide) ?_
      refine aw_iaddR (by omega) dX9_logs_185 ?_
      refine aw_iast dX9_logs_186 ar_141 (by omega) ?_
      refine aw_vret dX9_logs_187 rfl ?_
      have ii : i = g 141 3 := by omega
      subst ii
      rw [e88]
      refine k _ ⟨fun k x a => ?_, by rw [up_at], fun y y0 y1 => ?_⟩
      · rw [up_ne (by omega)]
        exact pf2.1 k x (by omega)
      · rw [up_ne (by omega)]
        exact pf2.2 y y0 y1
    · refine aw_iconst dX9_logs_120 (by decide) ?_
      refine a_is3 rfl rfl dX9_logs_121 ?_
      refine aw_loop (fun q : Int × AH => 0 ≤ q.1 ∧ q.1 ≤ 6 ∧ PF g (496 + 76 * g 141 8) (4 + 6 * i + q.1) q.2) (fun q => (6 - q.1).toNat) (fun q => AW mX9_logs 4 0 0 K 159 122 [(2, 140), (0, 496 + 76 * g 141 8), (0, i), (0, q.1)] [] q.2) (fun q hq ih3 => ?_) (0, g2) ⟨by dsimp only; omega, by dsimp only; omega, by dsimp only; rw [Int.add_zero]; exact pf2⟩
      obtain ⟨p, g3⟩ := q
      obtain ⟨p0, p1, pf3⟩ := hq
      dsimp only at p0 p1 pf3 ih3 ⊢
      have es : g3 141 (46 + 25 * i + 10) = g 141 (46 + 25 * i + 10) := pf3.1 _ _ (by omega)
      have eo : g3 141 (46 + 25 * i + (11 + p)) = g 141 (46 + 25 * i + (11 + p)) := pf3.1 _ _ (by omega)
      refine a_il3 dX9_logs_122 ?_
      refine aw_bipush dX9_logs_123 (by decide) ?_
      refine aw_icmp_ge 170 dX9_logs_125 (by decide) (fun c125 => ?_) (fun c125 => ?_)
      · refine a_iiR2 (by omega) rfl rfl dX9_logs_170 ?_
        refine aw_goto 110 dX9_logs_173 (by decide) ?_
        exact ih2 (i + 1, (0, p), g3) ⟨by dsimp only; omega, by dsimp only; omega, by
          dsimp only
          have : 4 + 6 * i + p = 4 + 6 * (i + 1) := by omega
          rw [← this]; exact pf3⟩ (by dsimp only; omega)
      · skip
        have d1 : (4 + 6 * i + p - 4) / 6 = i := by omega
        have d2 : (4 + 6 * i + p - 4) % 6 = p := by omega
        refine a_al0 (by decide) dX9_logs_128 ?_
        refine aw_getR (r := 141) 0 rfl dX9_logs_129 fl_X9_7 at_140 rfl rfl ?_
        refine a_il1 dX9_logs_132 ?_
        refine aw_iconst dX9_logs_133 (by decide) ?_
        refine aw_iaddR (by omega) dX9_logs_134 ?_
        refine aw_bipush dX9_logs_135 (by decide) ?_
        refine a_il2 dX9_logs_137 ?_
        refine aw_imulR (by omega) dX9_logs_138 ?_
        refine aw_iaddR (by omega) dX9_logs_139 ?_
        refine a_il3 dX9_logs_140 ?_
        refine aw_iaddR (by omega) dX9_logs_141 ?_
        refine a_al0 (by decide) dX9_logs_142 ?_
        refine a_il2 dX9_logs_143 ?_
        refine aw_callV 2 0 0 dX9_logs_144 yw_X9_sails ml_X9_216 in_X9_sails se_X9_sails (ci := 8) rfl at_140 (as := [_]) rfl rfl ⟨by decide, by decide, by decide, Nat.le_of_ble_eq_true rfl⟩ ?_
        refine ac_sails (by omega) (fun a1 => ?_) (fun a1 => ?_)
        · refine am_ci ?_
          refine aw_if_eq_n 162 dX9_logs_147 (by decide) (by decide) ?_
          refine a_al0 (by decide) dX9_logs_150 ?_
          refine a_il2 dX9_logs_151 ?_
          refine aw_bipush dX9_logs_152 (by decide) ?_
          refine a_il3 dX9_logs_154 ?_
          refine aw_iaddR (by omega) dX9_logs_155 ?_
          refine aw_callV 1 0 0 dX9_logs_156 yw_X9_of ml_X9_213 in_X9_of se_X9_of (ci := 8) rfl at_140 (as := [_, _]) rfl rfl ⟨by decide, by decide, by decide, Nat.le_of_ble_eq_true rfl⟩ ?_
          refine ac_of_ (by omega) (by omega) ?_
          refine am_ci ?_
          refine aw_goto 163 dX9_logs_159 (by decide) ?_
          refine aw_iast dX9_logs_163 ar_141 (by omega) ?_
          refine a_iiR3 (by omega) rfl rfl dX9_logs_164 ?_
          refine aw_goto 122 dX9_logs_167 (by decide) ?_
          refine ih3 (p + 1, _) ⟨by dsimp only; omega, by dsimp only; omega, ?_⟩ (by dsimp only; omega)
          dsimp only
          rw [show 4 + 6 * i + (p + 1) = 4 + 6 * i + p + 1 by omega]
          refine PF_s (by omega) (by omega) ?_ pf3
          unfold lgV
          rw [d1, d2, if_neg (by omega), if_pos (by omega), eo]
        · refine am_ci ?_
          refine aw_if_eq_y 162 dX9_logs_147 (by decide) (by decide) ?_
          refine aw_iconst dX9_logs_162 (by decide) ?_
          refine aw_iast dX9_logs_163 ar_141 (by omega) ?_
          refine a_iiR3 (by omega) rfl rfl dX9_logs_164 ?_
          refine aw_goto 122 dX9_logs_167 (by decide) ?_
          refine ih3 (p + 1, _) ⟨by dsimp only; omega, by dsimp only; omega, ?_⟩ (by dsimp only; omega)
          dsimp only
          rw [show 4 + 6 * i + (p + 1) = 4 + 6 * i + p + 1 by omega]
          refine PF_s (by omega) (by omega) ?_ pf3
          unfold lgV
          rw [d1, if_neg (by omega), if_neg (by omega)]
  · refine a_al0 (by decide) dX9_logs_77 ?_
    refine aw_getR (r := 141) 0 rfl dX9_logs_78 fl_X9_7 at_140 rfl rfl ?_
    refine a_il1 dX9_logs_81 ?_
    refine a_il2 dX9_logs_82 ?_
    refine aw_iaddR (by omega) dX9_logs_83 ?_
    refine a_al0 (by decide) dX9_logs_84 ?_
    refine a_il2 dX9_logs_85 ?_
    refine aw_callV 2 0 0 dX9_logs_86 yw_X9_isFleet ml_X9_275 in_X9_isFleet se_X9_isFleet (ci := 8) rfl at_140 (as := [_]) rfl rfl ⟨by decide, by decide, by decide, Nat.le_of_ble_eq_true rfl⟩ ?_
    refine ac_isFleet (by omega) (fun a1 => ?_) (fun a1 => ?_)
    · refine am_ci ?_
      refine aw_if_eq_n 100 dX9_logs_89 (by decide) (by decide) ?_
      refine a_al0 (by decide) dX9_logs_92 ?_
      refine a_il2 dX9_logs_93 ?_
      refine aw_callV 1 0 0 dX9_logs_94 yw_X9_sealNow ml_X9_278 in_X9_sealNow se_X9_sealNow (ci := 8) rfl at_140 (as := [_]) rfl rfl ⟨by decide, by decide, by decide, Nat.le_of_ble_eq_true rfl⟩ ?_
      refine ac_sealNow (by omega) ?_
      refine am_ci ?_
      refine aw_goto 101 dX9_logs_97 (by decide) ?_
      refine aw_iast dX9_logs_101 ar_141 (by omega) ?_
      refine a_iiR2 (by omega) rfl rfl dX9_logs_102 ?_
      refine aw_goto 72 dX9_logs_105 (by decide) ?_
      refine ih (f + 1, _) ⟨by dsimp only; omega, by dsimp only; omega, ?_⟩ (by dsimp only; omega)
      refine PF_s (by omega) rfl ?_ pf
      have em : mSN g1 f = mSN g f := by unfold mSN; rw [pf.1 _ _ (by omega), pf.1 _ _ (by omega)]
      rw [em]
      unfold lgV
      rw [if_pos (by omega), if_pos (by omega)]
    · refine am_ci ?_
      refine aw_if_eq_y 100 dX9_logs_89 (by decide) (by decide) ?_
      refine aw_iconst dX9_logs_100 (by decide) ?_
      refine aw_iast dX9_logs_101 ar_141 (by omega) ?_
      refine a_iiR2 (by omega) rfl rfl dX9_logs_102 ?_
      refine aw_goto 72 dX9_logs_105 (by decide) ?_
      refine ih (f + 1, _) ⟨by dsimp only; omega, by dsimp only; omega, ?_⟩ (by dsimp only; omega)
      refine PF_s (by omega) rfl ?_ pf
      unfold lgV
      rw [if_pos (by omega), if_neg (by omega)]
def shl (h : AH) (q : Int) : AH := fun k x => if k = 141 ∧ 496 ≤ x ∧ x < q then h 141 (x + 76) else h k x
theorem shl_0 (h : AH) : shl h 496 = h := by
  funext k j
  unfold shl
  rw [if_neg (by omega)]
theorem shl_s (h : AH) {i : Int} (hi : 496 ≤ i) : up (shl h i) 141 i (shl h i 141 (i + 76)) = shl h (i + 1) := by
  have e : shl h i 141 (i + 76) = h 141 (i + 76) := by unfold shl; rw [if_neg (by omega)]
  rw [e]
  funext k j
  unfold up shl
  by_cases h1 : k = 141 ∧ j = i
  · rw [if_pos h1, if_pos (by omega), h1.2]
  · rw [if_neg h1]
    by_cases h2 : k = 141 ∧ 496 ≤ j ∧ j < i
    · rw [if_pos h2, if_pos (by omega)]
    · rw [if_neg h2, if_neg (by omega)]
/-- the log behind logs() -/
def Logged (h h' : AH) : Prop := (h 141 8 ≤ 9 ∧ LogT h h') ∨ (h 141 8 = 10 ∧ LogT (up (shl h 1180) 141 8 9) h')
theorem ac_logs {h : AH} {K : AO → Nat → AH → Prop} (hM : 0 ≤ h 141 8 ∧ h 141 8 ≤ 10) (hn : 0 ≤ h 141 3 ∧ h 141 3 ≤ 12) (hf : 0 ≤ h 141 2 ∧ h 141 2 ≤ 4) (k : ∀ h', Logged h h' → K (.inl none) 159 h') : AC mX9_logs 4 0 0 159 [(2, 140)] h K := by
  refine ac_of (ls := [(2, 140), (9, 0), (9, 0), (9, 0)]) pn_X9 rfl (Nat.le_of_ble_eq_true rfl) rfl ?_
  refine a_al0 (by decide) dX9_logs_0 ?_
  refine aw_getR (r := 141) 0 rfl dX9_logs_1 fl_X9_7 at_140 rfl rfl ?_
  refine aw_bipush dX9_logs_4 (by decide) ?_
  refine aw_iald dX9_logs_6 ar_141 (by omega) ?_
  refine aw_bipush dX9_logs_7 (by decide) ?_
  refine aw_icmp_ne 55 dX9_logs_9 (by decide) (fun c9 => ?_) (fun c9 => ?_)
  · skip
    exact lg55 (by decide) (by omega) hn hf (fun g' q => k g' (Or.inl ⟨by omega, q⟩))
  · refine aw_sipush dX9_logs_12 (by decide) ?_
    refine a_is1 rfl rfl dX9_logs_15 ?_
    have H := aw_loop (fun i : Int => 496 ≤ i ∧ i ≤ 1180) (fun i => (1180 - i).toNat) (fun i => AW mX9_logs 4 0 0 K 159 16 [(2, 140), (0, i), (9, 0), (9, 0)] [] (shl h i)) (fun i hi ih => ?_) 496 ⟨by omega, by omega⟩
    · rw [shl_0] at H
      exact H
    · have e8 : shl h i 141 8 = 10 := by unfold shl; rw [if_neg (by omega)]; omega
      refine a_il1 dX9_logs_16 ?_
      refine aw_sipush dX9_logs_17 (by decide) ?_
      refine aw_icmp_ge 44 dX9_logs_20 (by decide) (fun c20 => ?_) (fun c20 => ?_)
      · refine a_al0 (by decide) dX9_logs_44 ?_
        refine aw_getR (r := 141) 0 rfl dX9_logs_45 fl_X9_7 at_140 rfl rfl ?_
        refine aw_bipush dX9_logs_48 (by decide) ?_
        refine aw_dup2 dX9_logs_50 rfl rfl ?_
        refine aw_iald dX9_logs_51 ar_141 (by omega) ?_
        refine aw_iconst dX9_logs_52 (by decide) ?_
        refine aw_isubR (by omega) dX9_logs_53 ?_
        refine aw_iast dX9_logs_54 ar_141 (by omega) ?_
        have hi8 : i = 1180 := by omega
        rw [e8, show (10 : Int) - 1 = 9 from rfl]
        subst hi8
        have e3 : up (shl h 1180) 141 8 9 141 3 = h 141 3 := by rw [up_ne (by omega)]; unfold shl; rw [if_neg (by omega)]
        have e2 : up (shl h 1180) 141 8 9 141 2 = h 141 2 := by rw [up_ne (by omega)]; unfold shl; rw [if_neg (by omega)]
        exact lg55 (by decide) (by rw [up_at]; omega) (by rw [e3]; exact hn) (by rw [e2]; exact hf) (fun g' q => k g' (Or.inr ⟨by omega, q⟩))
      · refine a_al0 (by decide) dX9_logs_23 ?_
        refine aw_getR (r := 141) 0 rfl dX9_logs_24 fl_X9_7 at_140 rfl rfl ?_
        refine a_il1 dX9_logs_27 ?_
        refine a_al0 (by decide) dX9_logs_28 ?_
        refine aw_getR (r := 141) 0 rfl dX9_logs_29 fl_X9_7 at_140 rfl rfl ?_
        refine a_il1 dX9_logs_32 ?_
        refine aw_bipush dX9_logs_33 (by decide) ?_
        refine aw_iaddR (by omega) dX9_logs_35 ?_
        refine aw_iald dX9_logs_36 ar_141 (by omega) ?_
        refine aw_iast dX9_logs_37 ar_141 (by omega) ?_
        refine a_iiR1 (by omega) rfl rfl dX9_logs_38 ?_
        refine aw_goto 16 dX9_logs_41 (by decide) ?_
        rw [shl_s h hi.1]
        exact ih (i + 1) ⟨by omega, by omega⟩ (by omega)
