/-! the model: seals, winds and runs -/
abbrev slS (h : AH) (f i p s : Int) : Int := if fSail h f i then mixI s (h 141 (46 + 25 * i + (11 + p))) else s
def slP (h : AH) (f i : Int) : Nat → Int → Int
  | 0, s => s
  | p + 1, s => slS h f i p (slP h f i p s)
def slN (h : AH) (f : Int) : Nat → Int → Int
  | 0, s => s
  | i + 1, s => slP h f i 6 (slN h f i s)
theorem slP_s (h : AH) (f i s : Int) {p : Int} (hp : 0 ≤ p) : slP h f i (p + 1).toNat s = slS h f i p (slP h f i p.toNat s) := by
  rw [show (p + 1).toNat = p.toNat + 1 by omega]
  show slS h f i (p.toNat : Int) (slP h f i p.toNat s) = _
  rw [Int.toNat_of_nonneg hp]
theorem slN_s (h : AH) (f s : Int) {i : Int} (hi : 0 ≤ i) : slN h f (i + 1).toNat s = slP h f i 6 (slN h f i.toNat s) := by
  rw [show (i + 1).toNat = i.toNat + 1 by omega]
  show slP h f (i.toNat : Int) 6 (slN h f i.toNat s) = _
  rw [Int.toNat_of_nonneg hi]
theorem slP_rg {h : AH} {f i s : Int} (hl : ∀ p, 0 ≤ p → p ≤ 5 → 0 ≤ h 141 (46 + 25 * i + (11 + p))) (hs : 0 ≤ s ∧ s ≤ 1000002) : ∀ p : Nat, p ≤ 6 → 0 ≤ slP h f i p s ∧ slP h f i p s ≤ 1000002
  | 0, _ => hs
  | p + 1, hp => by
    have ih := slP_rg (f := f) hl hs p (by omega)
    show 0 ≤ slS h f i p (slP h f i p s) ∧ slS h f i p (slP h f i p s) ≤ 1000002
    unfold slS
    split
    · exact mixI_rg ih.1 (hl p (by omega) (by omega))
    · exact ih
theorem slN_rg {h : AH} {f s n : Int} (hl : ∀ i p, 0 ≤ i → i < n → 0 ≤ p → p ≤ 5 → 0 ≤ h 141 (46 + 25 * i + (11 + p))) (hs : 0 ≤ s ∧ s ≤ 1000002) : ∀ i : Nat, i ≤ n → 0 ≤ slN h f i s ∧ slN h f i s ≤ 1000002
  | 0, _ => hs
  | i + 1, hi => slP_rg (fun p a b => hl i p (by omega) (by omega) a b) (slN_rg hl hs i (by omega)) 6 (by omega)
theorem Kept_row {h h' : AH} (hk : Kept h 141 h') : h' 141 = h 141 := by
  funext x
  exact hk.1 141 x (by decide) (by omega)
theorem ac_seal {f y : Int} {h : AH} {K : AO → Nat → AH → Prop} (ho : tOk h) (hk : 0 ≤ h 140 6 ∧ h 140 6 ≤ 8) (k1 : ¬ (0 ≤ f ∧ f < h 141 2) → K (.inl (some (0, 0))) 159 (up h 140 7 1)) (k2 : 0 ≤ f ∧ f < h 141 2 → ¬ (0 ≤ y ∧ y ≤ 999999) → K (.inl (some (0, 0))) 159 (up h 140 7 2)) (k3 : 0 ≤ f ∧ f < h 141 2 → 0 ≤ y ∧ y ≤ 999999 → h 141 (34 + 3 * f + 1) = 1 → K (.inl (some (0, 0))) 159 (up h 140 7 3)) (k0 : 0 ≤ f ∧ f < h 141 2 → 0 ≤ y ∧ y ≤ 999999 → ¬ h 141 (34 + 3 * f + 1) = 1 → ∀ h1 s, Kept (up h 140 7 0) 141 h1 → s = slN h f (h 141 3).toNat y → K (.inl (some (0, s))) 159 (up (up h1 141 (34 + 3 * f + 1) 1) 141 (34 + 3 * f + 2) s)) : AC mX9_seal 4 0 0 159 [(2, 140), (0, f), (0, y)] h K := by
  have hn := ho.2.2.1
  have hf := ho.2.2.2.2.1
  have hl := fun i p a b c d => (ho.2.1 i a b).2 p c d
  refine ac_of (ls := [(2, 140), (0, f), (0, y), (9, 0), (9, 0), (9, 0)]) pn_X9 rfl (Nat.le_of_ble_eq_true rfl) rfl ?_
  refine a_al0 (by decide) dX9_seal_0 ?_
  refine a_al0 (by decide) dX9_seal_1 ?_
  refine a_il1 dX9_seal_2 ?_
  refine aw_callV 2 0 0 dX9_seal_3 yw_X9_isFleet ml_X9_275 in_X9_isFleet se_X9_isFleet (ci := 8) rfl at_140 (as := [_]) rfl rfl ⟨by decide, by decide, by decide, Nat.le_of_ble_eq_true rfl⟩ ?_
  refine ac_isFleet hf.1 (fun q => ?_) (fun q => ?_)
  · refine am_ci ?_
    refine aw_if_ne_y 13 dX9_seal_6 (by decide) (by decide) ?_
    refine a_il2 dX9_seal_13 ?_
    refine aw_iconst dX9_seal_14 (by decide) ?_
    refine aw_ldcw dX9_seal_15 kc_X9_321 (by decide) ?_
    refine aw_callS 1 0 0 dX9_seal_18 yw_X9_isIn ml_X9_76 sm_X9_isIn (as := [_, _, _]) rfl rfl ⟨by decide, by decide, by decide, Nat.le_of_ble_eq_true rfl⟩ ?_
    refine ac_isIn (fun q2 => ?_) (fun q2 => ?_)
    · refine am_ci ?_
      refine aw_if_ne_y 28 dX9_seal_21 (by decide) (by decide) ?_
      refine a_al0 (by decide) dX9_seal_28 ?_
      refine aw_getR (r := 141) 0 rfl dX9_seal_29 fl_X9_7 at_140 rfl rfl ?_
      refine aw_bipush dX9_seal_32 (by decide) ?_
      refine aw_iconst dX9_seal_34 (by decide) ?_
      refine a_il1 dX9_seal_35 ?_
      refine aw_imulR (by omega) dX9_seal_36 ?_
      refine aw_iaddR (by omega) dX9_seal_37 ?_
      refine aw_iconst dX9_seal_38 (by decide) ?_
      refine aw_iaddR (by omega) dX9_seal_39 ?_
      refine aw_iald dX9_seal_40 ar_141 (by omega) ?_
      refine aw_iconst dX9_seal_41 (by decide) ?_
      refine aw_icmp_ne 49 dX9_seal_42 (by decide) (fun c42 => ?_) (fun c42 => ?_)
      · refine aw_iconst dX9_seal_49 (by decide) ?_
        refine aw_put 7 dX9_seal_50 fp_X9_66 at_140 rfl ?_
        refine a_al0 (by decide) dX9_seal_53 ?_
        refine aw_get 7 dX9_seal_54 fl_X9_66 at_140 rfl ?_
        try simp (disch := omega) only [up_at, up_ne]
        refine aw_if_le_y 62 dX9_seal_57 (by decide) (by decide) ?_
        refine a_al0 (by decide) dX9_seal_62 ?_
        refine a_al0 (by decide) dX9_seal_63 ?_
        refine aw_getR (r := 141) 0 rfl dX9_seal_64 fl_X9_7 at_140 rfl rfl ?_
        try simp (disch := omega) only [up_at, up_ne]
        refine aw_callV 2 0 0 dX9_seal_67 yw_X9_keeps ml_X9_80 in_X9_keeps se_X9_keeps (ci := 8) rfl at_140 (as := [_]) rfl rfl ⟨by decide, by decide, by decide, Nat.le_of_ble_eq_true rfl⟩ ?_
        have ns : ¬ h 141 (34 + 3 * f + 1) = 1 := by assumption
        refine ac_keeps ar_141 (by decide) (by omega) (by rw [up_ne (by omega)]; exact hk) (fun h1 hk1 => ?_)
        have er : ∀ x, h1 141 x = h 141 x := fun x => by rw [Kept_row hk1, up_ne (by omega)]
        have k9 := k0 q q2 ns h1 _ hk1 rfl
        refine am_cv ?_
        refine a_il2 dX9_seal_70 ?_
        refine a_is3 rfl rfl dX9_seal_71 ?_
        refine aw_iconst dX9_seal_72 (by decide) ?_
        refine a_is4 rfl rfl dX9_seal_73 ?_
        refine aw_loop (fun q : Int × Int × AV => 0 ≤ q.1 ∧ q.1 ≤ h 141 3 ∧ q.2.1 = slN h f q.1.toNat y ∧ am_n2 q.2.2 = true) (fun q => (h 141 3 - q.1).toNat) (fun q => AW mX9_seal 4 0 0 K 159 75 [(2, 140), (0, f), (0, y), (0, q.2.1), (0, q.1), q.2.2] [] h1) (fun q hq ih => ?_) (0, y, (9, 0)) ⟨by dsimp only; omega, hn.1, rfl, rfl⟩
        obtain ⟨i, s, w⟩ := q
        obtain ⟨i0, i1, es, hw⟩ := hq
        dsimp only at i0 i1 es ih hw ⊢
        have rs : 0 ≤ s ∧ s ≤ 1000002 := by
          rw [es]
          exact slN_rg (n := h 141 3) (fun i p a b c d => by have := hl i p a b c d; omega) (by omega) _ (by omega)
        have e2 := slN_s h f y i0
        have e3 : h1 141 3 = h 141 3 := er 3
        refine a_il4 dX9_seal_75 ?_
        refine a_al0 (by decide) dX9_seal_77 ?_
        refine aw_getR (r := 141) 0 rfl dX9_seal_78 fl_X9_7 at_140 rfl rfl ?_
        try simp (disch := omega) only [up_at, up_ne]
        refine aw_iconst dX9_seal_81 (by decide) ?_
        refine aw_iald dX9_seal_82 ar_141 (by omega) ?_
        try simp (disch := omega) only [up_at, up_ne]
        refine aw_icmp_ge 134 dX9_seal_83 (by decide) (fun c83 => ?_) (fun c83 => ?_)
        · refine a_al0 (by decide) dX9_seal_134 ?_
          refine aw_getR (r := 141) 0 rfl dX9_seal_135 fl_X9_7 at_140 rfl rfl ?_
          try simp (disch := omega) only [up_at, up_ne]
          refine aw_bipush dX9_seal_138 (by decide) ?_
          refine aw_iconst dX9_seal_140 (by decide) ?_
          refine a_il1 dX9_seal_141 ?_
          refine aw_imulR (by omega) dX9_seal_142 ?_
          refine aw_iaddR (by omega) dX9_seal_143 ?_
          refine aw_iconst dX9_seal_144 (by decide) ?_
          refine aw_iaddR (by omega) dX9_seal_145 ?_
          refine aw_iconst dX9_seal_146 (by decide) ?_
          refine aw_iast dX9_seal_147 ar_141 (by omega) ?_
          refine a_al0 (by decide) dX9_seal_148 ?_
          refine aw_getR (r := 141) 0 rfl dX9_seal_149 fl_X9_7 at_140 rfl rfl ?_
          try simp (disch := omega) only [up_at, up_ne]
          refine aw_bipush dX9_seal_152 (by decide) ?_
          refine aw_iconst dX9_seal_154 (by decide) ?_
          refine a_il1 dX9_seal_155 ?_
          refine aw_imulR (by omega) dX9_seal_156 ?_
          refine aw_iaddR (by omega) dX9_seal_157 ?_
          refine aw_iconst dX9_seal_158 (by decide) ?_
          refine aw_iaddR (by omega) dX9_seal_159 ?_
          refine a_il3 dX9_seal_160 ?_
          refine aw_iast dX9_seal_161 ar_141 (by omega) ?_
          refine a_il3 dX9_seal_162 ?_
          refine aw_iret dX9_seal_163 rfl ?_
          rw [← show i = h 141 3 by omega, ← es] at k9
          exact k9
        · refine aw_iconst dX9_seal_86 (by decide) ?_
          refine a_is5 rfl rfl dX9_seal_87 ?_
          refine aw_loop (fun q : Int × Int => 0 ≤ q.1 ∧ q.1 ≤ 6 ∧ q.2 = slP h f i q.1.toNat s) (fun q => (6 - q.1).toNat) (fun q => AW mX9_seal 4 0 0 K 159 89 [(2, 140), (0, f), (0, y), (0, q.2), (0, i), (0, q.1)] [] h1) (fun q hq ih2 => ?_) (0, s) ⟨by dsimp only; omega, by dsimp only; omega, rfl⟩
          obtain ⟨p, b⟩ := q
          obtain ⟨p0, p6, eb⟩ := hq
          dsimp only at p0 p6 eb ih2 ⊢
          have rb : 0 ≤ b ∧ b ≤ 1000002 := by
            rw [eb]
            exact slP_rg (fun p c d => by have := hl i p i0 (by omega) c d; omega) rs _ (by omega)
          have e4 := slP_s h f i s p0
          have hi12 : i < 12 := by omega
          refine a_il5 dX9_seal_89 ?_
          refine aw_bipush dX9_seal_91 (by decide) ?_
          refine aw_icmp_ge 128 dX9_seal_93 (by decide) (fun c93 => ?_) (fun c93 => ?_)
          · refine a_iiR4 (by omega) rfl rfl dX9_seal_128 ?_
            refine aw_goto 75 dX9_seal_131 (by decide) ?_
            refine ih (i + 1, b, (0, p)) ⟨by dsimp only; omega, by dsimp only; omega, ?_, rfl⟩ (by dsimp only; omega)
            dsimp only
            rw [e2, eb, show p = 6 by omega, es]
            rfl
          · have hv := hl i p i0 (by omega) p0 (by omega)
            refine a_al0 (by decide) dX9_seal_96 ?_
            refine a_il4 dX9_seal_97 ?_
            refine a_il1 dX9_seal_99 ?_
            refine aw_callV 3 0 0 dX9_seal_100 yw_X9_sailsFor ml_X9_299 in_X9_sailsFor se_X9_sailsFor (ci := 8) rfl at_140 (as := [_, _]) rfl rfl ⟨by decide, by decide, by decide, Nat.le_of_ble_eq_true rfl⟩ ?_
            refine ac_sailsFor (by omega) (fun q4 => ?_) (fun q4 => ?_)
            · rw [er, er] at q4
              refine am_ci ?_
              refine aw_if_eq_n 122 dX9_seal_103 (by decide) (by decide) ?_
              refine a_il3 dX9_seal_106 ?_
              refine a_al0 (by decide) dX9_seal_107 ?_
              refine a_il4 dX9_seal_108 ?_
              refine aw_bipush dX9_seal_110 (by decide) ?_
              refine a_il5 dX9_seal_112 ?_
              refine aw_iaddR (by omega) dX9_seal_114 ?_
              refine aw_callV 1 0 0 dX9_seal_115 yw_X9_of ml_X9_213 in_X9_of se_X9_of (ci := 8) rfl at_140 (as := [_, _]) rfl rfl ⟨by decide, by decide, by decide, Nat.le_of_ble_eq_true rfl⟩ ?_
              refine ac_of_ (by omega) (by omega) ?_
              rw [er]
              refine am_ci ?_
              try simp (disch := omega) only [up_at, up_ne]
              refine aw_callS 1 0 0 dX9_seal_118 yw_X9_mixes ml_X9_322 sm_X9_mixes (as := [_, _]) rfl rfl ⟨by decide, by decide, by decide, Nat.le_of_ble_eq_true rfl⟩ ?_
              refine ac_mixes rb (by omega) ?_
              refine am_ci ?_
              try simp (disch := omega) only [up_at, up_ne]
              refine a_is3 rfl rfl dX9_seal_121 ?_
              refine a_iiR5 (by omega) rfl rfl dX9_seal_122 ?_
              refine aw_goto 89 dX9_seal_125 (by decide) ?_
              refine ih2 (p + 1, mixI b (h 141 (46 + 25 * i + (11 + p)))) ⟨by dsimp only; omega, by dsimp only; omega, ?_⟩ (by dsimp only; omega)
              dsimp only
              rw [e4, ← eb]
              unfold slS
              rw [if_pos q4]
            · rw [er, er] at q4
              refine am_ci ?_
              refine aw_if_eq_y 122 dX9_seal_103 (by decide) (by decide) ?_
              refine a_iiR5 (by omega) rfl rfl dX9_seal_122 ?_
              refine aw_goto 89 dX9_seal_125 (by decide) ?_
              refine ih2 (p + 1, b) ⟨by dsimp only; omega, by dsimp only; omega, ?_⟩ (by dsimp only; omega)
              dsimp only
              rw [e4, ← eb]
              unfold slS
              rw [if_neg q4]
      · refine aw_iconst dX9_seal_45 (by decide) ?_
        refine aw_goto 50 dX9_seal_46 (by decide) ?_
        refine aw_put 7 dX9_seal_50 fp_X9_66 at_140 rfl ?_
        refine a_al0 (by decide) dX9_seal_53 ?_
        refine aw_get 7 dX9_seal_54 fl_X9_66 at_140 rfl ?_
        try simp (disch := omega) only [up_at, up_ne]
        refine aw_if_le_n 62 dX9_seal_57 (by decide) (by decide) ?_
        refine aw_iconst dX9_seal_60 (by decide) ?_
        refine aw_iret dX9_seal_61 rfl ?_
        have ns : h 141 (34 + 3 * f + 1) = 1 := by omega
        exact k3 q q2 ns
    · refine am_ci ?_
      refine aw_if_ne_n 28 dX9_seal_21 (by decide) (by decide) ?_
      refine aw_iconst dX9_seal_24 (by decide) ?_
      refine aw_goto 50 dX9_seal_25 (by decide) ?_
      refine aw_put 7 dX9_seal_50 fp_X9_66 at_140 rfl ?_
      refine a_al0 (by decide) dX9_seal_53 ?_
      refine aw_get 7 dX9_seal_54 fl_X9_66 at_140 rfl ?_
      try simp (disch := omega) only [up_at, up_ne]
      refine aw_if_le_n 62 dX9_seal_57 (by decide) (by decide) ?_
      refine aw_iconst dX9_seal_60 (by decide) ?_
      refine aw_iret dX9_seal_61 rfl ?_
      exact k2 q q2
  · refine am_ci ?_
    refine aw_if_ne_n 13 dX9_seal_6 (by decide) (by decide) ?_
    refine aw_iconst dX9_seal_9 (by decide) ?_
    refine aw_goto 50 dX9_seal_10 (by decide) ?_
    refine aw_put 7 dX9_seal_50 fp_X9_66 at_140 rfl ?_
    refine a_al0 (by decide) dX9_seal_53 ?_
    refine aw_get 7 dX9_seal_54 fl_X9_66 at_140 rfl ?_
    try simp (disch := omega) only [up_at, up_ne]
    refine aw_if_le_n 62 dX9_seal_57 (by decide) (by decide) ?_
    refine aw_iconst dX9_seal_60 (by decide) ?_
    refine aw_iret dX9_seal_61 rfl ?_
    exact k1 q
def mReady (h : AH) : Prop := (∀ i, 0 ≤ i → i < h 141 3 → h 141 (46 + 25 * i + 10) = -1 → ¬ h 141 (34 + 3 * h 141 (46 + 25 * i + 0) + 1) = 0) ∧ h 141 4 < 1000
theorem ac_isReady {h : AH} {K : AO → Nat → AH → Prop} (hn : 0 ≤ h 141 3 ∧ h 141 3 ≤ 12) (hf : ∀ i, 0 ≤ i → i < h 141 3 → 0 ≤ h 141 (46 + 25 * i + 0) ∧ h 141 (46 + 25 * i + 0) ≤ 3) (k1 : mReady h → K (.inl (some (0, 1))) 159 h) (k0 : ¬ mReady h → K (.inl (some (0, 0))) 159 h) : AC mX9_isReady 3 0 0 159 [(2, 140)] h K := by
  refine ac_of (ls := [(2, 140), (9, 0)]) pn_X9 rfl (Nat.le_of_ble_eq_true rfl) rfl ?_
  refine aw_iconst dX9_isReady_0 (by decide) ?_
  refine a_is1 rfl rfl dX9_isReady_1 ?_
  refine aw_loop (fun i : Int => 0 ≤ i ∧ i ≤ h 141 3 ∧ ∀ j, 0 ≤ j → j < i → h 141 (46 + 25 * j + 10) = -1 → ¬ h 141 (34 + 3 * h 141 (46 + 25 * j + 0) + 1) = 0) (fun i => (h 141 3 - i).toNat) (fun i => AW mX9_isReady 3 0 0 K 159 2 [(2, 140), (0, i)] [] h) (fun i hi ih => ?_) 0 ⟨by omega, hn.1, fun j a b => by omega⟩
  obtain ⟨i0, i1, hi⟩ := hi
  refine a_il1 dX9_isReady_2 ?_
  refine a_al0 (by decide) dX9_isReady_3 ?_
  refine aw_getR (r := 141) 0 rfl dX9_isReady_4 fl_X9_7 at_140 rfl rfl ?_
  refine aw_iconst dX9_isReady_7 (by decide) ?_
  refine aw_iald dX9_isReady_8 ar_141 (by omega) ?_
  refine aw_icmp_ge 49 dX9_isReady_9 (by decide) (fun c9 => ?_) (fun c9 => ?_)
  · have ei : i = h 141 3 := by omega
    refine a_al0 (by decide) dX9_isReady_49 ?_
    refine aw_getR (r := 141) 0 rfl dX9_isReady_50 fl_X9_7 at_140 rfl rfl ?_
    refine aw_iconst dX9_isReady_53 (by decide) ?_
    refine aw_iald dX9_isReady_54 ar_141 (by omega) ?_
    refine aw_sipush dX9_isReady_55 (by decide) ?_
    refine aw_icmp_ge 65 dX9_isReady_58 (by decide) (fun c58 => ?_) (fun c58 => ?_)
    · refine aw_iconst dX9_isReady_65 (by decide) ?_
      refine aw_zret dX9_isReady_66 rfl (by omega) ?_
      exact k0 (fun x => by have := x.2; omega)
    · refine aw_iconst dX9_isReady_61 (by decide) ?_
      refine aw_goto 66 dX9_isReady_62 (by decide) ?_
      refine aw_zret dX9_isReady_66 rfl (by omega) ?_
      exact k1 ⟨fun j a b => hi j a (by omega), by omega⟩
  · have hfi := hf i i0 (by omega)
    refine a_al0 (by decide) dX9_isReady_12 ?_
    refine a_il1 dX9_isReady_13 ?_
    refine aw_callV 2 0 0 dX9_isReady_14 yw_X9_sails ml_X9_216 in_X9_sails se_X9_sails (ci := 8) rfl at_140 (as := [_]) rfl rfl ⟨by decide, by decide, by decide, Nat.le_of_ble_eq_true rfl⟩ ?_
    refine ac_sails (by omega) (fun q => ?_) (fun q => ?_)
    · refine am_ci ?_
      refine aw_if_eq_n 43 dX9_isReady_17 (by decide) (by decide) ?_
      refine a_al0 (by decide) dX9_isReady_20 ?_
      refine aw_getR (r := 141) 0 rfl dX9_isReady_21 fl_X9_7 at_140 rfl rfl ?_
      refine aw_bipush dX9_isReady_24 (by decide) ?_
      refine aw_iconst dX9_isReady_26 (by decide) ?_
      refine a_al0 (by decide) dX9_isReady_27 ?_
      refine a_il1 dX9_isReady_28 ?_
      refine aw_iconst dX9_isReady_29 (by decide) ?_
      refine aw_callV 1 0 0 dX9_isReady_30 yw_X9_of ml_X9_213 in_X9_of se_X9_of (ci := 8) rfl at_140 (as := [_, _]) rfl rfl ⟨by decide, by decide, by decide, Nat.le_of_ble_eq_true rfl⟩ ?_
      refine ac_of_ (by omega) (by decide) ?_
      refine am_ci ?_
      refine aw_imulR (by omega) dX9_isReady_33 ?_
      refine aw_iaddR (by omega) dX9_isReady_34 ?_
      refine aw_iconst dX9_isReady_35 (by decide) ?_
      refine aw_iaddR (by omega) dX9_isReady_36 ?_
      refine aw_iald dX9_isReady_37 ar_141 (by omega) ?_
      refine aw_if_ne 43 dX9_isReady_38 (by decide) (fun c38 => ?_) (fun c38 => ?_)
      · refine a_iiR1 (by omega) rfl rfl dX9_isReady_43 ?_
        refine aw_goto 2 dX9_isReady_46 (by decide) ?_
        refine ih (i + 1) ⟨by omega, by omega, fun j a b => ?_⟩ (by omega)
        by_cases e : j = i
        · rw [e]; exact fun _ => by assumption
        · exact hi j a (by omega)
      · refine aw_iconst dX9_isReady_41 (by decide) ?_
        refine aw_zret dX9_isReady_42 rfl (by omega) ?_
        exact k0 (fun x => x.1 i i0 (by omega) q (by omega))
    · refine am_ci ?_
      refine aw_if_eq_y 43 dX9_isReady_17 (by decide) (by decide) ?_
      refine a_iiR1 (by omega) rfl rfl dX9_isReady_43 ?_
      refine aw_goto 2 dX9_isReady_46 (by decide) ?_
      refine ih (i + 1) ⟨by omega, by omega, fun j a b => ?_⟩ (by omega)
      by_cases e : j = i
      · rw [e]; exact fun y => absurd y q
      · exact hi j a (by omega)
theorem ac_run {h : AH} {K : AO → Nat → AH → Prop} (ho : tOk h) (hk : 0 ≤ h 140 6 ∧ h 140 6 ≤ 8) (hf : ∀ i, 0 ≤ i → i < h 141 3 → 0 ≤ h 141 (46 + 25 * i + 0) ∧ h 141 (46 + 25 * i + 0) ≤ 3) (k1 : ¬ mReady h → K (.inl (some (0, 0))) 159 (up h 140 7 1)) (k0 : mReady h → ∀ h1 g', Kept (up h 140 7 0) 141 h1 → GoesOn h1 1 g' → K (.inl (some (0, g' 140 24))) 159 g') : AC mX9_run 9 0 0 159 [(2, 140)] h K := by
  have hn := ho.2.2.1
  refine ac_of (ls := [(2, 140)]) pn_X9 rfl (Nat.le_of_ble_eq_true rfl) rfl ?_
  refine a_al0 (by decide) dX9_run_0 ?_
  refine a_al0 (by decide) dX9_run_1 ?_
  refine aw_callV 3 0 0 dX9_run_2 yw_X9_isReady ml_X9_343 in_X9_isReady se_X9_isReady (ci := 8) rfl at_140 (as := []) rfl rfl ⟨by decide, by decide, by decide, Nat.le_of_ble_eq_true rfl⟩ ?_
  refine ac_isReady hn hf (fun q => ?_) (fun q => ?_)
  · refine am_ci ?_
    refine aw_if_eq_n 12 dX9_run_5 (by decide) (by decide) ?_
    refine aw_iconst dX9_run_8 (by decide) ?_
    refine aw_goto 13 dX9_run_9 (by decide) ?_
    refine aw_put 7 dX9_run_13 fp_X9_66 at_140 rfl ?_
    refine a_al0 (by decide) dX9_run_16 ?_
    refine aw_get 7 dX9_run_17 fl_X9_66 at_140 rfl ?_
    try simp (disch := omega) only [up_at, up_ne]
    refine aw_if_le_y 25 dX9_run_20 (by decide) (by decide) ?_
    refine a_al0 (by decide) dX9_run_25 ?_
    refine a_al0 (by decide) dX9_run_26 ?_
    refine aw_getR (r := 141) 0 rfl dX9_run_27 fl_X9_7 at_140 rfl rfl ?_
    try simp (disch := omega) only [up_at, up_ne]
    refine aw_callV 2 0 0 dX9_run_30 yw_X9_keeps ml_X9_80 in_X9_keeps se_X9_keeps (ci := 8) rfl at_140 (as := [_]) rfl rfl ⟨by decide, by decide, by decide, Nat.le_of_ble_eq_true rfl⟩ ?_
    refine ac_keeps ar_141 (by decide) (by omega) (by rw [up_ne (by omega)]; exact hk) (fun h1 hk1 => ?_)
    refine am_cv ?_
    refine a_al0 (by decide) dX9_run_33 ?_
    refine aw_iconst dX9_run_34 (by decide) ?_
    refine aw_callV 7 0 0 dX9_run_35 yw_X9_goesOn ml_X9_325 in_X9_goesOn se_X9_goesOn (ci := 8) rfl at_140 (as := [_]) rfl rfl ⟨by decide, by decide, by decide, Nat.le_of_ble_eq_true rfl⟩ ?_
    refine ac_goesOn (tOk_eq (Kept_row hk1) (tOk_th ho)) (fun g' hg => ?_)
    refine am_cv ?_
    refine a_al0 (by decide) dX9_run_38 ?_
    refine aw_get 24 dX9_run_39 fl_X9_257 at_140 rfl ?_
    try simp (disch := omega) only [up_at, up_ne]
    refine aw_iret dX9_run_42 rfl ?_
    exact k0 q h1 g' hk1 hg
  · refine am_ci ?_
    refine aw_if_eq_y 12 dX9_run_5 (by decide) (by decide) ?_
    refine aw_iconst dX9_run_12 (by decide) ?_
    refine aw_put 7 dX9_run_13 fp_X9_66 at_140 rfl ?_
    refine a_al0 (by decide) dX9_run_16 ?_
    refine aw_get 7 dX9_run_17 fl_X9_66 at_140 rfl ?_
    try simp (disch := omega) only [up_at, up_ne]
    refine aw_if_le_n 25 dX9_run_20 (by decide) (by decide) ?_
    refine aw_iconst dX9_run_23 (by decide) ?_
    refine aw_iret dX9_run_24 rfl ?_
    exact k1 q
theorem ac_setWind {d f : Int} {h : AH} {K : AO → Nat → AH → Prop} (ho : tOk h) (hk : 0 ≤ h 140 6 ∧ h 140 6 ≤ 8) (k1 : ¬ ((0 ≤ d ∧ d ≤ 7) ∧ 0 ≤ f ∧ f ≤ 9) → K (.inl (some (0, 0))) 159 (up h 140 7 1)) (k0 : (0 ≤ d ∧ d ≤ 7) → 0 ≤ f ∧ f ≤ 9 → ∀ h1, Kept (up h 140 7 0) 141 h1 → K (.inl (some (0, 10 * h 141 5 + h 141 6))) 159 (up (up h1 141 5 d) 141 6 f)) : AC mX9_setWind 3 0 0 159 [(2, 140), (0, d), (0, f)] h K := by
  have b5 := ho.1.2.2.1
  have b6 := ho.1.2.2.2
  refine ac_of (ls := [(2, 140), (0, d), (0, f), (9, 0)]) pn_X9 rfl (Nat.le_of_ble_eq_true rfl) rfl ?_
  refine a_al0 (by decide) dX9_setWind_0 ?_
  refine a_il1 dX9_setWind_1 ?_
  refine aw_iconst dX9_setWind_2 (by decide) ?_
  refine aw_bipush dX9_setWind_3 (by decide) ?_
  refine aw_callS 1 0 0 dX9_setWind_5 yw_X9_isIn ml_X9_76 sm_X9_isIn (as := [_, _, _]) rfl rfl ⟨by decide, by decide, by decide, Nat.le_of_ble_eq_true rfl⟩ ?_
  refine ac_isIn (fun q => ?_) (fun q => ?_)
  · refine am_ci ?_
    refine aw_if_eq_n 25 dX9_setWind_8 (by decide) (by decide) ?_
    refine a_il2 dX9_setWind_11 ?_
    refine aw_iconst dX9_setWind_12 (by decide) ?_
    refine aw_bipush dX9_setWind_13 (by decide) ?_
    refine aw_callS 1 0 0 dX9_setWind_15 yw_X9_isIn ml_X9_76 sm_X9_isIn (as := [_, _, _]) rfl rfl ⟨by decide, by decide, by decide, Nat.le_of_ble_eq_true rfl⟩ ?_
    refine ac_isIn (fun q2 => ?_) (fun q2 => ?_)
    · refine am_ci ?_
      refine aw_if_eq_n 25 dX9_setWind_18 (by decide) (by decide) ?_
      refine aw_iconst dX9_setWind_21 (by decide) ?_
      refine aw_goto 26 dX9_setWind_22 (by decide) ?_
      refine aw_put 7 dX9_setWind_26 fp_X9_66 at_140 rfl ?_
      refine a_al0 (by decide) dX9_setWind_29 ?_
      refine aw_get 7 dX9_setWind_30 fl_X9_66 at_140 rfl ?_
      try simp (disch := omega) only [up_at, up_ne]
      refine aw_if_le_y 38 dX9_setWind_33 (by decide) (by decide) ?_
      refine a_al0 (by decide) dX9_setWind_38 ?_
      refine a_al0 (by decide) dX9_setWind_39 ?_
      refine aw_getR (r := 141) 0 rfl dX9_setWind_40 fl_X9_7 at_140 rfl rfl ?_
      try simp (disch := omega) only [up_at, up_ne]
      refine aw_callV 2 0 0 dX9_setWind_43 yw_X9_keeps ml_X9_80 in_X9_keeps se_X9_keeps (ci := 8) rfl at_140 (as := [_]) rfl rfl ⟨by decide, by decide, by decide, Nat.le_of_ble_eq_true rfl⟩ ?_
      refine ac_keeps ar_141 (by decide) (by omega) (by rw [up_ne (by omega)]; exact hk) (fun h1 hk1 => ?_)
      have er : ∀ x, h1 141 x = h 141 x := fun x => by rw [Kept_row hk1, up_ne (by omega)]
      have e5 := er 5
      have e6 := er 6
      have k9 := k0 q q2 h1 hk1
      rw [← e5, ← e6] at k9
      refine am_cv ?_
      refine aw_bipush dX9_setWind_46 (by decide) ?_
      refine a_al0 (by decide) dX9_setWind_48 ?_
      refine aw_getR (r := 141) 0 rfl dX9_setWind_49 fl_X9_7 at_140 rfl rfl ?_
      try simp (disch := omega) only [up_at, up_ne]
      refine aw_iconst dX9_setWind_52 (by decide) ?_
      refine aw_iald dX9_setWind_53 ar_141 (by omega) ?_
      try simp (disch := omega) only [up_at, up_ne]
      refine aw_imulR (by omega) dX9_setWind_54 ?_
      refine a_al0 (by decide) dX9_setWind_55 ?_
      refine aw_getR (r := 141) 0 rfl dX9_setWind_56 fl_X9_7 at_140 rfl rfl ?_
      try simp (disch := omega) only [up_at, up_ne]
      refine aw_bipush dX9_setWind_59 (by decide) ?_
      refine aw_iald dX9_setWind_61 ar_141 (by omega) ?_
      try simp (disch := omega) only [up_at, up_ne]
      refine aw_iaddR (by omega) dX9_setWind_62 ?_
      refine a_is3 rfl rfl dX9_setWind_63 ?_
      refine a_al0 (by decide) dX9_setWind_64 ?_
      refine aw_getR (r := 141) 0 rfl dX9_setWind_65 fl_X9_7 at_140 rfl rfl ?_
      try simp (disch := omega) only [up_at, up_ne]
      refine aw_iconst dX9_setWind_68 (by decide) ?_
      refine a_il1 dX9_setWind_69 ?_
      refine aw_iast dX9_setWind_70 ar_141 (by omega) ?_
      refine a_al0 (by decide) dX9_setWind_71 ?_
      refine aw_getR (r := 141) 0 rfl dX9_setWind_72 fl_X9_7 at_140 rfl rfl ?_
      try simp (disch := omega) only [up_at, up_ne]
      refine aw_bipush dX9_setWind_75 (by decide) ?_
      refine a_il2 dX9_setWind_77 ?_
      refine aw_iast dX9_setWind_78 ar_141 (by omega) ?_
      refine a_il3 dX9_setWind_79 ?_
      refine aw_iret dX9_setWind_80 rfl ?_
      exact k9
    · refine am_ci ?_
      refine aw_if_eq_y 25 dX9_setWind_18 (by decide) (by decide) ?_
      refine aw_iconst dX9_setWind_25 (by decide) ?_
      refine aw_put 7 dX9_setWind_26 fp_X9_66 at_140 rfl ?_
      refine a_al0 (by decide) dX9_setWind_29 ?_
      refine aw_get 7 dX9_setWind_30 fl_X9_66 at_140 rfl ?_
      try simp (disch := omega) only [up_at, up_ne]
      refine aw_if_le_n 38 dX9_setWind_33 (by decide) (by decide) ?_
      refine aw_iconst dX9_setWind_36 (by decide) ?_
      refine aw_iret dX9_setWind_37 rfl ?_
      exact k1 (fun x => q2 x.2)
  · refine am_ci ?_
    refine aw_if_eq_y 25 dX9_setWind_8 (by decide) (by decide) ?_
    refine aw_iconst dX9_setWind_25 (by decide) ?_
    refine aw_put 7 dX9_setWind_26 fp_X9_66 at_140 rfl ?_
    refine a_al0 (by decide) dX9_setWind_29 ?_
    refine aw_get 7 dX9_setWind_30 fl_X9_66 at_140 rfl ?_
    try simp (disch := omega) only [up_at, up_ne]
    refine aw_if_le_n 38 dX9_setWind_33 (by decide) (by decide) ?_
    refine aw_iconst dX9_setWind_36 (by decide) ?_
    refine aw_iret dX9_setWind_37 rfl ?_
    exact k1 (fun x => q x.1)
