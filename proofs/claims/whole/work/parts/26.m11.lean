/-! the model: coming and sinking; a pulse -/
def CaF (h : AH) (q : Int) (h' : AH) : Prop := ∀ k x, ¬ (k = 141 ∧ 46 ≤ x ∧ x < 46 + 25 * q ∧ ((x - 46) % 25 = 1 ∨ (x - 46) % 25 = 2 ∨ (x - 46) % 25 = 8)) → ¬ (k = 153 ∧ 0 ≤ x ∧ x < q) → h' k x = h k x
def CaP (h h' : AH) (j : Int) : Prop :=
  (h 149 j = 0 → h' 141 (46 + 25 * j + 1) = h 141 (46 + 25 * j + 1) ∧ h' 141 (46 + 25 * j + 2) = h 141 (46 + 25 * j + 2) ∧ h' 141 (46 + 25 * j + 8) = h 141 (46 + 25 * j + 8) ∧ h' 153 j = h 153 j) ∧
  (¬ h 149 j = 0 → h' 141 (46 + 25 * j + 1) = h 150 j ∧ h' 141 (46 + 25 * j + 2) = h 151 j ∧ h' 141 (46 + 25 * j + 8) = mx 0 (h 141 (46 + 25 * j + 8) - 90) ∧ h' 153 j = h 153 j + 1)
def Came (h : AH) (n : Int) (h' : AH) : Prop := CaF h n h' ∧ ∀ j, 0 ≤ j → j < n → CaP h h' j
theorem pu_C {p : Int} {v : AV} {h : AH} {K : AO → Nat → AH → Prop} (hp : 0 ≤ p ∧ p ≤ 5) (hn : 0 ≤ h 141 3 ∧ h 141 3 ≤ 12) (hw : ∀ j, 0 ≤ j → j < h 141 3 → (0 ≤ h 141 (46 + 25 * j + 8) ∧ h 141 (46 + 25 * j + 8) ≤ 180) ∧ (0 ≤ h 153 j ∧ h 153 j ≤ 1000000)) (k : ∀ h' v, Came h (h 141 3) h' → AW mX9_pulses 6 0 0 K 159 177 [(2, 140), (0, p), v] [] h') : AW mX9_pulses 6 0 0 K 159 92 [(2, 140), (0, p), v] [] h := by
  refine aw_iconst dX9_pulses_92 (by decide) ?_
  refine a_is2 rfl rfl dX9_pulses_93 ?_
  refine aw_loop (fun q : Int × AH => 0 ≤ q.1 ∧ q.1 ≤ h 141 3 ∧ Came h q.1 q.2) (fun q => (h 141 3 - q.1).toNat) (fun q => AW mX9_pulses 6 0 0 K 159 94 [(2, 140), (0, p), (0, q.1)] [] q.2) (fun q hq ih => ?_) (0, h) ⟨by dsimp only; omega, hn.1, fun _ _ _ _ => rfl, fun j h1 h2 => by dsimp only at h2; omega⟩
  obtain ⟨q, h1⟩ := q
  obtain ⟨q0, q1, fr, st⟩ := hq
  dsimp only at q0 q1 fr st ih ⊢
  have e3 : h1 141 3 = h 141 3 := fr _ _ (by omega) (by omega)
  have nx : ∀ h2 : AH, (∀ k x, ¬ (k = 141 ∧ (x = 46 + 25 * q + 1 ∨ x = 46 + 25 * q + 2 ∨ x = 46 + 25 * q + 8)) → ¬ (k = 153 ∧ x = q) → h2 k x = h1 k x) → CaP h h2 q → q < h 141 3 → AW mX9_pulses 6 0 0 K 159 94 [(2, 140), (0, p), (0, q + 1)] [] h2 := fun h2 f2 s2 hlt => by
    refine ih (q + 1, h2) ⟨by dsimp only; omega, by dsimp only; omega, fun k x a b => ?_, fun j j0 j1 => ?_⟩ (by dsimp only; omega)
    · dsimp only at a b ⊢
      rw [f2 k x (by omega) (by omega)]
      exact fr k x (by omega) (by omega)
    · dsimp only at j1 ⊢
      by_cases e : j = q
      · rw [e]; exact s2
      · have g := st j j0 (by omega)
        unfold CaP at g ⊢
        rw [f2 141 (46 + 25 * j + 1) (by omega) (by omega), f2 141 (46 + 25 * j + 2) (by omega) (by omega), f2 141 (46 + 25 * j + 8) (by omega) (by omega), f2 153 j (by omega) (by omega)]
        exact g
  refine a_il2 dX9_pulses_94 ?_
  refine a_al0 (by decide) dX9_pulses_95 ?_
  refine aw_getR (r := 141) 0 rfl dX9_pulses_96 fl_X9_7 at_140 rfl rfl ?_
  refine aw_iconst dX9_pulses_99 (by decide) ?_
  refine aw_iald dX9_pulses_100 ar_141 (by omega) ?_
  refine aw_icmp_ge 177 dX9_pulses_101 (by decide) (fun c101 => ?_) (fun c101 => ?_)
  · skip
    have e : q = h 141 3 := by omega
    rw [e] at fr st
    exact k _ _ ⟨fr, st⟩
  · skip
    have hq : q < h 141 3 := by omega
    have g1 : h1 141 (46 + 25 * q + 1) = h 141 (46 + 25 * q + 1) := fr _ _ (by omega) (by omega)
    have g2 : h1 141 (46 + 25 * q + 2) = h 141 (46 + 25 * q + 2) := fr _ _ (by omega) (by omega)
    have g8 : h1 141 (46 + 25 * q + 8) = h 141 (46 + 25 * q + 8) := fr _ _ (by omega) (by omega)
    have g49 : h1 149 q = h 149 q := fr _ _ (by omega) (by omega)
    have g50 : h1 150 q = h 150 q := fr _ _ (by omega) (by omega)
    have g51 : h1 151 q = h 151 q := fr _ _ (by omega) (by omega)
    have g53 : h1 153 q = h 153 q := fr _ _ (by omega) (by omega)
    obtain ⟨w1, w2⟩ := hw q q0 hq
    refine a_al0 (by decide) dX9_pulses_104 ?_
    refine aw_getR (r := 149) 18 rfl dX9_pulses_105 fl_X9_39 at_140 rfl rfl ?_
    refine a_il2 dX9_pulses_108 ?_
    refine aw_zald dX9_pulses_109 ar_149 (by omega) ?_
    refine aw_if_ne 116 dX9_pulses_110 (by decide) (fun c110 => ?_) (fun c110 => ?_)
    · refine a_al0 (by decide) dX9_pulses_116 ?_
      refine a_il2 dX9_pulses_117 ?_
      refine aw_iconst dX9_pulses_118 (by decide) ?_
      refine a_al0 (by decide) dX9_pulses_119 ?_
      refine aw_getR (r := 150) 19 rfl dX9_pulses_120 fl_X9_42 at_140 rfl rfl ?_
      refine a_il2 dX9_pulses_123 ?_
      refine aw_iald dX9_pulses_124 ar_150 (by omega) ?_
      refine aw_callV 1 0 0 dX9_pulses_125 yw_X9_sets ml_X9_228 in_X9_sets se_X9_sets (ci := 8) rfl at_140 (as := [_, _, _]) rfl rfl ⟨by decide, by decide, by decide, Nat.le_of_ble_eq_true rfl⟩ ?_
      refine ac_sets (by omega) (by decide) ?_
      refine am_cv ?_
      refine a_al0 (by decide) dX9_pulses_128 ?_
      refine a_il2 dX9_pulses_129 ?_
      refine aw_iconst dX9_pulses_130 (by decide) ?_
      refine a_al0 (by decide) dX9_pulses_131 ?_
      refine aw_getR (r := 151) 20 rfl dX9_pulses_132 fl_X9_45 at_140 rfl rfl ?_
      try simp (disch := omega) only [up_at, up_ne]
      refine a_il2 dX9_pulses_135 ?_
      refine aw_iald dX9_pulses_136 ar_151 (by omega) ?_
      try simp (disch := omega) only [up_at, up_ne]
      refine aw_callV 1 0 0 dX9_pulses_137 yw_X9_sets ml_X9_228 in_X9_sets se_X9_sets (ci := 8) rfl at_140 (as := [_, _, _]) rfl rfl ⟨by decide, by decide, by decide, Nat.le_of_ble_eq_true rfl⟩ ?_
      refine ac_sets (by omega) (by decide) ?_
      refine am_cv ?_
      refine a_al0 (by decide) dX9_pulses_140 ?_
      refine a_il2 dX9_pulses_141 ?_
      refine aw_bipush dX9_pulses_142 (by decide) ?_
      refine aw_iconst dX9_pulses_144 (by decide) ?_
      refine a_al0 (by decide) dX9_pulses_145 ?_
      refine a_il2 dX9_pulses_146 ?_
      refine aw_bipush dX9_pulses_147 (by decide) ?_
      refine aw_callV 1 0 0 dX9_pulses_149 yw_X9_of ml_X9_213 in_X9_of se_X9_of (ci := 8) rfl at_140 (as := [_, _]) rfl rfl ⟨by decide, by decide, by decide, Nat.le_of_ble_eq_true rfl⟩ ?_
      refine ac_of_ (by omega) (by decide) ?_
      refine am_ci ?_
      try simp (disch := omega) only [up_at, up_ne]
      refine aw_bipush dX9_pulses_152 (by decide) ?_
      refine aw_isubR (by omega) dX9_pulses_154 ?_
      refine aw_mmax dX9_pulses_155 ⟨ml_X9_269, mw_max⟩ ⟨by decide, Nat.le_of_ble_eq_true rfl⟩ ?_
      refine aw_callV 1 0 0 dX9_pulses_158 yw_X9_sets ml_X9_228 in_X9_sets se_X9_sets (ci := 8) rfl at_140 (as := [_, _, _]) rfl rfl ⟨by decide, by decide, by decide, Nat.le_of_ble_eq_true rfl⟩ ?_
      refine ac_sets (by omega) (by decide) ?_
      refine am_cv ?_
      refine a_al0 (by decide) dX9_pulses_161 ?_
      refine aw_getR (r := 153) 22 rfl dX9_pulses_162 fl_X9_51 at_140 rfl rfl ?_
      try simp (disch := omega) only [up_at, up_ne]
      refine a_il2 dX9_pulses_165 ?_
      refine aw_dup2 dX9_pulses_166 rfl rfl ?_
      refine aw_iald dX9_pulses_167 ar_153 (by omega) ?_
      try simp (disch := omega) only [up_at, up_ne]
      refine aw_iconst dX9_pulses_168 (by decide) ?_
      refine aw_iaddR (by omega) dX9_pulses_169 ?_
      refine aw_iast dX9_pulses_170 ar_153 (by omega) ?_
      refine a_iiR2 (by omega) rfl rfl dX9_pulses_171 ?_
      refine aw_goto 94 dX9_pulses_174 (by decide) ?_
      refine nx _ (fun k x a b => ?_) ⟨fun a => ?_, fun a => ?_⟩ hq
      · simp (disch := omega) only [up_ne]
      · rw [← g49] at a
        contradiction
      · simp (disch := omega) only [up_at, up_ne]
        rw [g8, g50, g51, g53]
        exact ⟨rfl, rfl, rfl, rfl⟩
    · refine aw_goto 171 dX9_pulses_113 (by decide) ?_
      refine a_iiR2 (by omega) rfl rfl dX9_pulses_171 ?_
      refine aw_goto 94 dX9_pulses_174 (by decide) ?_
      refine nx h1 (fun _ _ _ _ => rfl) ⟨fun a => ⟨g1, g2, g8, g53⟩, fun a => ?_⟩ hq
      rw [← g49] at a
      contradiction
def SK : Nat → Int → AH → AH → Prop
  | 0, _, h, h' => h' = h
  | m + 1, i, h, h' => ∃ h1, ((h 141 (46 + 25 * i + 10) = -1 ∧ h 141 (46 + 25 * i + 4) ≤ 0 → Sunk h i h1) ∧ (¬ (h 141 (46 + 25 * i + 10) = -1 ∧ h 141 (46 + 25 * i + 4) ≤ 0) → h1 = h)) ∧ SK m (i + 1) h1 h'
def dOk (h : AH) (m : Int) : Prop := (0 ≤ h 141 2 ∧ h 141 2 ≤ 4) ∧ (0 ≤ h 141 3 ∧ h 141 3 ≤ 12) ∧ (∀ x, 0 ≤ x → x < h 141 3 → 0 ≤ h 141 (46 + 25 * x + 5) ∧ h 141 (46 + 25 * x + 5) ≤ 9) ∧ ∀ g, 0 ≤ g → g < h 141 2 → 0 ≤ h 141 (34 + 3 * g) ∧ h 141 (34 + 3 * g) + 9 * m ≤ 1000000
theorem dOk_sunk {h h1 : AH} {i m : Int} (hi : 0 ≤ i ∧ i < h 141 3) (ho : dOk h (m + 1)) (hs : Sunk h i h1) : dOk h1 m ∧ h1 141 3 = h 141 3 := by
  obtain ⟨o1, o2, o3, o4⟩ := ho
  obtain ⟨f, p, -⟩ := hs
  have e2 : h1 141 2 = h 141 2 := f _ _ (by omega)
  have e3 : h1 141 3 = h 141 3 := f _ _ (by omega)
  unfold dOk
  rw [e2, e3]
  refine ⟨⟨o1, o2, fun x x0 x1 => ?_, fun g g0 g1 => ?_⟩, rfl⟩
  · rw [f _ _ (by omega)]
    exact o3 x x0 x1
  · have q := o4 g g0 g1
    have r := o3 i hi.1 hi.2
    obtain ⟨p1, p2⟩ := p g g0 g1
    by_cases c : mHit h i g (h 141 3) ∧ ¬ g = h 141 (46 + 25 * i + 0)
    · rw [p1 c]; omega
    · rw [p2 c]; omega
theorem pu_D179 {p : Int} {K : AO → Nat → AH → Prop} : ∀ (m : Nat) (i : Int) (h : AH), 0 ≤ i → i + m = h 141 3 → dOk h m → (∀ h', SK m i h h' → K (.inl none) 159 h') → AW mX9_pulses 6 0 0 K 159 179 [(2, 140), (0, p), (0, i)] [] h := by
  intro m
  induction m with
  | zero =>
    intro i h i0 hi ho k
    have o3 := ho.2.1
    refine a_il2 dX9_pulses_179 ?_
    refine a_al0 (by decide) dX9_pulses_180 ?_
    refine aw_getR (r := 141) 0 rfl dX9_pulses_181 fl_X9_7 at_140 rfl rfl ?_
    refine aw_iconst dX9_pulses_184 (by decide) ?_
    refine aw_iald dX9_pulses_185 ar_141 (by omega) ?_
    refine aw_icmp_ge 217 dX9_pulses_186 (by decide) (fun c186 => ?_) (fun c186 => ?_)
    · refine aw_vret dX9_pulses_217 rfl ?_
      exact k h rfl
    · exfalso; omega
  | succ m ih =>
    intro i h i0 hi ho k
    have o3 := ho.2.1
    have ho2 : dOk h ((m : Int) + 1) := by have := ho; rwa [show ((m + 1 : Nat) : Int) = (m : Int) + 1 by omega] at this
    have hom : dOk h m := ⟨ho2.1, ho2.2.1, ho2.2.2.1, fun g g0 g1 => by have := ho2.2.2.2 g g0 g1; omega⟩
    refine a_il2 dX9_pulses_179 ?_
    refine a_al0 (by decide) dX9_pulses_180 ?_
    refine aw_getR (r := 141) 0 rfl dX9_pulses_181 fl_X9_7 at_140 rfl rfl ?_
    refine aw_iconst dX9_pulses_184 (by decide) ?_
    refine aw_iald dX9_pulses_185 ar_141 (by omega) ?_
    refine aw_icmp_ge 217 dX9_pulses_186 (by decide) (fun c186 => ?_) (fun c186 => ?_)
    · exfalso; omega
    · refine a_al0 (by decide) dX9_pulses_189 ?_
      refine a_il2 dX9_pulses_190 ?_
      refine aw_callV 2 0 0 dX9_pulses_191 yw_X9_sails ml_X9_216 in_X9_sails se_X9_sails (ci := 8) rfl at_140 (as := [_]) rfl rfl ⟨by decide, by decide, by decide, Nat.le_of_ble_eq_true rfl⟩ ?_
      refine ac_sails (by omega) (fun a1 => ?_) (fun a1 => ?_)
      · refine am_ci ?_
        refine aw_if_eq_n 211 dX9_pulses_194 (by decide) (by decide) ?_
        refine a_al0 (by decide) dX9_pulses_197 ?_
        refine a_il2 dX9_pulses_198 ?_
        refine aw_iconst dX9_pulses_199 (by decide) ?_
        refine aw_callV 1 0 0 dX9_pulses_200 yw_X9_of ml_X9_213 in_X9_of se_X9_of (ci := 8) rfl at_140 (as := [_, _]) rfl rfl ⟨by decide, by decide, by decide, Nat.le_of_ble_eq_true rfl⟩ ?_
        refine ac_of_ (by omega) (by decide) ?_
        refine am_ci ?_
        refine aw_if_gt 211 dX9_pulses_203 (by decide) (fun c203 => ?_) (fun c203 => ?_)
        · refine a_iiR2 (by omega) rfl rfl dX9_pulses_211 ?_
          refine aw_goto 179 dX9_pulses_214 (by decide) ?_
          exact ih (i + 1) h (by omega) (by omega) hom (fun h' q => k h' ⟨h, ⟨fun c => by omega, fun _ => rfl⟩, q⟩)
        · refine a_al0 (by decide) dX9_pulses_206 ?_
          refine a_il2 dX9_pulses_207 ?_
          refine aw_callV 3 0 0 dX9_pulses_208 yw_X9_sinks ml_X9_272 in_X9_sinks se_X9_sinks (ci := 8) rfl at_140 (as := [_]) rfl rfl ⟨by decide, by decide, by decide, Nat.le_of_ble_eq_true rfl⟩ ?_
          refine ac_sinks (by omega) ho.1 ho.2.1 (ho.2.2.1 i i0 (by omega)) (fun g g0 g1 => by have := ho2.2.2.2 g g0 g1; omega) (fun h1 hs => ?_)
          refine am_cv ?_
          refine a_iiR2 (by omega) rfl rfl dX9_pulses_211 ?_
          refine aw_goto 179 dX9_pulses_214 (by decide) ?_
          obtain ⟨d1, d2⟩ := dOk_sunk ⟨i0, by omega⟩ ho2 hs
          exact ih (i + 1) h1 (by omega) (by omega) d1 (fun h' q => k h' ⟨h1, ⟨fun _ => hs, fun c => absurd ⟨a1, by omega⟩ c⟩, q⟩)
      · refine am_ci ?_
        refine aw_if_eq_y 211 dX9_pulses_194 (by decide) (by decide) ?_
        refine a_iiR2 (by omega) rfl rfl dX9_pulses_211 ?_
        refine aw_goto 179 dX9_pulses_214 (by decide) ?_
        exact ih (i + 1) h (by omega) (by omega) hom (fun h' q => k h' ⟨h, ⟨fun c => absurd c.1 a1, fun _ => rfl⟩, q⟩)
/-- a pulse -/
def PulseM (h : AH) (p : Int) (h' : AH) : Prop := ∃ h1 h2 h3 m, Steered h p (h 141 3) h1 ∧ RR m p h1 h2 ∧ Came h2 (h 141 3) h3 ∧ SK (h 141 3).toNat 0 h3 h'
/-- what a run of rams leaves -/
theorem RR_keep : ∀ (m : Nat) (p : Int) (h h' : AH), RR m p h h' → 0 ≤ h 141 7 → h 141 3 ≤ 12 → (∀ k x, k ≠ 140 → k ≠ 141 → k ≠ 149 → k ≠ 152 → k ≠ 154 → h' k x = h k x) ∧ (∀ x, x < 346 → x ≠ 7 → ¬ (46 ≤ x ∧ ((x - 46) % 25 = 4 ∨ (x - 46) % 25 = 8)) → h' 141 x = h 141 x) ∧ (∀ j, 0 ≤ j → j ≤ 11 → h' 141 (46 + 25 * j + 8) = h 141 (46 + 25 * j + 8) ∨ h' 141 (46 + 25 * j + 8) = 0)
  | 0, p, h, h', hr, _, _ => by
    obtain ⟨rfl, -⟩ := hr
    exact ⟨fun _ _ _ _ _ _ _ => rfl, fun _ _ _ _ => rfl, fun _ _ _ => Or.inl rfl⟩
  | m + 1, p, h, h', hr, h7, h3 => by
    obtain ⟨i, j, i0, ij, jn, -, hr⟩ := hr
    have e3 : stH h i j p 141 3 = h 141 3 := stH_a h7 (by omega) (by omega) (by omega) (by omega) (by omega)
    have e7 : 0 ≤ stH h i j p 141 7 := by rw [stH_7 (by omega) (by omega)]; split <;> omega
    obtain ⟨r1, r2, r3⟩ := RR_keep m p _ h' hr e7 (by omega)
    refine ⟨fun k x a1 a2 a3 a4 a5 => ?_, fun x a1 a2 a3 => ?_, fun x x0 x1 => ?_⟩
    · rw [r1 k x a1 a2 a3 a4 a5]
      unfold stH
      rw [st6_f a1 a2, st5_f a5, st4_f a3, st3_f a4, st2_f a4, st1_f (by omega)]
    · rw [r2 x a1 a2 a3]
      exact stH_a h7 (by omega) (by omega) a1 a2 (by omega)
    · rcases r3 x x0 x1 with q | q
      · have hh := stH_hi (p := p) h7 (i := i) (j := j) (by omega) (by omega) (by omega)
        by_cases ei : x = i
        · right; rw [q, ei]; exact hh.2.2.1
        · by_cases ej : x = j
          · right; rw [q, ej]; exact hh.2.2.2
          · left; rw [q]; exact stH_a h7 (by omega) (by omega) (by omega) (by omega) (by omega)
      · exact Or.inr q
def puOk (h : AH) (p : Int) : Prop := bdOk h ∧ (∀ j, 0 ≤ j → j < h 141 3 → shOk h j ∧ 1 ≤ h 141 (46 + 25 * j + (11 + p)) ∧ h 141 (46 + 25 * j + (11 + p)) ≤ 4) ∧ rOk h 12 ∧ (∀ j, 0 ≤ j → j < h 141 3 → 0 ≤ h 153 j ∧ h 153 j ≤ 1000000) ∧ dOk h 12
theorem gWay_rg {w s f hd fr : Int} (hw : 0 ≤ w) (hs : 0 ≤ s ∧ s ≤ 9) (hf : 0 ≤ f ∧ f ≤ 9) : 0 ≤ gWay w s f hd fr ∧ gWay w s f hd fr ≤ 180 := by
  have p1 := mulr hs hf
  have p2 := mulr p1 (tab0_r (ang hd fr))
  unfold gWay mn
  split <;> omega
/-- ranges behind steering -/
theorem StP_rg {h h' : AH} {p j : Int} (hs : shOk h j) (hb : bdOk h) (st : StP h p h' j) : (0 ≤ h' 141 (46 + 25 * j + 3) ∧ h' 141 (46 + 25 * j + 3) ≤ 7) ∧ (0 ≤ h' 141 (46 + 25 * j + 8) ∧ h' 141 (46 + 25 * j + 8) ≤ 180) ∧ (0 ≤ h' 141 (46 + 25 * j + 9) ∧ h' 141 (46 + 25 * j + 9) ≤ 4) := by
  obtain ⟨s1, s2, s3, s6, s7, s8, s9⟩ := hs
  obtain ⟨b0, b1, b5, b6⟩ := hb
  obtain ⟨t1, t2, -⟩ := st
  by_cases a : h 141 (46 + 25 * j + 10) = -1
  · obtain ⟨u1, u2, u3, u4, u5, u6⟩ := t1 a _ _ _ rfl rfl rfl
    rw [u1, u2]
    refine ⟨gHd_rg s3, ?_, gSi_rg s9⟩
    have gr := gWay_rg (w := h 141 (46 + 25 * j + 8)) (hd := gHd (h 141 (46 + 25 * j + (11 + p))) (h 141 (46 + 25 * j + 9)) (h 141 (46 + 25 * j + 7)) (h 141 (46 + 25 * j + 3))) (fr := h 141 5) s8.1 s6 b6
    generalize gWay _ _ _ _ _ = w at *
    by_cases l4 : h 141 (46 + 25 * j + (11 + p)) = 4
    · rw [(u3 l4).1]; exact s8
    · by_cases hw : w < 90
      · rw [(u4 l4 hw).1]; exact gr
      · generalize gHd _ _ _ _ = hd at *
        by_cases hin : (0 ≤ h 141 (46 + 25 * j + 1) + tab1 hd ∧ h 141 (46 + 25 * j + 1) + tab1 hd < h 141 0 ∧ 0 ≤ h 141 (46 + 25 * j + 2) + tab2 hd ∧ h 141 (46 + 25 * j + 2) + tab2 hd < h 141 1)
        · rw [(u5 l4 (by omega) hin).1]; exact gr
        · rw [(u6 l4 (by omega) hin).1]; omega
  · obtain ⟨u1, u2, u3, -⟩ := t2 a
    rw [u1, u2, u3]
    exact ⟨s3, s8, s9⟩
theorem ac_pulses {p : Int} {h : AH} {K : AO → Nat → AH → Prop} (hp : 0 ≤ p ∧ p ≤ 5) (ho : puOk h p) (k : ∀ h', PulseM h p h' → K (.inl none) 159 h') : AC mX9_pulses 6 0 0 159 [(2, 140), (0, p)] h K := by
  obtain ⟨hb, hs, hr, hm, hd⟩ := ho
  have hn := hr.1
  refine ac_of (ls := [(2, 140), (0, p), (9, 0)]) pn_X9 rfl (Nat.le_of_ble_eq_true rfl) rfl ?_
  refine pu_A hp hn hb hs (fun h1 v hst => ?_)
  obtain ⟨f1, p1⟩ := hst
  have e3 : h1 141 3 = h 141 3 := f1 _ _ (by omega) (by omega)
  have e7 : h1 141 7 = h 141 7 := f1 _ _ (by omega) (by omega)
  have r1 : rOk h1 12 := by
    obtain ⟨o1, o2, o3, o4⟩ := hr
    unfold rOk
    rw [e3, e7, f1 140 24 (by omega) (by omega)]
    refine ⟨o1, o2, o3, fun x x0 x1 => ?_⟩
    obtain ⟨q1, q2, q3⟩ := o4 x x0 x1
    rw [f1 141 (46 + 25 * x + 4) (by omega) (by omega), f1 141 (46 + 25 * x + 5) (by omega) (by omega)]
    exact ⟨(StP_rg (hs x x0 x1).1 hb (p1 x x0 x1)).1, q2, q3⟩
  refine pu_B hp r1 (fun m h2 hrr => ?_)
  obtain ⟨k1, k2, k3⟩ := RR_keep m p h1 h2 hrr (by have := hr.2.1; omega) (by omega)
  have e32 : h2 141 3 = h 141 3 := by rw [k2 3 (by decide) (by decide) (by decide), e3]
  refine pu_C hp (by omega) (fun j j0 j1 => ⟨?_, ?_⟩) (fun h3 v hc => ?_)
  · have q := (StP_rg (hs j j0 (by omega)).1 hb (p1 j j0 (by omega))).2.1
    rcases k3 j j0 (by omega) with e | e
    · rw [e]; exact q
    · rw [e]; omega
  · rw [k1 153 j (by decide) (by decide) (by decide) (by decide) (by decide), f1 153 j (by omega) (by omega)]
    exact hm j j0 (by omega)
  have hc2 := hc
  obtain ⟨c1, -⟩ := hc
  have e33 : h3 141 3 = h 141 3 := by rw [c1 141 3 (by omega) (by omega), e32]
  have g23 : ∀ x, x < 346 → x ≠ 7 → ¬ (46 ≤ x ∧ ((x - 46) % 25 = 1 ∨ (x - 46) % 25 = 2 ∨ (x - 46) % 25 = 3 ∨ (x - 46) % 25 = 4 ∨ (x - 46) % 25 = 8 ∨ (x - 46) % 25 = 9)) → h3 141 x = h 141 x := fun x a b c => by
    rw [c1 141 x (by omega) (by omega), k2 x a b (by omega), f1 141 x (by omega) (by omega)]
  have d3 : dOk h3 12 := by
    obtain ⟨o1, o2, o3, o4⟩ := hd
    unfold dOk
    rw [e33, g23 2 (by decide) (by decide) (by decide)]
    refine ⟨o1, o2, fun x x0 x1 => ?_, fun g g0 g1 => ?_⟩
    · rw [g23 _ (by omega) (by omega) (by omega)]
      exact o3 x x0 x1
    · rw [g23 _ (by omega) (by omega) (by omega)]
      exact o4 g g0 g1
  refine aw_iconst dX9_pulses_177 (by decide) ?_
  refine a_is2 rfl rfl dX9_pulses_178 ?_
  refine pu_D179 (h 141 3).toNat 0 h3 (by decide) (by omega) ⟨d3.1, d3.2.1, d3.2.2.1, fun g g0 g1 => by have := d3.2.2.2 g g0 g1; omega⟩ (fun h' hsk => k h' ⟨h1, h2, h3, m, ⟨f1, p1⟩, hrr, ?_, hsk⟩)
  rw [← e32]
  exact hc2
