/-! the model: a hull sinks; all ships steer -/
abbrev bitP (x j : Int) : Prop := i_and (i_shr x j) 1 = 1
def mHit (h : AH) (i f n : Int) : Prop := ∃ j, 0 ≤ j ∧ j < n ∧ bitP (h 152 i) j ∧ h 141 (46 + 25 * j + 0) = f
def Sunk (h : AH) (i : Int) (h' : AH) : Prop :=
  (∀ k x, ¬ (k = 141 ∧ ((34 ≤ x ∧ x < 34 + 3 * h 141 2 ∧ (x - 34) % 3 = 0) ∨ x = 46 + 25 * i + 1 ∨ x = 46 + 25 * i + 2 ∨ x = 46 + 25 * i + 4 ∨ x = 46 + 25 * i + 10)) → h' k x = h k x) ∧
  (∀ g, 0 ≤ g → g < h 141 2 → (mHit h i g (h 141 3) ∧ ¬ g = h 141 (46 + 25 * i + 0) → h' 141 (34 + 3 * g) = h 141 (34 + 3 * g) + h 141 (46 + 25 * i + 5)) ∧ (¬ (mHit h i g (h 141 3) ∧ ¬ g = h 141 (46 + 25 * i + 0)) → h' 141 (34 + 3 * g) = h 141 (34 + 3 * g))) ∧
  h' 141 (46 + 25 * i + 1) = -1 ∧ h' 141 (46 + 25 * i + 2) = -1 ∧ h' 141 (46 + 25 * i + 4) = 0 ∧ h' 141 (46 + 25 * i + 10) = h 141 4
/-- the fleets below f have their points -/
def sPts (h : AH) (i f : Int) (h' : AH) : Prop :=
  (∀ k x, ¬ (k = 141 ∧ 34 ≤ x ∧ x < 34 + 3 * f ∧ (x - 34) % 3 = 0) → h' k x = h k x) ∧
  (∀ g, 0 ≤ g → g < f → (mHit h i g (h 141 3) ∧ ¬ g = h 141 (46 + 25 * i + 0) → h' 141 (34 + 3 * g) = h 141 (34 + 3 * g) + h 141 (46 + 25 * i + 5)) ∧ (¬ (mHit h i g (h 141 3) ∧ ¬ g = h 141 (46 + 25 * i + 0)) → h' 141 (34 + 3 * g) = h 141 (34 + 3 * g)))
theorem ac_sinks {i : Int} {h : AH} {K : AO → Nat → AH → Prop} (hi : 0 ≤ i ∧ i ≤ 11) (h2 : 0 ≤ h 141 2 ∧ h 141 2 ≤ 4) (h3 : 0 ≤ h 141 3 ∧ h 141 3 ≤ 12) (hm : 0 ≤ h 141 (46 + 25 * i + 5) ∧ h 141 (46 + 25 * i + 5) ≤ 9) (hp : ∀ g, 0 ≤ g → g < h 141 2 → 0 ≤ h 141 (34 + 3 * g) ∧ h 141 (34 + 3 * g) ≤ 1000000) (k : ∀ h', Sunk h i h' → K (.inl none) 159 h') : AC mX9_sinks 3 0 0 159 [(2, 140), (0, i)] h K := by
  refine ac_of (ls := [(2, 140), (0, i), (9, 0), (9, 0), (9, 0)]) pn_X9 rfl (Nat.le_of_ble_eq_true rfl) rfl ?_
  refine aw_iconst dX9_sinks_0 (by decide) ?_
  refine a_is2 rfl rfl dX9_sinks_1 ?_
  refine aw_loop (fun q : Int × AV × AV × AH => 0 ≤ q.1 ∧ q.1 ≤ h 141 2 ∧ sPts h i q.1 q.2.2.2) (fun q => (h 141 2 - q.1).toNat) (fun q => AW mX9_sinks 3 0 0 K 159 2 [(2, 140), (0, i), (0, q.1), q.2.1, q.2.2.1] [] q.2.2.2) (fun q hq ih => ?_) (0, (9, 0), (9, 0), h) ⟨by dsimp only; omega, h2.1, fun _ _ _ => rfl, fun g h1 h2 => by dsimp only at h2; omega⟩
  obtain ⟨f, v3, v4, h1⟩ := q
  obtain ⟨f0, f1, fr, fp⟩ := hq
  dsimp only at f0 f1 fr fp ih ⊢
  have e2 : h1 141 2 = h 141 2 := fr _ _ (by omega)
  have e3 : h1 141 3 = h 141 3 := fr _ _ (by omega)
  have e4 : h1 141 4 = h 141 4 := fr _ _ (by omega)
  have e5 : h1 141 (46 + 25 * i + 5) = h 141 (46 + 25 * i + 5) := fr _ _ (by omega)
  have ef : ∀ j, 0 ≤ j → h1 141 (46 + 25 * j + 0) = h 141 (46 + 25 * j + 0) := fun j hj => fr _ _ (by omega)
  have eb : ∀ j, h1 152 j = h 152 j := fun j => fr _ _ (by omega)
  refine a_il2 dX9_sinks_2 ?_
  refine a_al0 (by decide) dX9_sinks_3 ?_
  refine aw_getR (r := 141) 0 rfl dX9_sinks_4 fl_X9_7 at_140 rfl rfl ?_
  refine aw_iconst dX9_sinks_7 (by decide) ?_
  refine aw_iald dX9_sinks_8 ar_141 (by omega) ?_
  refine aw_icmp_ge 110 dX9_sinks_9 (by decide) (fun c9 => ?_) (fun c9 => ?_)
  · refine a_al0 (by decide) dX9_sinks_110 ?_
    refine a_il1 dX9_sinks_111 ?_
    refine aw_iconst dX9_sinks_112 (by decide) ?_
    refine aw_iconst dX9_sinks_113 (by decide) ?_
    refine aw_callV 1 0 0 dX9_sinks_114 yw_X9_sets ml_X9_228 in_X9_sets se_X9_sets (ci := 8) rfl at_140 (as := [_, _, _]) rfl rfl ⟨by decide, by decide, by decide, Nat.le_of_ble_eq_true rfl⟩ ?_
    refine ac_sets (by omega) (by decide) ?_
    refine am_cv ?_
    refine a_al0 (by decide) dX9_sinks_117 ?_
    refine a_il1 dX9_sinks_118 ?_
    refine aw_bipush dX9_sinks_119 (by decide) ?_
    refine a_al0 (by decide) dX9_sinks_121 ?_
    refine aw_getR (r := 141) 0 rfl dX9_sinks_122 fl_X9_7 at_140 rfl rfl ?_
    try simp (disch := omega) only [up_at, up_ne]
    refine aw_iconst dX9_sinks_125 (by decide) ?_
    refine aw_iald dX9_sinks_126 ar_141 (by omega) ?_
    try simp (disch := omega) only [up_at, up_ne]
    refine aw_callV 1 0 0 dX9_sinks_127 yw_X9_sets ml_X9_228 in_X9_sets se_X9_sets (ci := 8) rfl at_140 (as := [_, _, _]) rfl rfl ⟨by decide, by decide, by decide, Nat.le_of_ble_eq_true rfl⟩ ?_
    refine ac_sets (by omega) (by decide) ?_
    refine am_cv ?_
    refine a_al0 (by decide) dX9_sinks_130 ?_
    refine a_il1 dX9_sinks_131 ?_
    refine aw_iconst dX9_sinks_132 (by decide) ?_
    refine aw_iconst dX9_sinks_133 (by decide) ?_
    refine aw_callV 1 0 0 dX9_sinks_134 yw_X9_sets ml_X9_228 in_X9_sets se_X9_sets (ci := 8) rfl at_140 (as := [_, _, _]) rfl rfl ⟨by decide, by decide, by decide, Nat.le_of_ble_eq_true rfl⟩ ?_
    refine ac_sets (by omega) (by decide) ?_
    refine am_cv ?_
    refine a_al0 (by decide) dX9_sinks_137 ?_
    refine a_il1 dX9_sinks_138 ?_
    refine aw_iconst dX9_sinks_139 (by decide) ?_
    refine aw_iconst dX9_sinks_140 (by decide) ?_
    refine aw_callV 1 0 0 dX9_sinks_141 yw_X9_sets ml_X9_228 in_X9_sets se_X9_sets (ci := 8) rfl at_140 (as := [_, _, _]) rfl rfl ⟨by decide, by decide, by decide, Nat.le_of_ble_eq_true rfl⟩ ?_
    refine ac_sets (by omega) (by decide) ?_
    refine am_cv ?_
    refine aw_vret dX9_sinks_144 rfl ?_
    have ff : f = h 141 2 := by omega
    subst ff
    refine k _ ⟨fun k x hx => ?_, fun g g0 g1 => ?_, ?_⟩
    · simp (disch := omega) only [up_at, up_ne]
      exact fr _ _ (by omega)
    · simp (disch := omega) only [up_at, up_ne]
      exact fp g g0 g1
    · simp (disch := omega) only [up_at, up_ne]
      exact ⟨trivial, trivial, trivial, e4⟩
  · refine aw_iconst dX9_sinks_12 (by decide) ?_
    refine a_is3 rfl rfl dX9_sinks_13 ?_
    refine aw_iconst dX9_sinks_14 (by decide) ?_
    refine a_is4 rfl rfl dX9_sinks_15 ?_
    have hmass := hp f (by omega) (by omega)
    have epf : h1 141 (34 + 3 * f) = h 141 (34 + 3 * f) := fr _ _ (by omega)
    refine aw_loop (fun q : Int × Int => 0 ≤ q.1 ∧ q.1 ≤ h 141 3 ∧ ((q.2 = 1 ∧ mHit h i f q.1) ∨ (q.2 = 0 ∧ ¬ mHit h i f q.1))) (fun q => (h 141 3 - q.1).toNat) (fun q => AW mX9_sinks 3 0 0 K 159 17 [(2, 140), (0, i), (0, f), (0, q.2), (0, q.1)] [] h1) (fun q hq ih2 => ?_) (0, 0) ⟨by dsimp only; omega, h3.1, Or.inr ⟨rfl, fun ⟨j, j0, j1, _⟩ => by dsimp only at j1; omega⟩⟩
    obtain ⟨j, is⟩ := q
    obtain ⟨j0, j1, hs⟩ := hq
    dsimp only at j0 j1 hs ih2 ⊢
    have up1 : mHit h i f j → mHit h i f (j + 1) := fun ⟨a, a0, a1, a2⟩ => ⟨a, a0, by omega, a2⟩
    have up2 : ¬ mHit h i f j → ¬ (bitP (h 152 i) j ∧ h 141 (46 + 25 * j + 0) = f) → ¬ mHit h i f (j + 1) := fun n1 n2 ⟨a, a0, a1, a2⟩ => by
      by_cases e : a = j
      · subst e; exact n2 a2
      · exact n1 ⟨a, a0, by omega, a2⟩
    refine a_il4 dX9_sinks_17 ?_
    refine a_al0 (by decide) dX9_sinks_19 ?_
    refine aw_getR (r := 141) 0 rfl dX9_sinks_20 fl_X9_7 at_140 rfl rfl ?_
    refine aw_iconst dX9_sinks_23 (by decide) ?_
    refine aw_iald dX9_sinks_24 ar_141 (by omega) ?_
    refine aw_icmp_ge 70 dX9_sinks_25 (by decide) (fun c25 => ?_) (fun c25 => ?_)
    · skip
      have jj : j = h 141 3 := by omega
      subst jj
      refine a_il3 dX9_sinks_70 ?_
      refine aw_if_eq 104 dX9_sinks_71 (by decide) (fun c71 => ?_) (fun c71 => ?_)
      · skip
        refine a_iiR2 (by omega) rfl rfl dX9_sinks_104 ?_
        refine aw_goto 2 dX9_sinks_107 (by decide) ?_
        have hn : ¬ mHit h i f (h 141 3) := by
          rcases hs with ⟨q1, _⟩ | ⟨_, q2⟩
          · omega
          · exact q2
        refine ih (f + 1, (0, is), (0, h 141 3), h1) ⟨by dsimp only; omega, by dsimp only; omega, fun k x hx => fr k x (by dsimp only at hx; omega), fun g g0 g1 => ?_⟩ (by dsimp only; omega)
        by_cases e : g = f
        · subst e
          exact ⟨fun q => absurd q.1 hn, fun _ => epf⟩
        · exact fp g g0 (by dsimp only at g1; omega)
      · refine a_il2 dX9_sinks_74 ?_
        refine a_al0 (by decide) dX9_sinks_75 ?_
        refine a_il1 dX9_sinks_76 ?_
        refine aw_iconst dX9_sinks_77 (by decide) ?_
        refine aw_callV 1 0 0 dX9_sinks_78 yw_X9_of ml_X9_213 in_X9_of se_X9_of (ci := 8) rfl at_140 (as := [_, _]) rfl rfl ⟨by decide, by decide, by decide, Nat.le_of_ble_eq_true rfl⟩ ?_
        have hy : mHit h i f (h 141 3) := by
          rcases hs with ⟨_, q1⟩ | ⟨q2, _⟩
          · exact q1
          · omega
        refine ac_of_ (by omega) (by decide) ?_
        refine am_ci ?_
        refine aw_icmp_eq 104 dX9_sinks_81 (by decide) (fun c81 => ?_) (fun c81 => ?_)
        · skip
          refine a_iiR2 (by omega) rfl rfl dX9_sinks_104 ?_
          refine aw_goto 2 dX9_sinks_107 (by decide) ?_
          have hown : f = h 141 (46 + 25 * i + 0) := by rw [← ef i hi.1]; assumption
          refine ih (f + 1, (0, is), (0, h 141 3), h1) ⟨by dsimp only; omega, by dsimp only; omega, fun k x hx => fr k x (by dsimp only at hx; omega), fun g g0 g1 => ?_⟩ (by dsimp only; omega)
          by_cases e : g = f
          · rw [e]
            exact ⟨fun q => absurd hown q.2, fun _ => epf⟩
          · exact fp g g0 (by dsimp only at g1; omega)
        · refine a_al0 (by decide) dX9_sinks_84 ?_
          refine aw_getR (r := 141) 0 rfl dX9_sinks_85 fl_X9_7 at_140 rfl rfl ?_
          refine aw_bipush dX9_sinks_88 (by decide) ?_
          refine aw_iconst dX9_sinks_90 (by decide) ?_
          refine a_il2 dX9_sinks_91 ?_
          refine aw_imulR (by omega) dX9_sinks_92 ?_
          refine aw_iaddR (by omega) dX9_sinks_93 ?_
          refine aw_dup2 dX9_sinks_94 rfl rfl ?_
          refine aw_iald dX9_sinks_95 ar_141 (by omega) ?_
          refine a_al0 (by decide) dX9_sinks_96 ?_
          refine a_il1 dX9_sinks_97 ?_
          refine aw_iconst dX9_sinks_98 (by decide) ?_
          refine aw_callV 1 0 0 dX9_sinks_99 yw_X9_of ml_X9_213 in_X9_of se_X9_of (ci := 8) rfl at_140 (as := [_, _]) rfl rfl ⟨by decide, by decide, by decide, Nat.le_of_ble_eq_true rfl⟩ ?_
          refine ac_of_ (by omega) (by decide) ?_
          refine am_ci ?_
          refine aw_iaddR (by omega) dX9_sinks_102 ?_
          refine aw_iast dX9_sinks_103 ar_141 (by omega) ?_
          refine a_iiR2 (by omega) rfl rfl dX9_sinks_104 ?_
          refine aw_goto 2 dX9_sinks_107 (by decide) ?_
          have hown : ¬ f = h 141 (46 + 25 * i + 0) := by rw [← ef i hi.1]; assumption
          refine ih (f + 1, (0, is), (0, h 141 3), up h1 141 (34 + 3 * f) (h1 141 (34 + 3 * f) + h1 141 (46 + 25 * i + 5))) ⟨by dsimp only; omega, by dsimp only; omega, fun k x hx => ?_, fun g g0 g1 => ?_⟩ (by dsimp only; omega)
          · dsimp only at hx ⊢
            rw [up_ne (by omega)]
            exact fr k x (by omega)
          · dsimp only at g1 ⊢
            by_cases e : g = f
            · subst e
              rw [up_at, epf, e5]
              exact ⟨fun _ => rfl, fun q => absurd ⟨hy, hown⟩ q⟩
            · rw [up_ne (by omega)]
              exact fp g g0 (by omega)
    · skip
      have hs1 : is = 1 → mHit h i f j := fun q => by
        rcases hs with q1 | ⟨q2, _⟩
        · exact q1.2
        · omega
      have hs0 : ¬ is = 1 → ¬ mHit h i f j := fun q => by
        rcases hs with ⟨q1, _⟩ | ⟨_, q2⟩
        · omega
        · exact q2
      have is01 : is = 0 ∨ is = 1 := by rcases hs with q | q <;> omega
      refine a_il3 dX9_sinks_28 ?_
      refine aw_if_ne 58 dX9_sinks_29 (by decide) (fun c29 => ?_) (fun c29 => ?_)
      · skip
        refine aw_iconst dX9_sinks_58 (by decide) ?_
        refine aw_goto 63 dX9_sinks_59 (by decide) ?_
        refine a_is3 rfl rfl dX9_sinks_63 ?_
        refine a_iiR4 (by omega) rfl rfl dX9_sinks_64 ?_
        refine aw_goto 17 dX9_sinks_67 (by decide) ?_
        exact ih2 (j + 1, 1) ⟨by dsimp only; omega, by dsimp only; omega, Or.inl ⟨rfl, up1 (hs1 (by omega))⟩⟩ (by dsimp only; omega)
      · refine a_al0 (by decide) dX9_sinks_32 ?_
        refine aw_getR (r := 152) 21 rfl dX9_sinks_33 fl_X9_48 at_140 rfl rfl ?_
        refine a_il1 dX9_sinks_36 ?_
        refine aw_iald dX9_sinks_37 ar_152 (by omega) ?_
        refine a_il4 dX9_sinks_38 ?_
        refine aw_ishr dX9_sinks_40 ?_
        refine aw_iconst dX9_sinks_41 (by decide) ?_
        refine aw_iand dX9_sinks_42 ?_
        refine aw_iconst dX9_sinks_43 (by decide) ?_
        refine aw_icmp_ne 62 dX9_sinks_44 (by decide) (fun c44 => ?_) (fun c44 => ?_)
        · skip
          refine aw_iconst dX9_sinks_62 (by decide) ?_
          refine a_is3 rfl rfl dX9_sinks_63 ?_
          refine a_iiR4 (by omega) rfl rfl dX9_sinks_64 ?_
          refine aw_goto 17 dX9_sinks_67 (by decide) ?_
          refine ih2 (j + 1, 0) ⟨by dsimp only; omega, by dsimp only; omega, Or.inr ⟨rfl, up2 (hs0 (by omega)) (fun q => ?_)⟩⟩ (by dsimp only; omega)
          have q1 := q.1
          rw [← eb] at q1
          contradiction
        · refine a_al0 (by decide) dX9_sinks_47 ?_
          refine a_il4 dX9_sinks_48 ?_
          refine aw_iconst dX9_sinks_50 (by decide) ?_
          refine aw_callV 1 0 0 dX9_sinks_51 yw_X9_of ml_X9_213 in_X9_of se_X9_of (ci := 8) rfl at_140 (as := [_, _]) rfl rfl ⟨by decide, by decide, by decide, Nat.le_of_ble_eq_true rfl⟩ ?_
          refine ac_of_ (by omega) (by decide) ?_
          refine am_ci ?_
          refine a_il2 dX9_sinks_54 ?_
          refine aw_icmp_ne 62 dX9_sinks_55 (by decide) (fun c55 => ?_) (fun c55 => ?_)
          · skip
            refine aw_iconst dX9_sinks_62 (by decide) ?_
            refine a_is3 rfl rfl dX9_sinks_63 ?_
            refine a_iiR4 (by omega) rfl rfl dX9_sinks_64 ?_
            refine aw_goto 17 dX9_sinks_67 (by decide) ?_
            refine ih2 (j + 1, 0) ⟨by dsimp only; omega, by dsimp only; omega, Or.inr ⟨rfl, up2 (hs0 (by omega)) (fun q => ?_)⟩⟩ (by dsimp only; omega)
            have q1 := q.2
            rw [← ef j j0] at q1
            contradiction
          · refine aw_iconst dX9_sinks_58 (by decide) ?_
            refine aw_goto 63 dX9_sinks_59 (by decide) ?_
            refine a_is3 rfl rfl dX9_sinks_63 ?_
            refine a_iiR4 (by omega) rfl rfl dX9_sinks_64 ?_
            refine aw_goto 17 dX9_sinks_67 (by decide) ?_
            refine ih2 (j + 1, 1) ⟨by dsimp only; omega, by dsimp only; omega, Or.inl ⟨rfl, j, j0, by omega, ?_, ?_⟩⟩ (by dsimp only; omega)
            · rw [← eb]
              assumption
            · rw [← ef j j0]
              assumption
