/-! the model: a turn -/
theorem LogT_f {g g' : AH} (hM : 0 ≤ g 141 8) (h : LogT g g') : ∀ k x, ¬ (k = 141 ∧ (x = 8 ∨ 496 ≤ x)) → g' k x = g k x := fun k x a => h.1 k x (by omega)
theorem Logged_f {h h' : AH} (hM : 0 ≤ h 141 8 ∧ h 141 8 ≤ 10) (hl : Logged h h') : (∀ k x, ¬ (k = 141 ∧ (x = 8 ∨ 496 ≤ x)) → h' k x = h k x) ∧ h' 141 8 = (if h 141 8 = 10 then 10 else h 141 8 + 1) := by
  rcases hl with ⟨q, l⟩ | ⟨q, l⟩
  · exact ⟨LogT_f hM.1 l, by rw [l.2.1, if_neg (by omega)]⟩
  · have e := LogT_f (by rw [up_at]; decide) l
    refine ⟨fun k x a => ?_, by rw [l.2.1, up_at, if_pos q]; rfl⟩
    rw [e k x a, up_ne (by omega)]
    unfold shl
    rw [if_neg (by omega)]
def rst (h : AH) : AH := fillH (fillH (up (up h 141 7 0) 140 24 0) 153 12 0) 154 144 (-1)
def PN : Nat → Int → AH → AH → Prop
  | 0, _, h, h' => h' = h
  | m + 1, p, h, h' => ∃ g, PulseM h p g ∧ PN m (p + 1) g h'
def Endd (h h' : AH) : Prop := (∀ k x, ¬ (k = 141 ∧ (x = 4 ∨ (34 ≤ x ∧ x < 46 ∧ (x - 34) % 3 = 1) ∨ (46 ≤ x ∧ x < 46 + 25 * h 141 3 ∧ 11 ≤ (x - 46) % 25 ∧ (x - 46) % 25 ≤ 16))) → h' k x = h k x) ∧ h' 141 4 = h 141 4 + 1 ∧ (∀ f, 0 ≤ f → f < 4 → h' 141 (34 + 3 * f + 1) = 0) ∧ ∀ i p, 0 ≤ i → i < h 141 3 → 0 ≤ p → p < 6 → h' 141 (46 + 25 * i + (11 + p)) = 1
/-- the wind behind a shift that may be told -/
def Shifted (h h' : AH) : Prop := ∃ x, isFst (mSh h (h 141 4)) (h 141 9) x ∧ h' = if x = -1 then h else up (up h 141 5 (h 141 (10 + 3 * x + 1))) 141 6 (h 141 (10 + 3 * x + 2))
def GoesOn (h : AH) (ws : Int) (h' : AH) : Prop := ∃ h1 h2 h3, Logged h h1 ∧ (¬ ws = 0 → Shifted h1 h2) ∧ (ws = 0 → h2 = h1) ∧ PN 6 0 (rst h2) h3 ∧ Endd h3 h'
def tOk (h : AH) : Prop := bdOk h ∧ (∀ j, 0 ≤ j → j < h 141 3 → shOk h j ∧ ∀ p, 0 ≤ p → p ≤ 5 → 1 ≤ h 141 (46 + 25 * j + (11 + p)) ∧ h 141 (46 + 25 * j + (11 + p)) ≤ 4) ∧ (0 ≤ h 141 3 ∧ h 141 3 ≤ 12) ∧ (∀ x, 0 ≤ x → x < h 141 3 → (-1000 ≤ h 141 (46 + 25 * x + 4) ∧ h 141 (46 + 25 * x + 4) ≤ 1000) ∧ (0 ≤ h 141 (46 + 25 * x + 5) ∧ h 141 (46 + 25 * x + 5) ≤ 9)) ∧ (0 ≤ h 141 2 ∧ h 141 2 ≤ 4) ∧ (∀ g, 0 ≤ g → g < h 141 2 → 0 ≤ h 141 (34 + 3 * g) ∧ h 141 (34 + 3 * g) ≤ 900000) ∧ (0 ≤ h 141 9 ∧ h 141 9 ≤ 8) ∧ (∀ s, 0 ≤ s → s < h 141 9 → (0 ≤ h 141 (10 + 3 * s + 1) ∧ h 141 (10 + 3 * s + 1) ≤ 7) ∧ (0 ≤ h 141 (10 + 3 * s + 2) ∧ h 141 (10 + 3 * s + 2) ≤ 9)) ∧ (0 ≤ h 141 4 ∧ h 141 4 ≤ 100000) ∧ (0 ≤ h 141 8 ∧ h 141 8 ≤ 10)
theorem Shifted_ok {h h' : AH} (hs : Shifted h h') (hr : ∀ s, 0 ≤ s → s < h 141 9 → (0 ≤ h 141 (10 + 3 * s + 1) ∧ h 141 (10 + 3 * s + 1) ≤ 7) ∧ (0 ≤ h 141 (10 + 3 * s + 2) ∧ h 141 (10 + 3 * s + 2) ≤ 9)) (h5 : 0 ≤ h 141 5 ∧ h 141 5 ≤ 7) (h6 : 0 ≤ h 141 6 ∧ h 141 6 ≤ 9) : (∀ k x, ¬ (k = 141 ∧ (x = 5 ∨ x = 6)) → h' k x = h k x) ∧ (0 ≤ h' 141 5 ∧ h' 141 5 ≤ 7) ∧ (0 ≤ h' 141 6 ∧ h' 141 6 ≤ 9) := by
  obtain ⟨x, hx, rfl⟩ := hs
  rcases hx with ⟨x0, x1, -, -⟩ | ⟨rfl, -⟩
  · rw [if_neg (by omega)]
    obtain ⟨r1, r2⟩ := hr x x0 x1
    refine ⟨fun k y a => by rw [up_ne (by omega), up_ne (by omega)], ?_, ?_⟩
    · rw [up_ne (by omega), up_at]; exact r1
    · rw [up_at]; exact r2
  · rw [if_pos rfl]
    exact ⟨fun _ _ _ => rfl, h5, h6⟩
theorem rst_f {h : AH} {k x : Int} (a : ¬ (k = 141 ∧ x = 7)) (b : ¬ (k = 140 ∧ x = 24)) (c : k ≠ 153) (d : k ≠ 154) : rst h k x = h k x := by
  unfold rst fillH
  rw [if_neg (by omega), if_neg (by omega), up_ne b, up_ne a]
theorem gOk_rst {h h2 : AH} (ho : tOk h) (hf : ∀ k x, ¬ (k = 141 ∧ (x = 5 ∨ x = 6 ∨ x = 8 ∨ 496 ≤ x)) → h2 k x = h k x) (h5 : 0 ≤ h2 141 5 ∧ h2 141 5 ≤ 7) (h6 : 0 ≤ h2 141 6 ∧ h2 141 6 ≤ 9) : gOk (rst h2) 72 := by
  obtain ⟨o1, o2, o3, o4, o5, o6, -, -, -, -⟩ := ho
  have e : ∀ x, x < 496 → x ≠ 5 → x ≠ 6 → x ≠ 7 → x ≠ 8 → rst h2 141 x = h 141 x := fun x a b c d e => by
    rw [rst_f (by omega) (by omega) (by decide) (by decide)]
    exact hf _ _ (by omega)
  have e3 := e 3 (by decide) (by decide) (by decide) (by decide) (by decide)
  have e2 := e 2 (by decide) (by decide) (by decide) (by decide) (by decide)
  have r5 : rst h2 141 5 = h2 141 5 := rst_f (by omega) (by omega) (by decide) (by decide)
  have r6 : rst h2 141 6 = h2 141 6 := rst_f (by omega) (by omega) (by decide) (by decide)
  have r7 : rst h2 141 7 = 0 := by unfold rst fillH; rw [if_neg (by omega), if_neg (by omega), up_ne (by omega), up_at]
  have r24 : rst h2 140 24 = 0 := by unfold rst fillH; rw [if_neg (by omega), if_neg (by omega), up_at]
  have r153 : ∀ j, 0 ≤ j → j < 12 → rst h2 153 j = 0 := fun j a b => by unfold rst fillH; rw [if_neg (by omega), if_pos (by omega)]
  unfold gOk bdOk rOk dOk shOk
  rw [e3, e2, r5, r6, r7, r24, e 0 (by decide) (by decide) (by decide) (by decide) (by decide), e 1 (by decide) (by decide) (by decide) (by decide) (by decide)]
  refine ⟨⟨o1.1, o1.2.1, h5, h6⟩, fun j j0 j1 => ⟨?_, fun p p0 p1 => ?_⟩, ⟨o3, by decide, by decide, fun x x0 x1 => ?_⟩, fun j j0 j1 => ?_, o5, o3, fun x x0 x1 => ?_, fun g g0 g1 => ?_⟩
  · rw [e (46 + 25 * j + 1) (by omega) (by omega) (by omega) (by omega) (by omega), e (46 + 25 * j + 2) (by omega) (by omega) (by omega) (by omega) (by omega), e (46 + 25 * j + 3) (by omega) (by omega) (by omega) (by omega) (by omega), e (46 + 25 * j + 6) (by omega) (by omega) (by omega) (by omega) (by omega), e (46 + 25 * j + 7) (by omega) (by omega) (by omega) (by omega) (by omega), e (46 + 25 * j + 8) (by omega) (by omega) (by omega) (by omega) (by omega), e (46 + 25 * j + 9) (by omega) (by omega) (by omega) (by omega) (by omega)]
    exact (o2 j j0 j1).1
  · rw [e (46 + 25 * j + (11 + p)) (by omega) (by omega) (by omega) (by omega) (by omega)]
    exact (o2 j j0 j1).2 p p0 p1
  · have q := (o2 x x0 x1).1.2.2.1
    have r := o4 x x0 x1
    rw [e (46 + 25 * x + 3) (by omega) (by omega) (by omega) (by omega) (by omega), e (46 + 25 * x + 4) (by omega) (by omega) (by omega) (by omega) (by omega), e (46 + 25 * x + 5) (by omega) (by omega) (by omega) (by omega) (by omega)]
    exact ⟨q, by omega, r.2⟩
  · rw [r153 j j0 (by omega)]; decide
  · rw [e (46 + 25 * x + 5) (by omega) (by omega) (by omega) (by omega) (by omega)]
    exact (o4 x x0 x1).2
  · rw [e (34 + 3 * g) (by omega) (by omega) (by omega) (by omega) (by omega)]
    have := o6 g g0 g1
    omega
/-- what six pulses keep -/
theorem PN_ok : ∀ (m : Nat) (p : Int) (h h' : AH) (c : Int), PN m p h h' → 0 ≤ p → p + m ≤ 6 → gOk h c → 12 * (m : Int) ≤ c → c ≤ 1000 → gOk h' (c - 12 * m) ∧ puK h h'
  | 0, p, h, h', c, hp, _, _, ho, _, _ => by
    have e : h' = h := hp
    subst e
    rw [show c - 12 * ((0 : Nat) : Int) = c by omega]
    exact ⟨ho, fun _ _ _ _ _ => rfl, fun _ _ _ _ _ => rfl⟩
  | m + 1, p, h, h', c, hp, p0, p6, ho, hc, hc2 => by
    obtain ⟨g, hg, hp⟩ := hp
    obtain ⟨o1, k1⟩ := PulseM_ok ⟨by omega, hc2⟩ ho hg ⟨p0, by omega⟩
    obtain ⟨o2, k2⟩ := PN_ok m (p + 1) g h' (c - 12) hp (by omega) (by omega) o1 (by omega) (by omega)
    have of := ho.2.2.2.2.1
    have e2 : g 141 2 = h 141 2 := k1.2 2 (by decide) (by decide) (by omega) (by decide)
    refine ⟨?_, fun k x a b c => by rw [k2.1 k x a b c, k1.1 k x a b c], fun x a b c d => by rw [k2.2 x a b (by rw [e2]; exact c) d, k1.2 x a b c d]⟩
    rwa [show c - 12 - 12 * (m : Int) = c - 12 * ((m + 1 : Nat) : Int) by omega] at o2
theorem go_end {ws : Int} {v3 : AV} {v : AV} {h : AH} {K : AO → Nat → AH → Prop} (h2 : am_n2 v = true) (hn : 0 ≤ h 141 3 ∧ h 141 3 ≤ 12) (ht : 0 ≤ h 141 4 ∧ h 141 4 ≤ 1000000) (k : ∀ h', Endd h h' → K (.inl none) 159 h') : AW mX9_goesOn 7 0 0 K 159 87 [(2, 140), (0, ws), v, v3] [] h := by
  obtain ⟨g, hg⟩ : ∃ g, g = up h 141 4 (h 141 4 + 1) := ⟨_, rfl⟩
  refine a_al0 (by decide) dX9_goesOn_87 ?_
  refine aw_getR (r := 141) 0 rfl dX9_goesOn_88 fl_X9_7 at_140 rfl rfl ?_
  refine aw_iconst dX9_goesOn_91 (by decide) ?_
  refine aw_dup2 dX9_goesOn_92 rfl rfl ?_
  refine aw_iald dX9_goesOn_93 ar_141 (by omega) ?_
  refine aw_iconst dX9_goesOn_94 (by decide) ?_
  refine aw_iaddR (by omega) dX9_goesOn_95 ?_
  refine aw_iast dX9_goesOn_96 ar_141 (by omega) ?_
  refine aw_iconst dX9_goesOn_97 (by decide) ?_
  refine a_is2 rfl rfl dX9_goesOn_98 ?_
  rw [← hg]
  have g3 : g 141 3 = h 141 3 := by rw [hg, up_ne (by omega)]
  refine aw_loop (fun q : Int × AH => 0 ≤ q.1 ∧ q.1 ≤ 4 ∧ (∀ k x, ¬ (k = 141 ∧ 34 ≤ x ∧ x < 34 + 3 * q.1 ∧ (x - 34) % 3 = 1) → q.2 k x = g k x) ∧ ∀ f, 0 ≤ f → f < q.1 → q.2 141 (34 + 3 * f + 1) = 0) (fun q => (4 - q.1).toNat) (fun q => AW mX9_goesOn 7 0 0 K 159 99 [(2, 140), (0, ws), (0, q.1), v3] [] q.2) (fun q hq ih => ?_) (0, g) ⟨by dsimp only; omega, by dsimp only; omega, fun _ _ _ => rfl, fun f f0 f1 => by dsimp only at f1; omega⟩
  obtain ⟨f, g1⟩ := q
  obtain ⟨f0, f1, fr, fz⟩ := hq
  dsimp only at f0 f1 fr fz ih ⊢
  refine a_il2 dX9_goesOn_99 ?_
  refine aw_iconst dX9_goesOn_100 (by decide) ?_
  refine aw_icmp_ge 124 dX9_goesOn_101 (by decide) (fun c101 => ?_) (fun c101 => ?_)
  · refine aw_iconst dX9_goesOn_124 (by decide) ?_
    refine a_is2 rfl rfl dX9_goesOn_125 ?_
    have f4 : f = 4 := by omega
    subst f4
    refine aw_loop (fun q : Int × AV × AH => 0 ≤ q.1 ∧ q.1 ≤ h 141 3 ∧ (∀ k x, ¬ (k = 141 ∧ 46 ≤ x ∧ x < 46 + 25 * q.1 ∧ 11 ≤ (x - 46) % 25 ∧ (x - 46) % 25 ≤ 16) → q.2.2 k x = g1 k x) ∧ ∀ i p, 0 ≤ i → i < q.1 → 0 ≤ p → p < 6 → q.2.2 141 (46 + 25 * i + (11 + p)) = 1) (fun q => (h 141 3 - q.1).toNat) (fun q => AW mX9_goesOn 7 0 0 K 159 126 [(2, 140), (0, ws), (0, q.1), q.2.1] [] q.2.2) (fun q hq ih2 => ?_) (0, v3, g1) ⟨by dsimp only; omega, by dsimp only; omega, fun _ _ _ => rfl, fun i p i0 i1 => by dsimp only at i1; omega⟩
    obtain ⟨i, w3, g2⟩ := q
    obtain ⟨i0, i1, fr2, fo⟩ := hq
    dsimp only at i0 i1 fr2 fo ih2 ⊢
    have e3 : g2 141 3 = h 141 3 := by rw [fr2 _ _ (by omega), fr _ _ (by omega), g3]
    refine a_il2 dX9_goesOn_126 ?_
    refine a_al0 (by decide) dX9_goesOn_127 ?_
    refine aw_getR (r := 141) 0 rfl dX9_goesOn_128 fl_X9_7 at_140 rfl rfl ?_
    try simp (disch := omega) only [up_at, up_ne]
    refine aw_iconst dX9_goesOn_131 (by decide) ?_
    refine aw_iald dX9_goesOn_132 ar_141 (by omega) ?_
    try simp (disch := omega) only [up_at, up_ne]
    refine aw_icmp_ge 166 dX9_goesOn_133 (by decide) (fun c133 => ?_) (fun c133 => ?_)
    · refine aw_vret dX9_goesOn_166 rfl ?_
      have ii : i = h 141 3 := by omega
      subst ii
      refine k _ ⟨fun k x a => ?_, ?_, fun f f0 f1 => ?_, fo⟩
      · rw [fr2 k x (by omega), fr k x (by omega), hg, up_ne (by omega)]
      · rw [fr2 _ _ (by omega), fr _ _ (by omega), hg, up_at]
      · rw [fr2 _ _ (by omega)]
        exact fz f f0 f1
    · refine aw_iconst dX9_goesOn_136 (by decide) ?_
      refine a_is3 rfl rfl dX9_goesOn_137 ?_
      refine aw_loop (fun q : Int × AH => 0 ≤ q.1 ∧ q.1 ≤ 6 ∧ (∀ k x, ¬ (k = 141 ∧ 46 + 25 * i + 11 ≤ x ∧ x < 46 + 25 * i + 11 + q.1) → q.2 k x = g2 k x) ∧ ∀ p, 0 ≤ p → p < q.1 → q.2 141 (46 + 25 * i + (11 + p)) = 1) (fun q => (6 - q.1).toNat) (fun q => AW mX9_goesOn 7 0 0 K 159 138 [(2, 140), (0, ws), (0, i), (0, q.1)] [] q.2) (fun q hq ih3 => ?_) (0, g2) ⟨by dsimp only; omega, by dsimp only; omega, fun _ _ _ => rfl, fun p p0 p1 => by dsimp only at p1; omega⟩
      obtain ⟨p, g4⟩ := q
      obtain ⟨p0, p1, fr3, fo3⟩ := hq
      dsimp only at p0 p1 fr3 fo3 ih3 ⊢
      refine a_il3 dX9_goesOn_138 ?_
      refine aw_bipush dX9_goesOn_139 (by decide) ?_
      refine aw_icmp_ge 160 dX9_goesOn_141 (by decide) (fun c141 => ?_) (fun c141 => ?_)
      · refine a_iiR2 (by omega) rfl rfl dX9_goesOn_160 ?_
        refine aw_goto 126 dX9_goesOn_163 (by decide) ?_
        refine ih2 (i + 1, (0, p), g4) ⟨by dsimp only; omega, by dsimp only; omega, fun k x a => ?_, fun j q j0 j1 q0 q1 => ?_⟩ (by dsimp only; omega)
        · dsimp only at a ⊢
          rw [fr3 k x (by omega)]
          exact fr2 k x (by omega)
        · dsimp only at j1 ⊢
          by_cases e : j = i
          · rw [e]; exact fo3 q q0 (by omega)
          · rw [fr3 _ _ (by omega)]
            exact fo j q j0 (by omega) q0 q1
      · refine a_al0 (by decide) dX9_goesOn_144 ?_
        refine a_il2 dX9_goesOn_145 ?_
        refine aw_bipush dX9_goesOn_146 (by decide) ?_
        refine a_il3 dX9_goesOn_148 ?_
        refine aw_iaddR (by omega) dX9_goesOn_149 ?_
        refine aw_iconst dX9_goesOn_150 (by decide) ?_
        refine aw_callV 1 0 0 dX9_goesOn_151 yw_X9_sets ml_X9_228 in_X9_sets se_X9_sets (ci := 8) rfl at_140 (as := [_, _, _]) rfl rfl ⟨by decide, by decide, by decide, Nat.le_of_ble_eq_true rfl⟩ ?_
        refine ac_sets (by omega) (by omega) ?_
        refine am_cv ?_
        refine a_iiR3 (by omega) rfl rfl dX9_goesOn_154 ?_
        refine aw_goto 138 dX9_goesOn_157 (by decide) ?_
        refine ih3 (p + 1, up g4 141 (46 + 25 * i + (11 + p)) 1) ⟨by dsimp only; omega, by dsimp only; omega, fun k x a => ?_, fun q q0 q1 => ?_⟩ (by dsimp only; omega)
        · dsimp only at a ⊢
          rw [up_ne (by omega)]
          exact fr3 k x (by omega)
        · dsimp only at q1 ⊢
          by_cases e : q = p
          · rw [e, up_at]
          · rw [up_ne (by omega)]
            exact fo3 q q0 (by omega)
  · refine a_al0 (by decide) dX9_goesOn_104 ?_
    refine aw_getR (r := 141) 0 rfl dX9_goesOn_105 fl_X9_7 at_140 rfl rfl ?_
    try simp (disch := omega) only [up_at, up_ne]
    refine aw_bipush dX9_goesOn_108 (by decide) ?_
    refine aw_iconst dX9_goesOn_110 (by decide) ?_
    refine a_il2 dX9_goesOn_111 ?_
    refine aw_imulR (by omega) dX9_goesOn_112 ?_
    refine aw_iaddR (by omega) dX9_goesOn_113 ?_
    refine aw_iconst dX9_goesOn_114 (by decide) ?_
    refine aw_iaddR (by omega) dX9_goesOn_115 ?_
    refine aw_iconst dX9_goesOn_116 (by decide) ?_
    refine aw_iast dX9_goesOn_117 ar_141 (by omega) ?_
    refine a_iiR2 (by omega) rfl rfl dX9_goesOn_118 ?_
    refine aw_goto 99 dX9_goesOn_121 (by decide) ?_
    refine ih (f + 1, up g1 141 (34 + 3 * f + 1) 0) ⟨by dsimp only; omega, by dsimp only; omega, fun k x a => ?_, fun e e0 e1 => ?_⟩ (by dsimp only; omega)
    · dsimp only at a ⊢
      rw [up_ne (by omega)]
      exact fr k x (by omega)
    · dsimp only at e1 ⊢
      by_cases q : e = f
      · rw [q, up_at]
      · rw [up_ne (by omega)]
        exact fz e e0 (by omega)
theorem ac_goesOn {ws : Int} {h : AH} {K : AO → Nat → AH → Prop} (ho : tOk h) (k : ∀ h', GoesOn h ws h' → K (.inl none) 159 h') : AC mX9_goesOn 7 0 0 159 [(2, 140), (0, ws)] h K := by
  have ho2 := ho
  obtain ⟨o1, o2, o3, o4, o5, o6, o7, o8, o9, o10⟩ := ho2
  have J : ∀ h1 h2, Logged h h1 → (¬ ws = 0 → Shifted h1 h2) → (ws = 0 → h2 = h1) → AW mX9_goesOn 7 0 0 K 159 12 [(2, 140), (0, ws), (9, 0), (9, 0)] [] h2 := fun h1 h2 hl hs1 hs2 => by
    obtain ⟨lf, l8⟩ := Logged_f o10 hl
    have e15 : h1 141 5 = h 141 5 := lf _ _ (by omega)
    have e16 : h1 141 6 = h 141 6 := lf _ _ (by omega)
    have e19 : h1 141 9 = h 141 9 := lf _ _ (by omega)
    have hb := o1
    obtain ⟨-, -, b5, b6⟩ := hb
    have hh : (∀ k x, ¬ (k = 141 ∧ (x = 5 ∨ x = 6)) → h2 k x = h1 k x) ∧ (0 ≤ h2 141 5 ∧ h2 141 5 ≤ 7) ∧ (0 ≤ h2 141 6 ∧ h2 141 6 ≤ 9) := by
      by_cases w : ws = 0
      · rw [hs2 w]
        exact ⟨fun _ _ _ => rfl, by omega, by omega⟩
      · refine Shifted_ok (hs1 w) (fun s s0 s1 => ?_) (by omega) (by omega)
        rw [lf 141 (10 + 3 * s + 1) (by omega), lf 141 (10 + 3 * s + 2) (by omega)]
        exact o8 s s0 (by omega)
    obtain ⟨f2, w5, w6⟩ := hh
    have f20 : ∀ k x, ¬ (k = 141 ∧ (x = 5 ∨ x = 6 ∨ x = 8 ∨ 496 ≤ x)) → h2 k x = h k x := fun k x a => by
      rw [f2 k x (by omega), lf k x (by omega)]
    have hG := gOk_rst ho f20 w5 w6
    refine a_al0 (by decide) dX9_goesOn_12 ?_
    refine aw_getR (r := 141) 0 rfl dX9_goesOn_13 fl_X9_7 at_140 rfl rfl ?_
    refine aw_bipush dX9_goesOn_16 (by decide) ?_
    refine aw_iconst dX9_goesOn_18 (by decide) ?_
    refine aw_iast dX9_goesOn_19 ar_141 (by omega) ?_
    refine a_al0 (by decide) dX9_goesOn_20 ?_
    refine aw_iconst dX9_goesOn_21 (by decide) ?_
    refine aw_put 24 dX9_goesOn_22 fp_X9_257 at_140 rfl ?_
    refine aw_iconst dX9_goesOn_25 (by decide) ?_
    refine a_is2 rfl rfl dX9_goesOn_26 ?_
    have H1 := aw_loop (fun i : Int => 0 ≤ i ∧ i ≤ 12) (fun i => (12 - i).toNat) (fun i => AW mX9_goesOn 7 0 0 K 159 27 [(2, 140), (0, ws), (0, i), (9, 0)] [] (fillH (up (up h2 141 7 0) 140 24 0) 153 i 0)) (fun i hi ih => ?_) 0 ⟨by omega, by omega⟩
    · rw [fillH_0] at H1
      exact H1
    · refine a_il2 dX9_goesOn_27 ?_
      refine aw_bipush dX9_goesOn_28 (by decide) ?_
      refine aw_icmp_ge 46 dX9_goesOn_30 (by decide) (fun c30 => ?_) (fun c30 => ?_)
      · refine aw_iconst dX9_goesOn_46 (by decide) ?_
        refine a_is2 rfl rfl dX9_goesOn_47 ?_
        have i12 : i = 12 := by omega
        subst i12
        have H2 := aw_loop (fun i : Int => 0 ≤ i ∧ i ≤ 144) (fun i => (144 - i).toNat) (fun i => AW mX9_goesOn 7 0 0 K 159 48 [(2, 140), (0, ws), (0, i), (9, 0)] [] (fillH (fillH (up (up h2 141 7 0) 140 24 0) 153 12 0) 154 i (-1))) (fun i hi ih => ?_) 0 ⟨by omega, by omega⟩
        · rw [fillH_0] at H2
          exact H2
        · refine a_il2 dX9_goesOn_48 ?_
          refine aw_sipush dX9_goesOn_49 (by decide) ?_
          refine aw_icmp_ge 68 dX9_goesOn_52 (by decide) (fun c52 => ?_) (fun c52 => ?_)
          · refine aw_iconst dX9_goesOn_68 (by decide) ?_
            refine a_is2 rfl rfl dX9_goesOn_69 ?_
            have i144 : i = 144 := by omega
            subst i144
            have HP : ∀ (m : Nat) (p : Int) (g : AH), p + m = 6 → 0 ≤ p → gOk g (12 * m) → (∀ h3, PN m p g h3 → ∀ v, am_n2 v = true → AW mX9_goesOn 7 0 0 K 159 87 [(2, 140), (0, ws), v, (9, 0)] [] h3) → AW mX9_goesOn 7 0 0 K 159 70 [(2, 140), (0, ws), (0, p), (9, 0)] [] g := by
              intro m
              induction m with
              | zero =>
                intro p g hp p0 hg kk
                refine a_il2 dX9_goesOn_70 ?_
                refine aw_bipush dX9_goesOn_71 (by decide) ?_
                refine aw_icmp_ge 87 dX9_goesOn_73 (by decide) (fun c73 => ?_) (fun c73 => ?_)
                · skip
                  exact kk g rfl _ rfl
                · exfalso; omega
              | succ m ihp =>
                intro p g hp p0 hg kk
                refine a_il2 dX9_goesOn_70 ?_
                refine aw_bipush dX9_goesOn_71 (by decide) ?_
                refine aw_icmp_ge 87 dX9_goesOn_73 (by decide) (fun c73 => ?_) (fun c73 => ?_)
                · exfalso; omega
                · refine a_al0 (by decide) dX9_goesOn_76 ?_
                  refine a_il2 dX9_goesOn_77 ?_
                  refine aw_callV 6 0 0 dX9_goesOn_78 yw_X9_pulses ml_X9_287 in_X9_pulses se_X9_pulses (ci := 8) rfl at_140 (as := [_]) rfl rfl ⟨by decide, by decide, by decide, Nat.le_of_ble_eq_true rfl⟩ ?_
                  refine ac_pulses ⟨p0, by omega⟩ (gOk_pu ⟨p0, by omega⟩ (by omega) hg) (fun g2 hg2 => ?_)
                  refine am_cv ?_
                  refine a_iiR2 (by omega) rfl rfl dX9_goesOn_81 ?_
                  refine aw_goto 70 dX9_goesOn_84 (by decide) ?_
                  have hg3 := (PulseM_ok ⟨by omega, by omega⟩ hg hg2 ⟨p0, by omega⟩).1
                  refine ihp (p + 1) g2 (by omega) (by omega) ?_ (fun h3 q v hv => kk h3 ⟨g2, hg2, q⟩ v hv)
                  rwa [show 12 * ((m + 1 : Nat) : Int) - 12 = 12 * (m : Int) by omega] at hg3
            refine HP 6 0 _ (by omega) (by omega) hG (fun h3 hpn v hv => ?_)
            obtain ⟨g3, k3⟩ := PN_ok 6 0 (rst h2) h3 72 hpn (by omega) (by omega) hG (by omega) (by omega)
            have e4 : h3 141 4 = h 141 4 := by
              rw [k3.2 4 (by decide) (by decide) (by omega) (by decide), rst_f (by omega) (by omega) (by decide) (by decide)]
              exact f20 _ _ (by omega)
            exact go_end hv g3.2.2.1.1 (by omega) (fun h' q => k h' ⟨h1, h2, h3, hl, hs1, hs2, hpn, q⟩)
          · refine a_al0 (by decide) dX9_goesOn_55 ?_
            refine aw_getR (r := 154) 23 rfl dX9_goesOn_56 fl_X9_54 at_140 rfl rfl ?_
            try simp (disch := omega) only [up_at, up_ne]
            refine a_il2 dX9_goesOn_59 ?_
            refine aw_iconst dX9_goesOn_60 (by decide) ?_
            refine aw_iast dX9_goesOn_61 ar_154 (by omega) ?_
            refine a_iiR2 (by omega) rfl rfl dX9_goesOn_62 ?_
            refine aw_goto 48 dX9_goesOn_65 (by decide) ?_
            rw [fillH_s _ hi.1]
            exact ih (i + 1) ⟨by omega, by omega⟩ (by omega)
      · refine a_al0 (by decide) dX9_goesOn_33 ?_
        refine aw_getR (r := 153) 22 rfl dX9_goesOn_34 fl_X9_51 at_140 rfl rfl ?_
        try simp (disch := omega) only [up_at, up_ne]
        refine a_il2 dX9_goesOn_37 ?_
        refine aw_iconst dX9_goesOn_38 (by decide) ?_
        refine aw_iast dX9_goesOn_39 ar_153 (by omega) ?_
        refine a_iiR2 (by omega) rfl rfl dX9_goesOn_40 ?_
        refine aw_goto 27 dX9_goesOn_43 (by decide) ?_
        rw [fillH_s _ hi.1]
        exact ih (i + 1) ⟨by omega, by omega⟩ (by omega)
  refine ac_of (ls := [(2, 140), (0, ws), (9, 0), (9, 0)]) pn_X9 rfl (Nat.le_of_ble_eq_true rfl) rfl ?_
  refine a_al0 (by decide) dX9_goesOn_0 ?_
  refine aw_callV 4 0 0 dX9_goesOn_1 yw_X9_logs ml_X9_281 in_X9_logs se_X9_logs (ci := 8) rfl at_140 (as := []) rfl rfl ⟨by decide, by decide, by decide, Nat.le_of_ble_eq_true rfl⟩ ?_
  refine ac_logs o10 o3 o5 (fun h1 hl => ?_)
  obtain ⟨lf, l8⟩ := Logged_f o10 hl
  refine am_cv ?_
  refine a_il1 dX9_goesOn_4 ?_
  refine aw_if_eq 12 dX9_goesOn_5 (by decide) (fun c5 => ?_) (fun c5 => ?_)
  · skip
    exact J h1 h1 hl (fun q => absurd (by assumption) q) (fun _ => rfl)
  · refine a_al0 (by decide) dX9_goesOn_8 ?_
    refine aw_callV 2 0 0 dX9_goesOn_9 yw_X9_shifts ml_X9_284 in_X9_shifts se_X9_shifts (ci := 8) rfl at_140 (as := []) rfl rfl ⟨by decide, by decide, by decide, Nat.le_of_ble_eq_true rfl⟩ ?_
    refine ac_shifts (by rw [lf _ _ (by omega)]; exact o7) (fun x hx => ?_)
    refine am_cv ?_
    exact J h1 _ hl (fun _ => ⟨x, hx, rfl⟩) (fun q => absurd q (by assumption))
theorem ac_tries {h : AH} {K : AO → Nat → AH → Prop} (ho : tOk (cpy h 143 0 141 0 1256)) (k : ∀ h', GoesOn (cpy h 143 0 141 0 1256) 1 h' → K (.inl none) 159 h') : AC mX9_tries 8 0 0 159 [(2, 140)] h K := by
  refine ac_of (ls := [(2, 140)]) pn_X9 rfl (Nat.le_of_ble_eq_true rfl) rfl ?_
  refine a_al0 (by decide) dX9_tries_0 ?_
  refine aw_getR (r := 143) 2 rfl dX9_tries_1 fl_X9_16 at_140 rfl rfl ?_
  refine aw_iconst dX9_tries_4 (by decide) ?_
  refine a_al0 (by decide) dX9_tries_5 ?_
  refine aw_getR (r := 141) 0 rfl dX9_tries_6 fl_X9_7 at_140 rfl rfl ?_
  refine aw_iconst dX9_tries_9 (by decide) ?_
  refine aw_callS 1 0 0 dX9_tries_10 yw_X9_copies ml_X9_72 sm_X9_copies (as := [_, _, _, _]) rfl rfl ⟨by decide, by decide, by decide, Nat.le_of_ble_eq_true rfl⟩ ?_
  refine ac_copies ar_143 ar_141 (by decide) (by omega) (by omega) (by omega) ?_
  refine am_cv ?_
  refine a_al0 (by decide) dX9_tries_13 ?_
  refine aw_iconst dX9_tries_14 (by decide) ?_
  refine aw_callV 7 0 0 dX9_tries_15 yw_X9_goesOn ml_X9_325 in_X9_goesOn se_X9_goesOn (ci := 8) rfl at_140 (as := [_]) rfl rfl ⟨by decide, by decide, by decide, Nat.le_of_ble_eq_true rfl⟩ ?_
  refine ac_goesOn ho (fun h' hg => ?_)
  refine am_cv ?_
  refine aw_vret dX9_tries_18 rfl ?_
  exact k h' hg
theorem ac_putsBack {h : AH} {K : AO → Nat → AH → Prop} (k : K (.inl none) 159 (cpy h 141 0 143 0 1256)) : AC mX9_putsBack 2 0 0 159 [(2, 140)] h K := by
  refine ac_of (ls := [(2, 140)]) pn_X9 rfl (Nat.le_of_ble_eq_true rfl) rfl ?_
  refine a_al0 (by decide) dX9_putsBack_0 ?_
  refine aw_getR (r := 141) 0 rfl dX9_putsBack_1 fl_X9_7 at_140 rfl rfl ?_
  refine aw_iconst dX9_putsBack_4 (by decide) ?_
  refine a_al0 (by decide) dX9_putsBack_5 ?_
  refine aw_getR (r := 143) 2 rfl dX9_putsBack_6 fl_X9_16 at_140 rfl rfl ?_
  refine aw_iconst dX9_putsBack_9 (by decide) ?_
  refine aw_callS 1 0 0 dX9_putsBack_10 yw_X9_copies ml_X9_72 sm_X9_copies (as := [_, _, _, _]) rfl rfl ⟨by decide, by decide, by decide, Nat.le_of_ble_eq_true rfl⟩ ?_
  refine ac_copies ar_141 ar_143 (by decide) (by omega) (by omega) (by omega) ?_
  refine am_cv ?_
  refine aw_vret dX9_putsBack_13 rfl ?_
  exact k
