/-! what holds between the calls, behind a change -/
theorem GoesOn_nm {h h' : AH} {ws : Int} (ho : tOk h) (hg : GoesOn h ws h') : ∀ i k, 0 ≤ i → i < h 141 3 → 0 ≤ k → k < 8 → h' 141 (46 + 25 * i + (17 + k)) = h 141 (46 + 25 * i + (17 + k)) := by
  have ho2 := ho
  obtain ⟨o1, o2, o3, o4, o5, o6, o7, o8, o9, o10⟩ := ho2
  obtain ⟨h1, h2, h3, hl, hs1, hs2, hpn, he⟩ := hg
  obtain ⟨lf, l8⟩ := Logged_f o10 hl
  have hb := o1
  obtain ⟨-, -, b5, b6⟩ := hb
  have e15 : h1 141 5 = h 141 5 := lf _ _ (by omega)
  have e16 : h1 141 6 = h 141 6 := lf _ _ (by omega)
  have e19 : h1 141 9 = h 141 9 := lf _ _ (by omega)
  have hh : (∀ k x, ¬ (k = 141 ∧ (x = 5 ∨ x = 6)) → h2 k x = h1 k x) ∧ (0 ≤ h2 141 5 ∧ h2 141 5 ≤ 7) ∧ (0 ≤ h2 141 6 ∧ h2 141 6 ≤ 9) := by
    by_cases w : ws = 0
    · rw [hs2 w]
      exact ⟨fun _ _ _ => rfl, by omega, by omega⟩
    · refine Shifted_ok (hs1 w) (fun s s0 s1 => ?_) (by omega) (by omega)
      rw [lf 141 (10 + 3 * s + 1) (by omega), lf 141 (10 + 3 * s + 2) (by omega)]
      exact o8 s s0 (by omega)
  obtain ⟨f2, w5, w6⟩ := hh
  have f20 : ∀ k x, ¬ (k = 141 ∧ (x = 5 ∨ x = 6 ∨ x = 8 ∨ 496 ≤ x)) → h2 k x = h k x := fun k x a => by
    rw [f2 k x (by omega), lf k x (by omega)]
  have hG := gOk_rst ho f20 w5 w6
  obtain ⟨g3, k3⟩ := PN_ok 6 0 (rst h2) h3 72 hpn (by omega) (by omega) hG (by omega) (by omega)
  have e3 : h3 141 3 = h 141 3 := by
    rw [k3.2 3 (by decide) (by decide) (by omega) (by decide), rst_f (by omega) (by omega) (by decide) (by decide)]
    exact f20 _ _ (by omega)
  have e2 : rst h2 141 2 = h 141 2 := by
    rw [rst_f (by omega) (by omega) (by decide) (by decide)]
    exact f20 _ _ (by omega)
  intro i k i0 i1 k0 k1
  rw [he.1 141 _ (by omega), k3.2 _ (by omega) (by omega) (by omega) (by omega), rst_f (by omega) (by omega) (by decide) (by decide)]
  exact f20 _ _ (by omega)
theorem UH_kp {h h' : AH} (hH : HI h) (hS : SR h 5 h) (hU : UN h) (hUH : UH h) (c4 : h' 32 2 = if h 32 2 + 1 < 8 then h 32 2 + 1 else 8) (m1 : h' 140 6 = if h 140 6 = 8 then 8 else h 140 6 + 1) (m2 : ∀ e j, 0 ≤ e → e < h' 140 6 → 0 ≤ j → j < 1256 → h' 144 (1256 * e + j) = if e = h' 140 6 - 1 then h 141 j else h 144 (1256 * (if h 140 6 = 8 then e + 1 else e) + j)) (s1 : ∀ x, h' 145 x = h 145 x) (s2 : ∀ x, h' 146 x = h 146 x) : UH h' := by
  obtain ⟨n1, n2, n6, hh⟩ := hH
  have n3 := hS.2.2.2.1.2.2.1
  have k6 : h' 140 6 = h' 32 2 := by rw [m1, c4, n6]; split <;> split <;> omega
  have kk : h' 32 2 = if h 32 2 = 8 then 8 else h 32 2 + 1 := by rw [← k6, m1, n6]
  refine ⟨fun e e0 e1 => ?_, fun s s0 s1' z => ?_⟩
  · rw [k6, n6] at m2
    by_cases z : e = h' 32 2 - 1
    · refine UN_eqr (g := h) n3.2 ?_ (fun i k i0 i1 k0 k1 => ?_) hU
      · show h' 144 (1256 * e + 3) = _
        rw [m2 e 3 e0 e1 (by decide) (by decide), if_pos z]
      · show h' 144 (1256 * e + _) = _
        rw [m2 e _ e0 e1 (by omega) (by omega), if_pos z]
    · obtain ⟨e', he'⟩ : ∃ e', e' = if h 32 2 = 8 then e + 1 else e := ⟨_, rfl⟩
      have r : 0 ≤ e' ∧ e' < h 32 2 := by
        rw [he']
        split at kk
        · rw [if_pos (by assumption)]; omega
        · rw [if_neg (by assumption)]; omega
      have q := hh e' r.1 r.2
      have q3 : 0 ≤ rwA h 144 e' 141 3 ∧ rwA h 144 e' 141 3 ≤ 12 := q.2.2.2.1.2.2.1
      refine UN_eqr (g := rwA h 144 e') q3.2 ?_ (fun i k i0 i1 k0 k1 => ?_) (hUH.1 e' r.1 r.2)
      · show h' 144 (1256 * e + 3) = h 144 (1256 * e' + 3)
        rw [m2 e 3 e0 e1 (by decide) (by decide), if_neg z, he']
      · show h' 144 (1256 * e + _) = h 144 (1256 * e' + _)
        rw [m2 e _ e0 e1 (by omega) (by omega), if_neg z, he']
  · have : rwA h' 145 s = rwA h 145 s := by funext _ x; exact s1 _
    rw [this]
    rw [s2] at z
    exact hUH.2 s s0 s1' z
/-- behind a change that was kept -/
theorem LI_kp {h h2 : AH} (hL : LI h) (c1 : ∀ k x, 35 ≤ k → k < 115 → ¬ (35 + 10 * h 32 1 ≤ k ∧ k < 45 + 10 * h 32 1) → h2 k x = h k x) (c2 : shEq h 5 h2 (35 + 10 * h 32 1)) (c3 : h2 32 1 = (h 32 1 + 1) % 8) (c4 : h2 32 2 = if h 32 2 + 1 < 8 then h 32 2 + 1 else 8) (m1 : h2 140 6 = if h 140 6 = 8 then 8 else h 140 6 + 1) (m2 : ∀ e j, 0 ≤ e → e < h2 140 6 → 0 ≤ j → j < 1256 → h2 144 (1256 * e + j) = if e = h2 140 6 - 1 then h 141 j else h 144 (1256 * (if h 140 6 = 8 then e + 1 else e) + j)) (v : ∀ k x, 117 ≤ k → k < 138 → h2 k x = h k x) (s1 : ∀ x, h2 145 x = h 145 x) (s2 : ∀ x, h2 146 x = h 146 x) (S : SR h2 5 h2) (U : UN h2) (T : TXi h2) (W : WTi h2) : LI h2 :=
  ⟨S, U, HI_kp hL.2.2.1 hL.1 c1 c2 c3 c4 m1 m2, SV_mv hL.2.2.2.1 v s1 s2, UH_kp hL.2.2.1 hL.1 hL.2.1 hL.2.2.2.2.1 c4 m1 m2 s1 s2, T, W⟩
/-- the class keeps, then its sheet changes; the model keeps, then its row changes -/
theorem LI_k2 {h hA hB h1 hM hN h2 : AH} (hL : LI h) (A : ∀ k x, ¬ (1 ≤ k ∧ k ≤ 4) → ¬ (15 ≤ k ∧ k ≤ 24) → hA k x = h k x) (kc : cKept hA hB) (B : ∀ k x, ¬ (5 ≤ k ∧ k < 15) → ¬ (25 ≤ k ∧ k ≤ 31) → k ≠ 157 → h1 k x = hB k x) (M : ∀ k x, k ≠ 140 → k ≠ 155 → k ≠ 142 → k ≠ 148 → k ≠ 141 → hM k x = h1 k x) (M6 : hM 140 6 = h1 140 6) {r : Int} (Mr : ∀ x, 0 ≤ x → x < 1256 → hM r x = h 141 x) (km : Kept hM r hN) (N : ∀ k x, k ≠ 141 → ¬ (149 ≤ k ∧ k ≤ 154) → ¬ (k = 140 ∧ x = 24) → h2 k x = hN k x) (S : SR h2 5 h2) (U : UN h2) (T : TXi h2) (W : WTi h2) : LI h2 := by
  have n1 := hL.2.2.1.1
  obtain ⟨c1, c2, c3, c4⟩ := kc
  obtain ⟨a1, a2, a3⟩ := km
  have A1 : hA 32 1 = h 32 1 := A _ _ (by omega) (by omega)
  have A2 : hA 32 2 = h 32 2 := A _ _ (by omega) (by omega)
  rw [A1] at c1 c2 c3
  rw [A2] at c4
  have F : ∀ k x, 32 ≤ k → k < 140 → h2 k x = hB k x := fun k x a b => by
    rw [N k x (by omega) (by omega) (by omega), a1 k x (by omega) (by omega), M k x (by omega) (by omega) (by omega) (by omega) (by omega), B k x (by omega) (by omega) (by omega)]
  have G : ∀ k x, 144 ≤ k → k ≤ 146 → hM k x = h k x := fun k x a b => by
    rw [M k x (by omega) (by omega) (by omega) (by omega) (by omega), B k x (by omega) (by omega) (by omega), c1 k x (by omega) (by omega), A k x (by omega) (by omega)]
  have e6 : h2 140 6 = hN 140 6 := N _ _ (by omega) (by omega) (by omega)
  have m6 : hM 140 6 = h 140 6 := by
    rw [M6, B _ _ (by omega) (by omega) (by omega), c1 _ _ (by omega) (by omega), A _ _ (by omega) (by omega)]
  rw [m6] at a2 a3
  refine LI_kp hL (fun k x a b c => ?_) ?_ ?_ ?_ ?_ (fun e j e0 e1 j0 j1 => ?_) (fun k x a b => ?_) (fun x => ?_) (fun x => ?_) S U T W
  · rw [F k x (by omega) (by omega), c1 k x c (by omega), A k x (by omega) (by omega)]
  · exact shEq_trans (shEq_trans (shEq_sm (fun k x a b => A k x (by omega) (by omega))) c2) (shEq_sm (fun k x a b => F k x (by omega) (by omega)))
  · rw [F _ _ (by decide) (by decide), c3]
  · rw [F _ _ (by decide) (by decide), c4]
  · rw [e6, a2]
  · rw [e6] at e1 ⊢
    rw [N _ _ (by omega) (by omega) (by omega), a3 e j e0 e1 j0 j1]
    split
    · exact Mr j j0 j1
    · exact G _ _ (by decide) (by decide)
  · rw [F k x (by omega) (by omega), c1 k x (by omega) (by omega), A k x (by omega) (by omega)]
  · rw [N _ _ (by omega) (by omega) (by omega), a1 _ _ (by omega) (by omega), G _ _ (by decide) (by decide)]
  · rw [N _ _ (by omega) (by omega) (by omega), a1 _ _ (by omega) (by omega), G _ _ (by decide) (by decide)]
/-- behind what leaves the sheets as they were -/
theorem LI_mv2 {h h' : AH} (hL : LI h) (c : ∀ k x, (5 ≤ k ∧ k < 15) ∨ (32 ≤ k ∧ k < 138) ∨ (k = 140 ∧ x = 6) ∨ (k = 141 ∧ 0 ≤ x ∧ x < 1256) ∨ (144 ≤ k ∧ k ≤ 146) → h' k x = h k x) (T : TXi h') (W : WTi h') : LI h' := by
  obtain ⟨l1, l2, l3, l4, l5, l6, l7⟩ := hL
  have r : ∀ x, 0 ≤ x → x < 1256 → h' 141 x = h 141 x := fun x a b => c 141 x (by omega)
  exact ⟨SR_mv (shEq_sm (fun k x a b => c k x (by omega))) r l1, UN_row l1 r l2, HI_mv l3 (fun k x a b => c k x (by omega)) (c _ _ (by omega)) (fun x => c _ _ (by omega)), SV_mv l4 (fun k x a b => c k x (by omega)) (fun x => c _ _ (by omega)) (fun x => c _ _ (by omega)), UH_mv l5 (c _ _ (by omega)) (fun x => c _ _ (by omega)) (fun x => c _ _ (by omega)) (fun x => c _ _ (by omega)), T, W⟩
