/-! class and model agree: load, write -/
theorem ag_load {h : AH} {K : AO → Nat → AH → Prop} (hL : LI h) (kk : ∀ v h1, AGU mX9_load 9 [(2, 140)] h1 v → K (.inl (some (0, v))) 159 h1) : AC mX8_load 11 0 0 159 [(2, 0)] h K := by
  have hS := hL.1
  have N3 : 0 ≤ h 141 3 ∧ h 141 3 ≤ 12 := hS.2.2.2.1.2.2.1
  have N2 : 0 ≤ h 141 2 ∧ h 141 2 ≤ 4 := hS.2.2.2.1.2.2.2.2.1
  have R4 : 0 ≤ h 141 4 ∧ h 141 4 ≤ 1000 := hS.2.2.2.2.1
  have R8 : h 141 8 = (if h 141 4 < 10 then h 141 4 else 10) := hS.2.2.2.2.2.1
  have R7 : 0 ≤ h 141 7 ∧ h 141 7 ≤ 30 := hS.2.2.2.2.2.2.1
  have N9 : 0 ≤ h 141 9 ∧ h 141 9 ≤ 8 := hS.2.2.2.1.2.2.2.2.2.2.1
  have B0 : 4 ≤ h 141 0 ∧ h 141 0 ≤ 30 := hS.2.2.2.1.1.1
  have B1 : 4 ≤ h 141 1 ∧ h 141 1 ≤ 30 := hS.2.2.2.1.1.2.1
  have B5 : 0 ≤ h 141 5 ∧ h 141 5 ≤ 7 := hS.2.2.2.1.1.2.2.1
  have B6 : 0 ≤ h 141 6 ∧ h 141 6 ≤ 9 := hS.2.2.2.1.1.2.2.2
  have sO : ∀ i, 0 ≤ i → i < h 141 3 → shOk h i := fun i a b => (hS.2.2.2.1.2.1 i a b).1
  have sF : ∀ i, 0 ≤ i → i < h 141 3 → 0 ≤ h 141 (46 + 25 * i + 0) := fun i a b => (hS.2.1 i a b).1.1
  have sH : ∀ i, 0 ≤ i → i < h 141 3 → -100000 ≤ h 141 (46 + 25 * i + 4) ∧ h 141 (46 + 25 * i + 4) ≤ 100000 := fun i a b => by
    have q := (hS.2.2.2.1.2.2.2.1 i a b).1
    omega
  have lO : lgOk h := ⟨by omega, by rw [R8]; split <;> omega⟩
  have hT := hS.2.2.2.1
  obtain ⟨lS, lU, lH, lV, lUH, lT, lW⟩ := id hL
  have n1 : 0 ≤ h 32 1 ∧ h 32 1 ≤ 7 := lH.1
  have n2 : 0 ≤ h 32 2 ∧ h 32 2 ≤ 8 := lH.2.1
  have k6 : 0 ≤ h 140 6 ∧ h 140 6 ≤ 8 := by rw [lH.2.2.1]; exact n2
  obtain ⟨tS, tc, tm⟩ := LI_tx hL
  obtain ⟨N, eN⟩ : ∃ N : Int → Int, N = h 148 := ⟨_, rfl⟩
  obtain ⟨r, er⟩ : ∃ r : Int → Int, r = blankR (h 141) := ⟨_, rfl⟩
  have hr : ∀ x, 0 ≤ x → x < 1256 → x ≠ 6 → r x = 0 := fun x x0 x1 x6 => by
    rw [er]
    unfold blankR upr
    rw [if_neg x6]
    exact if_pos ⟨x0, x1⟩
  have hr6 : r 6 = 5 := by
    rw [er]
    unfold blankR upr
    exact if_pos rfl
  refine cx_load (N := N) tS tc hr hr6 n1 n2 (fun q h' g fl => kk _ _ (fun K2 k2 => ?_)) (fun q h0 hB hC g0 e3 kc fr SC UC => kk _ _ (fun K2 k2 => ?_))
  · obtain ⟨h1, E1⟩ : ∃ h1 : AH, h1 = up h' 2 1 0 := ⟨_, rfl⟩
    rw [← E1]
    have G1 : ∀ k x, k ≠ 2 → k ≠ 4 → ¬ (15 ≤ k ∧ k ≤ 24) → h1 k x = h k x := fun k x a b c => by rw [E1, up_ne (by omega), g k x (by omega) b c]
    have E : h1 141 = h 141 := by
      funext x
      exact G1 141 x (by omega) (by omega) (by omega)
    have EN : h1 148 = N := by
      rw [eN]
      funext x
      exact G1 148 x (by omega) (by omega) (by omega)
    have e6 : h1 140 6 = h 140 6 := G1 _ _ (by omega) (by omega) (by omega)
    have t1 : Tx (txS h) (h 140 9) h1 := ⟨G1 _ _ (by omega) (by omega) (by omega), fun k a b => by rw [G1 _ _ (by omega) (by omega) (by omega)]; exact tm.2 k a b⟩
    refine ac_load (N := N) (r := r) tS t1 (by rw [e6]; exact k6) (by rw [E, er]) EN (fun h2 f2 r2 e9 e16 q2 => ?_) (fun q2 => absurd q2 q)
    have F2 : ∀ k x, k ≠ 2 → k ≠ 4 → ¬ (15 ≤ k ∧ k ≤ 24) → k ≠ 141 → k ≠ 142 → k ≠ 148 → ¬ (k = 140 ∧ (x = 7 ∨ (9 ≤ x ∧ x ≤ 16))) → h2 k x = h k x := fun k x a b c d e i j => by rw [f2 k x d e i j, G1 k x a b c]
    refine k2 _ h2 rfl (LI_mv2 hL (fun k x a => ?_) (TXi_0 e9 ?_ ?_) (WTi_mv lW (F2 _ _ (by omega) (by omega) (by omega) (by omega) (by omega) (by omega) (by omega)) (F2 _ _ (by omega) (by omega) (by omega) (by omega) (by omega) (by omega) (by omega)) (fun k => F2 _ _ (by omega) (by omega) (by omega) (by omega) (by omega) (by omega) (by omega)) (fun k => F2 _ _ (by omega) (by omega) (by omega) (by omega) (by omega) (by omega) (by omega))))
    · by_cases z : k = 141
      · subst z
        rw [r2 x (by omega) (by omega), E]
      · exact F2 k x (by omega) (by omega) (by omega) z (by omega) (by omega) (by omega)
    · rw [f2 _ _ (by omega) (by omega) (by omega) (by omega), E1, up_at]
    · rw [f2 _ _ (by omega) (by omega) (by omega) (by omega), E1, up_ne (by omega), e16]
      exact fl.2
  · have A : ∀ k x, ¬ (1 ≤ k ∧ k ≤ 4) → ¬ (15 ≤ k ∧ k ≤ 24) → up h0 2 1 0 k x = h k x := fun k x a b => by rw [up_ne (by omega), g0 k x (by omega) (by omega) b]
    have A1 : up h0 2 1 0 32 1 = h 32 1 := A _ _ (by omega) (by omega)
    have G1 : ∀ k x, ¬ (1 ≤ k ∧ k ≤ 4) → ¬ (5 ≤ k ∧ k < 15) → ¬ (15 ≤ k ∧ k ≤ 24) → ¬ (32 ≤ k ∧ k < 115) → hC k x = h k x := fun k x a b c d => by rw [fr k x (by omega), kc.1 k x (by rw [A1]; omega) (by omega), A k x a c]
    have E : hC 141 = h 141 := by
      funext x
      exact G1 141 x (by omega) (by omega) (by omega) (by omega)
    have EN : hC 148 = N := by
      rw [eN]
      funext x
      exact G1 148 x (by omega) (by omega) (by omega) (by omega)
    have e6 : hC 140 6 = h 140 6 := G1 _ _ (by omega) (by omega) (by omega) (by omega)
    have t1 : Tx (txS h) (h 140 9) hC := ⟨G1 _ _ (by omega) (by omega) (by omega) (by omega), fun k a b => by rw [G1 _ _ (by omega) (by omega) (by omega) (by omega)]; exact tm.2 k a b⟩
    refine ac_load (N := N) (r := r) tS t1 (by rw [e6]; exact k6) (by rw [E, er]) EN (fun _ _ _ _ _ q2 => absurd q q2) (fun _ g1 h2 f2 r1 r142 e9 e16 km => ?_)
    have c15 : ∀ k x, k ≠ 140 → k ≠ 141 → k ≠ 142 → k ≠ 144 → k ≠ 148 → h2 k x = hC k x := fun k x a b c d e => by rw [km.1 k x d (by omega), f2 k x b c e (by omega)]
    have hr2 : ∀ x, h2 141 x = (LD (txS h) r N).1 x := fun x => by rw [km.1 141 x (by decide) (by omega), r1]
    have n0 := SC.2.2.2.1.2.2.1
    have S : SR h2 5 h2 := SR_mv (shEq_sm (fun k x a b => c15 k x (by omega) (by omega) (by omega) (by omega) (by omega))) (fun x _ _ => hr2 x) SC
    have U : UN h2 := UN_eqr (g := fun _ => (LD (txS h) r N).1) n0.2 (hr2 3) (fun i k i0 i1 k0 k1 => hr2 _) UC
    have h29 : h2 140 9 = 0 := by rw [km.1 140 9 (by decide) (by omega), e9]
    have h216 : h2 140 16 = -1 := by rw [km.1 140 16 (by decide) (by omega), e16]
    have h21 : h2 2 1 = 0 := by rw [c15 _ _ (by omega) (by omega) (by omega) (by omega) (by omega), fr _ _ (by omega), kc.1 _ _ (by rw [A1]; omega) (by omega), up_at]
    have h23 : h2 2 3 = -1 := by rw [c15 _ _ (by omega) (by omega) (by omega) (by omega) (by omega), fr _ _ (by omega), kc.1 _ _ (by rw [A1]; omega) (by omega), up_ne (by omega), e3]
    have W : WTi h2 := WTi_mv lW (by rw [km.1 140 27 (by decide) (by omega), f2 140 27 (by omega) (by omega) (by omega) (by omega), G1 _ _ (by omega) (by omega) (by omega) (by omega)]) (by rw [c15 _ _ (by omega) (by omega) (by omega) (by omega) (by omega), G1 _ _ (by omega) (by omega) (by omega) (by omega)]) (fun k => by rw [c15 _ _ (by omega) (by omega) (by omega) (by omega) (by omega), G1 _ _ (by omega) (by omega) (by omega) (by omega)]) (fun k => by rw [c15 _ _ (by omega) (by omega) (by omega) (by omega) (by omega), G1 _ _ (by omega) (by omega) (by omega) (by omega)])
    exact k2 _ h2 rfl (LI_k2 hL A kc (fun k x a b c => fr k x (by omega)) (fun k x a b c d e => f2 k x e c d (by omega)) (f2 140 6 (by omega) (by omega) (by omega) (by omega)) (fun x x0 x1 => by rw [r142 x x0 x1, E]) km (fun _ _ _ _ _ => rfl) S U (TXi_0 h29 h21 (by rw [h23, h216])) W)
theorem ag_write {p0 : Int} {h : AH} {K : AO → Nat → AH → Prop} (hL : LI h) (kk : ∀ k v h1, (k = 0 → h1 157 0 = v) → AGK mX9_write 6 [(2, 140), (0, p0)] h1 k v → K (.inl (some (0, k))) 159 h1) : AC mL_write 8 2 12 159 [(2, 0), (0, p0), (2, 157)] h K := by
  have hS := hL.1
  have N3 : 0 ≤ h 141 3 ∧ h 141 3 ≤ 12 := hS.2.2.2.1.2.2.1
  have N2 : 0 ≤ h 141 2 ∧ h 141 2 ≤ 4 := hS.2.2.2.1.2.2.2.2.1
  have R4 : 0 ≤ h 141 4 ∧ h 141 4 ≤ 1000 := hS.2.2.2.2.1
  have R8 : h 141 8 = (if h 141 4 < 10 then h 141 4 else 10) := hS.2.2.2.2.2.1
  have R7 : 0 ≤ h 141 7 ∧ h 141 7 ≤ 30 := hS.2.2.2.2.2.2.1
  have N9 : 0 ≤ h 141 9 ∧ h 141 9 ≤ 8 := hS.2.2.2.1.2.2.2.2.2.2.1
  have B0 : 4 ≤ h 141 0 ∧ h 141 0 ≤ 30 := hS.2.2.2.1.1.1
  have B1 : 4 ≤ h 141 1 ∧ h 141 1 ≤ 30 := hS.2.2.2.1.1.2.1
  have B5 : 0 ≤ h 141 5 ∧ h 141 5 ≤ 7 := hS.2.2.2.1.1.2.2.1
  have B6 : 0 ≤ h 141 6 ∧ h 141 6 ≤ 9 := hS.2.2.2.1.1.2.2.2
  have sO : ∀ i, 0 ≤ i → i < h 141 3 → shOk h i := fun i a b => (hS.2.2.2.1.2.1 i a b).1
  have sF : ∀ i, 0 ≤ i → i < h 141 3 → 0 ≤ h 141 (46 + 25 * i + 0) := fun i a b => (hS.2.1 i a b).1.1
  have sH : ∀ i, 0 ≤ i → i < h 141 3 → -100000 ≤ h 141 (46 + 25 * i + 4) ∧ h 141 (46 + 25 * i + 4) ≤ 100000 := fun i a b => by
    have q := (hS.2.2.2.1.2.2.2.1 i a b).1
    omega
  have lO : lgOk h := ⟨by omega, by rw [R8]; split <;> omega⟩
  have hT := hS.2.2.2.1
  obtain ⟨lS, lU, lH, lV, lUH, lT, lW⟩ := id hL
  have n1 : 0 ≤ h 32 1 ∧ h 32 1 ≤ 7 := lH.1
  have n2 : 0 ≤ h 32 2 ∧ h 32 2 ≤ 8 := lH.2.1
  have k6 : 0 ≤ h 140 6 ∧ h 140 6 ≤ 8 := by rw [lH.2.2.1]; exact n2
  obtain ⟨tS, tc, tm⟩ := LI_tx hL
  obtain ⟨T0, eT⟩ : ∃ T0 : Int → Int, T0 = h 155 := ⟨_, rfl⟩
  refine wL_write (fun K' hK => cx_write (T0 := T0) tS tc hS lU n1 n2 (fun q => hK _ _ _ ⟨rfl, 1, List.mem_cons_self, kk 1 0 h (fun z => absurd z (by decide)) (fun K2 k2 => ?_)⟩) (fun q1 q2 => hK _ _ _ ⟨rfl, 2, (List.mem_cons_of_mem _ List.mem_cons_self), kk 2 0 h (fun z => absurd z (by decide)) (fun K2 k2 => ?_)⟩) (fun q1 q2 q3 h' g fl => hK _ _ _ ⟨rfl, rfl, trivial, kk 0 _ _ (fun _ => up_at _ _ _ _) (fun K2 k2 => ?_)⟩) (fun q1 q2 q3 h0 hB hC g0 e3 kc fr Q => hK _ _ _ ⟨rfl, rfl, trivial, kk 0 _ _ (fun _ => up_at _ _ _ _) (fun K2 k2 => ?_)⟩))
  · exact ac_write tS tm k6 rfl eT.symm N3 N2 (fun _ => k2 _ _ (up_at _ _ _ _) (fun z => absurd z (by decide)) rfl (LI_e hL)) (fun z _ => absurd z q) (fun z _ _ _ _ _ _ _ => absurd z q) (fun z _ _ _ _ _ _ _ _ _ _ _ => absurd z q)
  · exact ac_write tS tm k6 rfl eT.symm N3 N2 (fun z => absurd q1 z) (fun _ _ => k2 _ _ (up_at _ _ _ _) (fun z => absurd z (by decide)) rfl (LI_e hL)) (fun _ z _ _ _ _ _ _ => absurd q2 z) (fun _ z _ _ _ _ _ _ _ _ _ _ => absurd q2 z)
  · obtain ⟨h1, E1⟩ : ∃ h1 : AH, h1 = up (up h' 2 1 0) 157 0 (WRe (txS h) (h 141) p0 T0).2.1 := ⟨_, rfl⟩
    rw [← E1] at k2 ⊢
    have G1 : ∀ k x, k ≠ 1 → k ≠ 2 → k ≠ 4 → ¬ (15 ≤ k ∧ k ≤ 24) → k ≠ 157 → h1 k x = h k x := fun k x a b c d e => by rw [E1, up_ne (by omega), up_ne (by omega), g k x (by omega) c d (by omega)]
    have E : h1 141 = h 141 := by
      funext x
      exact G1 141 x (by omega) (by omega) (by omega) (by omega) (by omega)
    have EN : h1 155 = T0 := by
      rw [eT]
      funext x
      exact G1 155 x (by omega) (by omega) (by omega) (by omega) (by omega)
    have e6 : h1 140 6 = h 140 6 := G1 _ _ (by omega) (by omega) (by omega) (by omega) (by omega)
    have t1 : Tx (txS h) (h 140 9) h1 := ⟨G1 _ _ (by omega) (by omega) (by omega) (by omega) (by omega), fun k a b => by rw [G1 _ _ (by omega) (by omega) (by omega) (by omega) (by omega)]; exact tm.2 k a b⟩
    refine ac_write tS t1 (by rw [e6]; exact k6) E EN N3 N2 (fun z => absurd q1 z) (fun _ z => absurd z q2) (fun _ _ h2 f2 e7 e9 e16 q4 => ?_) (fun _ _ z _ _ _ _ _ _ _ _ _ => absurd z q3)
    have F2 : ∀ k x, k ≠ 1 → k ≠ 2 → k ≠ 4 → ¬ (15 ≤ k ∧ k ≤ 24) → k ≠ 155 → k ≠ 157 → ¬ (k = 140 ∧ (x = 7 ∨ (9 ≤ x ∧ x ≤ 16))) → h2 k x = h k x := fun k x a b c d e i j => by rw [f2 k x e j, G1 k x a b c d i]
    refine k2 _ h2 e7 (fun _ => rfl) (f2 157 0 (by decide) (by decide)) (LI_mv2 hL (fun k x a => F2 k x (by omega) (by omega) (by omega) (by omega) (by omega) (by omega) (by omega)) (TXi_0 e9 ?_ ?_) (WTi_mv lW (F2 _ _ (by omega) (by omega) (by omega) (by omega) (by omega) (by omega) (by omega)) (F2 _ _ (by omega) (by omega) (by omega) (by omega) (by omega) (by omega) (by omega)) (fun k => F2 _ _ (by omega) (by omega) (by omega) (by omega) (by omega) (by omega) (by omega)) (fun k => F2 _ _ (by omega) (by omega) (by omega) (by omega) (by omega) (by omega) (by omega))))
    · rw [f2 _ _ (by omega) (by omega), E1, up_ne (by omega), up_at]
    · rw [f2 _ _ (by omega) (by omega), E1, up_ne (by omega), up_ne (by omega), e16]
      exact fl.2
  · obtain ⟨h1, E1⟩ : ∃ h1 : AH, h1 = up hC 157 0 (WR (txS h) (h 141) p0 T0).1 := ⟨_, rfl⟩
    rw [← E1] at k2 ⊢
    have A : ∀ k x, ¬ (1 ≤ k ∧ k ≤ 4) → ¬ (15 ≤ k ∧ k ≤ 24) → up h0 2 1 0 k x = h k x := fun k x a b => by rw [up_ne (by omega), g0 k x (by omega) (by omega) b (by omega)]
    have A1 : up h0 2 1 0 32 1 = h 32 1 := A _ _ (by omega) (by omega)
    have B1 : ∀ k x, ¬ (5 ≤ k ∧ k < 15) → k ≠ 157 → h1 k x = hB k x := fun k x a b => by rw [E1, up_ne (by omega), fr k x (by omega)]
    have G1 : ∀ k x, ¬ (1 ≤ k ∧ k ≤ 4) → ¬ (5 ≤ k ∧ k < 15) → ¬ (15 ≤ k ∧ k ≤ 24) → ¬ (32 ≤ k ∧ k < 115) → k ≠ 157 → h1 k x = h k x := fun k x a b c d e => by rw [B1 k x b e, kc.1 k x (by rw [A1]; omega) (by omega), A k x a c]
    have E : h1 141 = h 141 := by
      funext x
      exact G1 141 x (by omega) (by omega) (by omega) (by omega) (by omega)
    have EN : h1 155 = T0 := by
      rw [eT]
      funext x
      exact G1 155 x (by omega) (by omega) (by omega) (by omega) (by omega)
    have e6 : h1 140 6 = h 140 6 := G1 _ _ (by omega) (by omega) (by omega) (by omega) (by omega)
    have t1 : Tx (txS h) (h 140 9) h1 := ⟨G1 _ _ (by omega) (by omega) (by omega) (by omega) (by omega), fun k a b => by rw [G1 _ _ (by omega) (by omega) (by omega) (by omega) (by omega)]; exact tm.2 k a b⟩
    refine ac_write tS t1 (by rw [e6]; exact k6) E EN N3 N2 (fun z => absurd q1 z) (fun _ z => absurd z q2) (fun _ _ _ _ _ _ _ z => absurd q3 z) (fun _ _ _ g1 g2 h2 f2 e7 e9 e16 km od => ?_)
    have gr : ∀ x, g2 141 x = h 141 x := fun x => by rw [km.1 141 x (by decide) (by omega), f2 141 x (by decide) (by omega), E]
    have n23 : g2 141 3 = h 141 3 := gr 3
    obtain ⟨o1, o2⟩ := od
    have N : ∀ k x, k ≠ 141 → h2 k x = g2 k x := fun k x a => o1 k x (fun y => a y.1)
    have c15 : ∀ k x, k ≠ 140 → k ≠ 141 → k ≠ 144 → k ≠ 155 → h2 k x = h1 k x := fun k x a b c d => by rw [N k x b, km.1 k x c (by omega), f2 k x d (by omega)]
    have M1 : ∀ x, ¬ (∃ i p, 0 ≤ i ∧ i < h 141 3 ∧ 0 ≤ p ∧ p < 6 ∧ h 141 (46 + 25 * i + 0) = p0 ∧ x = 46 + 25 * i + (11 + p)) → h2 141 x = h 141 x := fun x a => by
      rw [o1 141 x (fun ⟨_, i, p, i0, i1, a0, a1, e, ex⟩ => a ⟨i, p, i0, by rw [← n23]; exact i1, a0, a1, by rw [← gr]; exact e, ex⟩), gr]
    have V1 : ∀ i p, 0 ≤ i → i < h 141 3 → 0 ≤ p → p < 6 → h 141 (46 + 25 * i + 0) = p0 → h2 141 (46 + 25 * i + (11 + p)) = (WR (txS h) (h 141) p0 T0).2.1 (6 * i + p) := fun i p i0 i1 a0 a1 e => o2 i p i0 (by rw [n23]; exact i1) a0 a1 (by rw [gr]; exact e)
    have SC := Q h2 M1 V1
    have S : SR h2 5 h2 := SR_eqh (shEq_sm (fun k x a b => by rw [c15 k x (by omega) (by omega) (by omega) (by omega), E1, up_ne (by omega)])) SC
    have U : UN h2 := UN_eqr (g := h) N3.2 (M1 3 (fun ⟨i, p, i0, i1, a0, a1, e, ex⟩ => by omega)) (fun i k i0 i1 k0 k1 => M1 _ (fun ⟨i', p, i0', i1', a0, a1, e, ex⟩ => by omega)) lU
    have h29 : h2 140 9 = 0 := by rw [N _ _ (by omega), km.1 140 9 (by decide) (by omega), e9]
    have h27 : h2 140 7 = 0 := by rw [N _ _ (by omega), km.1 140 7 (by decide) (by omega), e7]
    have h216 : h2 140 16 = -1 := by rw [N _ _ (by omega), km.1 140 16 (by decide) (by omega), e16]
    have h21 : h2 2 1 = 0 := by rw [c15 _ _ (by omega) (by omega) (by omega) (by omega), B1 _ _ (by omega) (by omega), kc.1 _ _ (by rw [A1]; omega) (by omega), up_at]
    have h23 : h2 2 3 = -1 := by rw [c15 _ _ (by omega) (by omega) (by omega) (by omega), B1 _ _ (by omega) (by omega), kc.1 _ _ (by rw [A1]; omega) (by omega), up_ne (by omega), e3]
    have W : WTi h2 := WTi_mv lW (by rw [N _ _ (by omega), km.1 140 27 (by decide) (by omega), f2 140 27 (by omega) (by omega), G1 _ _ (by omega) (by omega) (by omega) (by omega) (by omega)]) (by rw [c15 _ _ (by omega) (by omega) (by omega) (by omega), G1 _ _ (by omega) (by omega) (by omega) (by omega) (by omega)]) (fun k => by rw [c15 _ _ (by omega) (by omega) (by omega) (by omega), G1 _ _ (by omega) (by omega) (by omega) (by omega) (by omega)]) (fun k => by rw [c15 _ _ (by omega) (by omega) (by omega) (by omega), G1 _ _ (by omega) (by omega) (by omega) (by omega) (by omega)])
    exact k2 _ h2 h27 (fun _ => rfl) (c15 157 0 (by decide) (by decide) (by decide) (by decide)) (LI_k2 hL A kc (fun k x a b c => B1 k x a c) (fun k x a b c d e => f2 k x b (by omega)) (f2 140 6 (by omega) (by omega)) (fun x x0 x1 => by rw [f2 141 x (by omega) (by omega), E]) km (fun k x a _ _ => N k x a) S U (TXi_0 h29 h21 (by rw [h23, h216])) W)
