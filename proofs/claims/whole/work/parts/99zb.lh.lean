/-! class and model agree: changes -/
theorem ag_setWind {p0 p1 : Int} {h : AH} {K : AO → Nat → AH → Prop} (hL : LI h) (kk : ∀ k v h1, (k = 0 → h1 157 0 = v) → AGK mX9_setWind 3 [(2, 140), (0, p0), (0, p1)] h1 k v → K (.inl (some (0, k))) 159 h1) : AC mL_setWind 7 1 6 159 [(2, 0), (0, p0), (0, p1), (2, 157)] h K := by
  have hS := hL.1
  have N3 : 0 ≤ h 141 3 ∧ h 141 3 ≤ 12 := hS.2.2.2.1.2.2.1
  have N2 : 0 ≤ h 141 2 ∧ h 141 2 ≤ 4 := hS.2.2.2.1.2.2.2.2.1
  have R4 : 0 ≤ h 141 4 ∧ h 141 4 ≤ 1000 := hS.2.2.2.2.1
  have R8 : h 141 8 = (if h 141 4 < 10 then h 141 4 else 10) := hS.2.2.2.2.2.1
  have R7 : 0 ≤ h 141 7 ∧ h 141 7 ≤ 30 := hS.2.2.2.2.2.2.1
  have N9 : 0 ≤ h 141 9 ∧ h 141 9 ≤ 8 := hS.2.2.2.1.2.2.2.2.2.2.1
  have B0 : 4 ≤ h 141 0 ∧ h 141 0 ≤ 30 := hS.2.2.2.1.1.1
  have B1 : 4 ≤ h 141 1 ∧ h 141 1 ≤ 30 := hS.2.2.2.1.1.2.1
  have B5 : 0 ≤ h 141 5 ∧ h 141 5 ≤ 7 := hS.2.2.2.1.1.2.2.1
  have B6 : 0 ≤ h 141 6 ∧ h 141 6 ≤ 9 := hS.2.2.2.1.1.2.2.2
  have sO : ∀ i, 0 ≤ i → i < h 141 3 → shOk h i := fun i a b => (hS.2.2.2.1.2.1 i a b).1
  have sF : ∀ i, 0 ≤ i → i < h 141 3 → 0 ≤ h 141 (46 + 25 * i + 0) := fun i a b => (hS.2.1 i a b).1.1
  have sH : ∀ i, 0 ≤ i → i < h 141 3 → -100000 ≤ h 141 (46 + 25 * i + 4) ∧ h 141 (46 + 25 * i + 4) ≤ 100000 := fun i a b => by
    have q := (hS.2.2.2.1.2.2.2.1 i a b).1
    omega
  have lO : lgOk h := ⟨by omega, by rw [R8]; split <;> omega⟩
  have hT := hS.2.2.2.1
  obtain ⟨lS, lU, lH, lV, lUH, lT, lW⟩ := id hL
  have n1 : 0 ≤ h 32 1 ∧ h 32 1 ≤ 7 := lH.1
  have n2 : 0 ≤ h 32 2 ∧ h 32 2 ≤ 8 := lH.2.1
  have k6 : 0 ≤ h 140 6 ∧ h 140 6 ≤ 8 := by rw [lH.2.2.1]; exact n2
  refine wL_setWind (fun K' hK => cx_setWind hS lH (fun q => hK _ _ _ ⟨rfl, 1, List.mem_cons_self, kk 1 0 h (fun z => absurd z (by decide)) (fun K2 k2 => ?_)⟩) (fun q1 q2 hB kc => hK _ _ _ ⟨rfl, rfl, trivial, kk 0 _ _ (fun _ => up_at _ _ _ _) (fun K2 k2 => ?_)⟩))
  · exact ac_setWind hT k6 (fun _ => k2 _ _ (up_at _ _ _ _) (fun z => absurd z (by decide)) rfl (LI_e hL)) (fun z1 z2 _ _ => absurd ⟨z1, z2⟩ q)
  · skip
    have kc0 := kc
    obtain ⟨h1, E1⟩ : ∃ h1 : AH, h1 = up (up (up hB 5 5 p0) 5 6 p1) 157 0 (10 * h 141 5 + h 141 6) := ⟨_, rfl⟩
    rw [← E1] at k2 ⊢
    have B1 : ∀ k x, ¬ (5 ≤ k ∧ k < 15) → ¬ (25 ≤ k ∧ k ≤ 31) → k ≠ 157 → h1 k x = hB k x := fun k x a b c => by
      rw [E1]
      rw [up_ne (by omega), up_ne (by omega), up_ne (by omega)]
    have G1 : ∀ k x, ¬ (5 ≤ k ∧ k < 15) → ¬ (25 ≤ k ∧ k ≤ 31) → k ≠ 157 → ¬ (35 + 10 * h 32 1 ≤ k ∧ k < 45 + 10 * h 32 1) → ¬ (k = 32 ∧ (x = 1 ∨ x = 2)) → h1 k x = h k x := fun k x a b c d e => by rw [B1 k x a b c, kc.1 k x d e]
    have E : h1 141 = h 141 := by
      funext x
      exact G1 141 x (by omega) (by omega) (by omega) (by omega) (by omega)
    have E2 : h1 141 2 = h 141 2 := by rw [E]
    have E3 : h1 141 3 = h 141 3 := by rw [E]
    have e6 : h1 140 6 = h 140 6 := G1 _ _ (by omega) (by omega) (by omega) (by omega) (by omega)
    have e15 : ∀ k x, 5 ≤ k → k < 15 → h1 k x = (up (up hB 5 5 p0) 5 6 p1) k x := fun k x a b => by rw [E1]; exact up_ne (by omega)
    refine ac_setWind (tOk_eq E hT) (by rw [e6]; exact k6) (fun z => absurd ⟨q1, q2⟩ z) (fun _ _ hN km => ?_)
    obtain ⟨h2, E9⟩ : ∃ h2 : AH, h2 = up (up hN 141 5 p0) 141 6 p1 := ⟨_, rfl⟩
    have N2 : ∀ k x, k ≠ 141 → ¬ (149 ≤ k ∧ k ≤ 154) → ¬ (k = 140 ∧ x = 24) → h2 k x = hN k x := fun k x a b c => by
      rw [E9]
      rw [up_ne (by omega), up_ne (by omega)]
    have F2 : ∀ k x, k ≠ 141 → k ≠ 144 → ¬ (149 ≤ k ∧ k ≤ 154) → k ≠ 140 → h2 k x = h1 k x := fun k x a b c d => by rw [N2 k x a c (by omega), km.1 k x b (by omega), up_ne (by omega)]
    have F3 : ∀ x, x ≠ 6 → x ≠ 7 → x ≠ 24 → h2 140 x = h1 140 x := fun x a b c => by rw [N2 140 x (by omega) (by omega) (by omega), km.1 140 x (by omega) (by omega), up_ne (by omega)]
    have e7 : h2 140 7 = 0 := by rw [N2 140 7 (by omega) (by omega) (by omega), km.1 140 7 (by omega) (by omega), up_at]
    have T : TXi h2 := TXi_mv lT (by rw [F3 _ (by decide) (by decide) (by decide), G1 _ _ (by omega) (by omega) (by omega) (by omega) (by omega)]) (by rw [F2 _ _ (by omega) (by omega) (by omega) (by omega), G1 _ _ (by omega) (by omega) (by omega) (by omega) (by omega)]) (by rw [F2 _ _ (by omega) (by omega) (by omega) (by omega), G1 _ _ (by omega) (by omega) (by omega) (by omega) (by omega)]) (by rw [F3 _ (by decide) (by decide) (by decide), G1 _ _ (by omega) (by omega) (by omega) (by omega) (by omega)]) (fun k => by rw [F2 _ _ (by omega) (by omega) (by omega) (by omega), G1 _ _ (by omega) (by omega) (by omega) (by omega) (by omega)]) (fun k => by rw [F2 _ _ (by omega) (by omega) (by omega) (by omega), G1 _ _ (by omega) (by omega) (by omega) (by omega) (by omega)])
    have W : WTi h2 := WTi_mv lW (by rw [F3 _ (by decide) (by decide) (by decide), G1 _ _ (by omega) (by omega) (by omega) (by omega) (by omega)]) (by rw [F2 _ _ (by omega) (by omega) (by omega) (by omega), G1 _ _ (by omega) (by omega) (by omega) (by omega) (by omega)]) (fun k => by rw [F2 _ _ (by omega) (by omega) (by omega) (by omega), G1 _ _ (by omega) (by omega) (by omega) (by omega) (by omega)]) (fun k => by rw [F2 _ _ (by omega) (by omega) (by omega) (by omega), G1 _ _ (by omega) (by omega) (by omega) (by omega) (by omega)])
    have c15 : ∀ k x, 5 ≤ k → k < 15 → h2 k x = (up (up hB 5 5 p0) 5 6 p1) k x := fun k x a b => by rw [F2 k x (by omega) (by omega) (by omega) (by omega), e15 k x a b]
    have S : SR h2 5 h2 := SR_mv (g := up (up h 141 5 p0) 141 6 p1) (h := up (up h 5 5 p0) 5 6 p1) (shEq_sm (fun k x a b => by
      rw [c15 k x a b]
      unfold up
      rw [kc.1 k x (by omega) (by omega)])) (fun x x0 x1 => by
      rw [E9]
      unfold up
      have := km.1 141 x (by decide) (by omega)
      rw [this, up_ne (by omega), E]) (SR_w2 q1 q2 hS)
    have U : UN h2 := UN_eqr (g := h) N3.2 (by rw [E9, up_ne (by omega), up_ne (by omega), km.1 141 3 (by decide) (by omega), up_ne (by omega), E]) (fun i k i0 i1 k0 k1 => by rw [E9, up_ne (by omega), up_ne (by omega), km.1 141 _ (by decide) (by omega), up_ne (by omega), E]) lU
    have fin := k2 (10 * h1 141 5 + h1 141 6) h2 e7 (fun _ => by rw [E]) (F2 157 0 (by decide) (by decide) (by decide) (by decide)) (LI_k2 hL (fun _ _ _ _ => rfl) kc0 B1 (fun k x a b c d e => up_ne (by omega)) (up_ne (by omega)) (fun x _ _ => by rw [up_ne (by omega), E]) km N2 S U T W)
    rw [E9] at fin
    exact fin
theorem slP_eq {h g : AH} {f i : Int} (E : g 141 = h 141) : ∀ (p : Nat) (s : Int), slP g f i p s = slP h f i p s
  | 0, _ => rfl
  | p + 1, s => by
    show slS g f i p (slP g f i p s) = slS h f i p (slP h f i p s)
    rw [slP_eq E p s]
    unfold slS fSail
    rw [E]
theorem slN_eq {h g : AH} {f s : Int} (E : g 141 = h 141) : ∀ i : Nat, slN g f i s = slN h f i s
  | 0 => rfl
  | i + 1 => by
    show slP g f i 6 (slN g f i s) = slP h f i 6 (slN h f i s)
    rw [slN_eq E i, slP_eq E]
theorem ag_seal {p0 p1 : Int} {h : AH} {K : AO → Nat → AH → Prop} (hL : LI h) (kk : ∀ k v h1, (k = 0 → h1 157 0 = v) → AGK mX9_seal 4 [(2, 140), (0, p0), (0, p1)] h1 k v → K (.inl (some (0, k))) 159 h1) : AC mL_seal 8 2 12 159 [(2, 0), (0, p0), (0, p1), (2, 157)] h K := by
  have hS := hL.1
  have N3 : 0 ≤ h 141 3 ∧ h 141 3 ≤ 12 := hS.2.2.2.1.2.2.1
  have N2 : 0 ≤ h 141 2 ∧ h 141 2 ≤ 4 := hS.2.2.2.1.2.2.2.2.1
  have R4 : 0 ≤ h 141 4 ∧ h 141 4 ≤ 1000 := hS.2.2.2.2.1
  have R8 : h 141 8 = (if h 141 4 < 10 then h 141 4 else 10) := hS.2.2.2.2.2.1
  have R7 : 0 ≤ h 141 7 ∧ h 141 7 ≤ 30 := hS.2.2.2.2.2.2.1
  have N9 : 0 ≤ h 141 9 ∧ h 141 9 ≤ 8 := hS.2.2.2.1.2.2.2.2.2.2.1
  have B0 : 4 ≤ h 141 0 ∧ h 141 0 ≤ 30 := hS.2.2.2.1.1.1
  have B1 : 4 ≤ h 141 1 ∧ h 141 1 ≤ 30 := hS.2.2.2.1.1.2.1
  have B5 : 0 ≤ h 141 5 ∧ h 141 5 ≤ 7 := hS.2.2.2.1.1.2.2.1
  have B6 : 0 ≤ h 141 6 ∧ h 141 6 ≤ 9 := hS.2.2.2.1.1.2.2.2
  have sO : ∀ i, 0 ≤ i → i < h 141 3 → shOk h i := fun i a b => (hS.2.2.2.1.2.1 i a b).1
  have sF : ∀ i, 0 ≤ i → i < h 141 3 → 0 ≤ h 141 (46 + 25 * i + 0) := fun i a b => (hS.2.1 i a b).1.1
  have sH : ∀ i, 0 ≤ i → i < h 141 3 → -100000 ≤ h 141 (46 + 25 * i + 4) ∧ h 141 (46 + 25 * i + 4) ≤ 100000 := fun i a b => by
    have q := (hS.2.2.2.1.2.2.2.1 i a b).1
    omega
  have lO : lgOk h := ⟨by omega, by rw [R8]; split <;> omega⟩
  have hT := hS.2.2.2.1
  obtain ⟨lS, lU, lH, lV, lUH, lT, lW⟩ := id hL
  have n1 : 0 ≤ h 32 1 ∧ h 32 1 ≤ 7 := lH.1
  have n2 : 0 ≤ h 32 2 ∧ h 32 2 ≤ 8 := lH.2.1
  have k6 : 0 ≤ h 140 6 ∧ h 140 6 ≤ 8 := by rw [lH.2.2.1]; exact n2
  refine wL_seal (fun K' hK => cx_seal hS lH (fun q => hK _ _ _ ⟨rfl, 1, List.mem_cons_self, kk 1 0 h (fun z => absurd z (by decide)) (fun K2 k2 => ?_)⟩) (fun q1 q2 => hK _ _ _ ⟨rfl, 2, (List.mem_cons_of_mem _ List.mem_cons_self), kk 2 0 h (fun z => absurd z (by decide)) (fun K2 k2 => ?_)⟩) (fun q1 q2 q3 => hK _ _ _ ⟨rfl, 3, (List.mem_cons_of_mem _ (List.mem_cons_of_mem _ List.mem_cons_self)), kk 3 0 h (fun z => absurd z (by decide)) (fun K2 k2 => ?_)⟩) (fun q1 q2 q3 hB kc => hK _ _ _ ⟨rfl, rfl, trivial, kk 0 _ _ (fun _ => up_at _ _ _ _) (fun K2 k2 => ?_)⟩))
  · exact ac_seal hT k6 (fun _ => k2 _ _ (up_at _ _ _ _) (fun z => absurd z (by decide)) rfl (LI_e hL)) (fun z _ => absurd z q) (fun z _ _ => absurd z q) (fun z _ _ _ _ _ _ => absurd z q)
  · exact ac_seal hT k6 (fun z => absurd q1 z) (fun _ _ => k2 _ _ (up_at _ _ _ _) (fun z => absurd z (by decide)) rfl (LI_e hL)) (fun _ z _ => absurd z q2) (fun _ z _ _ _ _ _ => absurd z q2)
  · exact ac_seal hT k6 (fun z => absurd q1 z) (fun _ z => absurd q2 z) (fun _ _ _ => k2 _ _ (up_at _ _ _ _) (fun z => absurd z (by decide)) rfl (LI_e hL)) (fun _ _ z _ _ _ _ => absurd q3 z)
  · have sl0 := slN_rg (h := h) (f := p0) (s := p1) (n := h 141 3) (fun i p i0 i1 a b => by have := (hS.2.2.2.1.2.1 i i0 i1).2 p a b; omega) (by omega) (h 141 3).toNat (by omega)
    have kc0 := kc
    obtain ⟨h1, E1⟩ : ∃ h1 : AH, h1 = up (up hB 12 p0 (slN h p0 (h 141 3).toNat p1)) 157 0 (slN h p0 (h 141 3).toNat p1) := ⟨_, rfl⟩
    rw [← E1] at k2 ⊢
    have B1 : ∀ k x, ¬ (5 ≤ k ∧ k < 15) → ¬ (25 ≤ k ∧ k ≤ 31) → k ≠ 157 → h1 k x = hB k x := fun k x a b c => by
      rw [E1]
      rw [up_ne (by omega), up_ne (by omega)]
    have G1 : ∀ k x, ¬ (5 ≤ k ∧ k < 15) → ¬ (25 ≤ k ∧ k ≤ 31) → k ≠ 157 → ¬ (35 + 10 * h 32 1 ≤ k ∧ k < 45 + 10 * h 32 1) → ¬ (k = 32 ∧ (x = 1 ∨ x = 2)) → h1 k x = h k x := fun k x a b c d e => by rw [B1 k x a b c, kc.1 k x d e]
    have E : h1 141 = h 141 := by
      funext x
      exact G1 141 x (by omega) (by omega) (by omega) (by omega) (by omega)
    have E2 : h1 141 2 = h 141 2 := by rw [E]
    have E3 : h1 141 3 = h 141 3 := by rw [E]
    have e6 : h1 140 6 = h 140 6 := G1 _ _ (by omega) (by omega) (by omega) (by omega) (by omega)
    have e15 : ∀ k x, 5 ≤ k → k < 15 → h1 k x = (up hB 12 p0 (slN h p0 (h 141 3).toNat p1)) k x := fun k x a b => by rw [E1]; exact up_ne (by omega)
    refine ac_seal (tOk_eq E hT) (by rw [e6]; exact k6) (fun z => absurd z (by omega)) (fun _ z => absurd q2 z) (fun _ _ z => absurd (by rw [E] at z; exact z) q3) (fun _ _ _ hN s km es => ?_)
    have es2 : s = slN h p0 (h 141 3).toNat p1 := by rw [es, E3, slN_eq E]
    obtain ⟨h2, E9⟩ : ∃ h2 : AH, h2 = up (up hN 141 (34 + 3 * p0 + 1) 1) 141 (34 + 3 * p0 + 2) s := ⟨_, rfl⟩
    have N2 : ∀ k x, k ≠ 141 → ¬ (149 ≤ k ∧ k ≤ 154) → ¬ (k = 140 ∧ x = 24) → h2 k x = hN k x := fun k x a b c => by
      rw [E9]
      rw [up_ne (by omega), up_ne (by omega)]
    have F2 : ∀ k x, k ≠ 141 → k ≠ 144 → ¬ (149 ≤ k ∧ k ≤ 154) → k ≠ 140 → h2 k x = h1 k x := fun k x a b c d => by rw [N2 k x a c (by omega), km.1 k x b (by omega), up_ne (by omega)]
    have F3 : ∀ x, x ≠ 6 → x ≠ 7 → x ≠ 24 → h2 140 x = h1 140 x := fun x a b c => by rw [N2 140 x (by omega) (by omega) (by omega), km.1 140 x (by omega) (by omega), up_ne (by omega)]
    have e7 : h2 140 7 = 0 := by rw [N2 140 7 (by omega) (by omega) (by omega), km.1 140 7 (by omega) (by omega), up_at]
    have T : TXi h2 := TXi_mv lT (by rw [F3 _ (by decide) (by decide) (by decide), G1 _ _ (by omega) (by omega) (by omega) (by omega) (by omega)]) (by rw [F2 _ _ (by omega) (by omega) (by omega) (by omega), G1 _ _ (by omega) (by omega) (by omega) (by omega) (by omega)]) (by rw [F2 _ _ (by omega) (by omega) (by omega) (by omega), G1 _ _ (by omega) (by omega) (by omega) (by omega) (by omega)]) (by rw [F3 _ (by decide) (by decide) (by decide), G1 _ _ (by omega) (by omega) (by omega) (by omega) (by omega)]) (fun k => by rw [F2 _ _ (by omega) (by omega) (by omega) (by omega), G1 _ _ (by omega) (by omega) (by omega) (by omega) (by omega)]) (fun k => by rw [F2 _ _ (by omega) (by omega) (by omega) (by omega), G1 _ _ (by omega) (by omega) (by omega) (by omega) (by omega)])
    have W : WTi h2 := WTi_mv lW (by rw [F3 _ (by decide) (by decide) (by decide), G1 _ _ (by omega) (by omega) (by omega) (by omega) (by omega)]) (by rw [F2 _ _ (by omega) (by omega) (by omega) (by omega), G1 _ _ (by omega) (by omega) (by omega) (by omega) (by omega)]) (fun k => by rw [F2 _ _ (by omega) (by omega) (by omega) (by omega), G1 _ _ (by omega) (by omega) (by omega) (by omega) (by omega)]) (fun k => by rw [F2 _ _ (by omega) (by omega) (by omega) (by omega), G1 _ _ (by omega) (by omega) (by omega) (by omega) (by omega)])
    have c15 : ∀ k x, 5 ≤ k → k < 15 → h2 k x = (up hB 12 p0 (slN h p0 (h 141 3).toNat p1)) k x := fun k x a b => by rw [F2 k x (by omega) (by omega) (by omega) (by omega), e15 k x a b]
    have hr : ∀ x, hN 141 x = h 141 x := fun x => by rw [km.1 141 x (by decide) (by omega), up_ne (by omega), E]
    have S0 : SR (up h 12 p0 s) 5 (up (up h 141 (34 + 3 * p0 + 1) 1) 141 (34 + 3 * p0 + 2) s) := SR_sl (f := p0) (s := s) q1 (by omega) hS (fun k x a => up_ne a) (up_at _ _ _ _) (fun x a => by rw [up_ne (by omega), up_ne (by omega)]) (by rw [up_ne (by omega), up_at]) (up_at _ _ _ _)
    have S : SR h2 5 h2 := SR_mv (shEq_sm (fun k x a b => by
      rw [c15 k x a b, es2]
      unfold up
      rw [kc.1 k x (by omega) (by omega)])) (fun x x0 x1 => by
      rw [E9]
      unfold up
      rw [hr]) S0
    have U : UN h2 := UN_eqr (g := h) N3.2 (by rw [E9, up_ne (by omega), up_ne (by omega), hr]) (fun i k i0 i1 k0 k1 => by rw [E9, up_ne (by omega), up_ne (by omega), hr]) lU
    have fin := k2 s h2 e7 (fun _ => es2) (F2 157 0 (by decide) (by decide) (by decide) (by decide)) (LI_k2 hL (fun _ _ _ _ => rfl) kc0 B1 (fun k x a b c d e => up_ne (by omega)) (up_ne (by omega)) (fun x _ _ => by rw [up_ne (by omega), E]) km N2 S U T W)
    rw [E9] at fin
    exact fin
theorem ag_run {h : AH} {K : AO → Nat → AH → Prop} (hL : LI h) (kk : ∀ k v h1, (k = 0 → h1 157 0 = v) → AGK mX9_run 9 [(2, 140)] h1 k v → K (.inl (some (0, k))) 159 h1) : AC mL_run 8 2 12 159 [(2, 0), (2, 157)] h K := by
  have hS := hL.1
  have N3 : 0 ≤ h 141 3 ∧ h 141 3 ≤ 12 := hS.2.2.2.1.2.2.1
  have N2 : 0 ≤ h 141 2 ∧ h 141 2 ≤ 4 := hS.2.2.2.1.2.2.2.2.1
  have R4 : 0 ≤ h 141 4 ∧ h 141 4 ≤ 1000 := hS.2.2.2.2.1
  have R8 : h 141 8 = (if h 141 4 < 10 then h 141 4 else 10) := hS.2.2.2.2.2.1
  have R7 : 0 ≤ h 141 7 ∧ h 141 7 ≤ 30 := hS.2.2.2.2.2.2.1
  have N9 : 0 ≤ h 141 9 ∧ h 141 9 ≤ 8 := hS.2.2.2.1.2.2.2.2.2.2.1
  have B0 : 4 ≤ h 141 0 ∧ h 141 0 ≤ 30 := hS.2.2.2.1.1.1
  have B1 : 4 ≤ h 141 1 ∧ h 141 1 ≤ 30 := hS.2.2.2.1.1.2.1
  have B5 : 0 ≤ h 141 5 ∧ h 141 5 ≤ 7 := hS.2.2.2.1.1.2.2.1
  have B6 : 0 ≤ h 141 6 ∧ h 141 6 ≤ 9 := hS.2.2.2.1.1.2.2.2
  have sO : ∀ i, 0 ≤ i → i < h 141 3 → shOk h i := fun i a b => (hS.2.2.2.1.2.1 i a b).1
  have sF : ∀ i, 0 ≤ i → i < h 141 3 → 0 ≤ h 141 (46 + 25 * i + 0) := fun i a b => (hS.2.1 i a b).1.1
  have sH : ∀ i, 0 ≤ i → i < h 141 3 → -100000 ≤ h 141 (46 + 25 * i + 4) ∧ h 141 (46 + 25 * i + 4) ≤ 100000 := fun i a b => by
    have q := (hS.2.2.2.1.2.2.2.1 i a b).1
    omega
  have lO : lgOk h := ⟨by omega, by rw [R8]; split <;> omega⟩
  have hT := hS.2.2.2.1
  obtain ⟨lS, lU, lH, lV, lUH, lT, lW⟩ := id hL
  have n1 : 0 ≤ h 32 1 ∧ h 32 1 ≤ 7 := lH.1
  have n2 : 0 ≤ h 32 2 ∧ h 32 2 ≤ 8 := lH.2.1
  have k6 : 0 ≤ h 140 6 ∧ h 140 6 ≤ 8 := by rw [lH.2.2.1]; exact n2
  have sF3 : ∀ i, 0 ≤ i → i < h 141 3 → 0 ≤ h 141 (46 + 25 * i + 0) ∧ h 141 (46 + 25 * i + 0) ≤ 3 := fun i a b => by have := (hS.2.1 i a b).1; omega
  refine wL_run (fun K' hK => cx_run hS lH (fun q => hK _ _ _ ⟨rfl, 1, List.mem_cons_self, kk 1 0 h (fun z => absurd z (by decide)) (fun K2 k2 => ?_)⟩) (fun q hB hC v kc fr Q => hK _ _ _ ⟨rfl, rfl, trivial, kk 0 _ _ (fun _ => up_at _ _ _ _) (fun K2 k2 => ?_)⟩))
  · exact ac_run hT k6 sF3 (fun _ => k2 _ _ (up_at _ _ _ _) (fun z => absurd z (by decide)) rfl (LI_e hL)) (fun z _ _ _ _ => absurd z q)
  · skip
    have kc0 := kc
    obtain ⟨h1, E1⟩ : ∃ h1 : AH, h1 = up hC 157 0 v := ⟨_, rfl⟩
    rw [← E1] at k2 ⊢
    have B1 : ∀ k x, ¬ (5 ≤ k ∧ k < 15) → ¬ (25 ≤ k ∧ k ≤ 31) → k ≠ 157 → h1 k x = hB k x := fun k x a b c => by
      rw [E1]
      rw [up_ne (by omega), fr k x a b]
    have G1 : ∀ k x, ¬ (5 ≤ k ∧ k < 15) → ¬ (25 ≤ k ∧ k ≤ 31) → k ≠ 157 → ¬ (35 + 10 * h 32 1 ≤ k ∧ k < 45 + 10 * h 32 1) → ¬ (k = 32 ∧ (x = 1 ∨ x = 2)) → h1 k x = h k x := fun k x a b c d e => by rw [B1 k x a b c, kc.1 k x d e]
    have E : h1 141 = h 141 := by
      funext x
      exact G1 141 x (by omega) (by omega) (by omega) (by omega) (by omega)
    have E2 : h1 141 2 = h 141 2 := by rw [E]
    have E3 : h1 141 3 = h 141 3 := by rw [E]
    have e6 : h1 140 6 = h 140 6 := G1 _ _ (by omega) (by omega) (by omega) (by omega) (by omega)
    have e15 : ∀ k x, 5 ≤ k → k < 15 → h1 k x = hC k x := fun k x a b => by rw [E1]; exact up_ne (by omega)
    have rd : mReady h1 ↔ mReady h := by unfold mReady; rw [E]
    refine ac_run (tOk_eq E hT) (by rw [e6]; exact k6) (by rw [E]; exact sF3) (fun z => absurd (rd.mpr q) z) (fun _ hN g1 km go => ?_)
    have hr : ∀ x, hN 141 x = h 141 x := fun x => by rw [km.1 141 x (by decide) (by omega), up_ne (by omega), E]
    have Er : hN 141 = h 141 := by funext x; exact hr x
    obtain ⟨⟨gk1, gk2⟩, g3, -⟩ := GoesOn_ok (tOk_eq Er hT) go
    have gn := GoesOn_nm (tOk_eq Er hT) go
    obtain ⟨SC, vC⟩ := Q g1 ⟨hN, fun x _ _ => hr x, go⟩
    obtain ⟨h2, E9⟩ : ∃ h2 : AH, h2 = g1 := ⟨_, rfl⟩
    have N2 : ∀ k x, k ≠ 141 → ¬ (149 ≤ k ∧ k ≤ 154) → ¬ (k = 140 ∧ x = 24) → h2 k x = hN k x := fun k x a b c => by
      rw [E9]
      rcases Int.lt_trichotomy k 140 with z | z | z; (exact gk1 k x (by omega) a b); (rw [z]; exact gk2 x (by omega)); exact gk1 k x (by omega) a b
    have F2 : ∀ k x, k ≠ 141 → k ≠ 144 → ¬ (149 ≤ k ∧ k ≤ 154) → k ≠ 140 → h2 k x = h1 k x := fun k x a b c d => by rw [N2 k x a c (by omega), km.1 k x b (by omega), up_ne (by omega)]
    have F3 : ∀ x, x ≠ 6 → x ≠ 7 → x ≠ 24 → h2 140 x = h1 140 x := fun x a b c => by rw [N2 140 x (by omega) (by omega) (by omega), km.1 140 x (by omega) (by omega), up_ne (by omega)]
    have e7 : h2 140 7 = 0 := by rw [N2 140 7 (by omega) (by omega) (by omega), km.1 140 7 (by omega) (by omega), up_at]
    have T : TXi h2 := TXi_mv lT (by rw [F3 _ (by decide) (by decide) (by decide), G1 _ _ (by omega) (by omega) (by omega) (by omega) (by omega)]) (by rw [F2 _ _ (by omega) (by omega) (by omega) (by omega), G1 _ _ (by omega) (by omega) (by omega) (by omega) (by omega)]) (by rw [F2 _ _ (by omega) (by omega) (by omega) (by omega), G1 _ _ (by omega) (by omega) (by omega) (by omega) (by omega)]) (by rw [F3 _ (by decide) (by decide) (by decide), G1 _ _ (by omega) (by omega) (by omega) (by omega) (by omega)]) (fun k => by rw [F2 _ _ (by omega) (by omega) (by omega) (by omega), G1 _ _ (by omega) (by omega) (by omega) (by omega) (by omega)]) (fun k => by rw [F2 _ _ (by omega) (by omega) (by omega) (by omega), G1 _ _ (by omega) (by omega) (by omega) (by omega) (by omega)])
    have W : WTi h2 := WTi_mv lW (by rw [F3 _ (by decide) (by decide) (by decide), G1 _ _ (by omega) (by omega) (by omega) (by omega) (by omega)]) (by rw [F2 _ _ (by omega) (by omega) (by omega) (by omega), G1 _ _ (by omega) (by omega) (by omega) (by omega) (by omega)]) (fun k => by rw [F2 _ _ (by omega) (by omega) (by omega) (by omega), G1 _ _ (by omega) (by omega) (by omega) (by omega) (by omega)]) (fun k => by rw [F2 _ _ (by omega) (by omega) (by omega) (by omega), G1 _ _ (by omega) (by omega) (by omega) (by omega) (by omega)])
    have c15 : ∀ k x, 5 ≤ k → k < 15 → h2 k x = hC k x := fun k x a b => by rw [F2 k x (by omega) (by omega) (by omega) (by omega), e15 k x a b]
    have S : SR h2 5 h2 := by
      rw [E9] at c15 ⊢
      exact SR_eqh (shEq_sm (fun k x a b => c15 k x a b)) SC
    have U : UN h2 := UN_eqr (g := h) N3.2 (by rw [E9, g3, hr]) (fun i k i0 i1 k0 k1 => by rw [E9, gn i k i0 (by rw [hr]; exact i1) k0 k1, hr]) lU
    have fin := k2 (g1 140 24) h2 e7 (fun _ => vC.symm) (F2 157 0 (by decide) (by decide) (by decide) (by decide)) (LI_k2 hL (fun _ _ _ _ => rfl) kc0 B1 (fun k x a b c d e => up_ne (by omega)) (up_ne (by omega)) (fun x _ _ => by rw [up_ne (by omega), E]) km N2 S U T W)
    rw [E9] at fin
    exact fin
theorem ag_restore {p0 : Int} {h : AH} {K : AO → Nat → AH → Prop} (hL : LI h) (kk : ∀ k v h1, (k = 0 → h1 157 0 = v) → AGK mX9_restore 3 [(2, 140), (0, p0)] h1 k v → K (.inl (some (0, k))) 159 h1) : AC mL_restore 8 2 12 159 [(2, 0), (0, p0), (2, 157)] h K := by
  have hS := hL.1
  have N3 : 0 ≤ h 141 3 ∧ h 141 3 ≤ 12 := hS.2.2.2.1.2.2.1
  have N2 : 0 ≤ h 141 2 ∧ h 141 2 ≤ 4 := hS.2.2.2.1.2.2.2.2.1
  have R4 : 0 ≤ h 141 4 ∧ h 141 4 ≤ 1000 := hS.2.2.2.2.1
  have R8 : h 141 8 = (if h 141 4 < 10 then h 141 4 else 10) := hS.2.2.2.2.2.1
  have R7 : 0 ≤ h 141 7 ∧ h 141 7 ≤ 30 := hS.2.2.2.2.2.2.1
  have N9 : 0 ≤ h 141 9 ∧ h 141 9 ≤ 8 := hS.2.2.2.1.2.2.2.2.2.2.1
  have B0 : 4 ≤ h 141 0 ∧ h 141 0 ≤ 30 := hS.2.2.2.1.1.1
  have B1 : 4 ≤ h 141 1 ∧ h 141 1 ≤ 30 := hS.2.2.2.1.1.2.1
  have B5 : 0 ≤ h 141 5 ∧ h 141 5 ≤ 7 := hS.2.2.2.1.1.2.2.1
  have B6 : 0 ≤ h 141 6 ∧ h 141 6 ≤ 9 := hS.2.2.2.1.1.2.2.2
  have sO : ∀ i, 0 ≤ i → i < h 141 3 → shOk h i := fun i a b => (hS.2.2.2.1.2.1 i a b).1
  have sF : ∀ i, 0 ≤ i → i < h 141 3 → 0 ≤ h 141 (46 + 25 * i + 0) := fun i a b => (hS.2.1 i a b).1.1
  have sH : ∀ i, 0 ≤ i → i < h 141 3 → -100000 ≤ h 141 (46 + 25 * i + 4) ∧ h 141 (46 + 25 * i + 4) ≤ 100000 := fun i a b => by
    have q := (hS.2.2.2.1.2.2.2.1 i a b).1
    omega
  have lO : lgOk h := ⟨by omega, by rw [R8]; split <;> omega⟩
  have hT := hS.2.2.2.1
  obtain ⟨lS, lU, lH, lV, lUH, lT, lW⟩ := id hL
  have n1 : 0 ≤ h 32 1 ∧ h 32 1 ≤ 7 := lH.1
  have n2 : 0 ≤ h 32 2 ∧ h 32 2 ≤ 8 := lH.2.1
  have k6 : 0 ≤ h 140 6 ∧ h 140 6 ≤ 8 := by rw [lH.2.2.1]; exact n2
  refine wL_restore (fun K' hK => cx_restore lH lV (fun q => hK _ _ _ ⟨rfl, 1, List.mem_cons_self, kk 1 0 h (fun z => absurd z (by decide)) (fun K2 k2 => ?_)⟩) (fun q1 q2 => hK _ _ _ ⟨rfl, 2, (List.mem_cons_of_mem _ List.mem_cons_self), kk 2 0 h (fun z => absurd z (by decide)) (fun K2 k2 => ?_)⟩) (fun q1 q2 hB hC kc fr eq => hK _ _ _ ⟨rfl, rfl, trivial, kk 0 _ _ (fun _ => up_at _ _ _ _) (fun K2 k2 => ?_)⟩))
  · exact ac_restore k6 (fun _ => k2 _ _ (up_at _ _ _ _) (fun z => absurd z (by decide)) rfl (LI_e hL)) (fun z _ => absurd z q) (fun z _ _ _ => absurd z q)
  · exact ac_restore k6 (fun z => absurd q1 z) (fun _ _ => k2 _ _ (up_at _ _ _ _) (fun z => absurd z (by decide)) rfl (LI_e hL)) (fun _ z _ _ => absurd q2 z)
  · skip
    have kc0 := kc
    obtain ⟨h1, E1⟩ : ∃ h1 : AH, h1 = up hC 157 0 (hC 5 4) := ⟨_, rfl⟩
    rw [← E1] at k2 ⊢
    have B1 : ∀ k x, ¬ (5 ≤ k ∧ k < 15) → ¬ (25 ≤ k ∧ k ≤ 31) → k ≠ 157 → h1 k x = hB k x := fun k x a b c => by
      rw [E1]
      rw [up_ne (by omega), fr k x (by omega)]
    have G1 : ∀ k x, ¬ (5 ≤ k ∧ k < 15) → ¬ (25 ≤ k ∧ k ≤ 31) → k ≠ 157 → ¬ (35 + 10 * h 32 1 ≤ k ∧ k < 45 + 10 * h 32 1) → ¬ (k = 32 ∧ (x = 1 ∨ x = 2)) → h1 k x = h k x := fun k x a b c d e => by rw [B1 k x a b c, kc.1 k x d e]
    have E : h1 141 = h 141 := by
      funext x
      exact G1 141 x (by omega) (by omega) (by omega) (by omega) (by omega)
    have E2 : h1 141 2 = h 141 2 := by rw [E]
    have E3 : h1 141 3 = h 141 3 := by rw [E]
    have e6 : h1 140 6 = h 140 6 := G1 _ _ (by omega) (by omega) (by omega) (by omega) (by omega)
    have e15 : ∀ k x, 5 ≤ k → k < 15 → h1 k x = hC k x := fun k x a b => by rw [E1]; exact up_ne (by omega)
    have e146 : h1 146 p0 = h 146 p0 := G1 _ _ (by omega) (by omega) (by omega) (by omega) (by omega)
    refine ac_restore (by rw [e6]; exact k6) (fun z => absurd q1 z) (fun _ z => absurd (by rw [e146] at z; exact z) q2) (fun _ _ hN km => ?_)
    have h5 : ∀ x, hN 145 x = h 145 x := fun x => by rw [km.1 145 x (by decide) (by omega), up_ne (by omega), G1 _ _ (by omega) (by omega) (by omega) (by omega) (by omega)]
    have S0 : SR h (117 + 10 * p0) (rwA h 145 p0) := (lV p0 q1.1 q1.2).2 q2
    have S1 : SR hC 5 (rwA h 145 p0) := SR_eqh (shEq_trans (shEq_sm (fun k x a b => kc.1 k x (by omega) (by omega))) eq) S0
    have hr : ∀ x, 0 ≤ x → x < 1256 → cpy hN 141 0 145 (1256 * p0) 1256 141 x = rwA h 145 p0 141 x := fun x x0 x1 => by
      unfold cpy
      rw [if_pos ⟨rfl, by omega, by omega⟩, Int.sub_zero]
      exact h5 _
    have n0 : 0 ≤ rwA h 145 p0 141 3 ∧ rwA h 145 p0 141 3 ≤ 12 := S0.2.2.2.1.2.2.1
    obtain ⟨h2, E9⟩ : ∃ h2 : AH, h2 = cpy hN 141 0 145 (1256 * p0) 1256 := ⟨_, rfl⟩
    have N2 : ∀ k x, k ≠ 141 → ¬ (149 ≤ k ∧ k ≤ 154) → ¬ (k = 140 ∧ x = 24) → h2 k x = hN k x := fun k x a b c => by
      rw [E9]
      unfold cpy; exact if_neg (by omega)
    have F2 : ∀ k x, k ≠ 141 → k ≠ 144 → ¬ (149 ≤ k ∧ k ≤ 154) → k ≠ 140 → h2 k x = h1 k x := fun k x a b c d => by rw [N2 k x a c (by omega), km.1 k x b (by omega), up_ne (by omega)]
    have F3 : ∀ x, x ≠ 6 → x ≠ 7 → x ≠ 24 → h2 140 x = h1 140 x := fun x a b c => by rw [N2 140 x (by omega) (by omega) (by omega), km.1 140 x (by omega) (by omega), up_ne (by omega)]
    have e7 : h2 140 7 = 0 := by rw [N2 140 7 (by omega) (by omega) (by omega), km.1 140 7 (by omega) (by omega), up_at]
    have T : TXi h2 := TXi_mv lT (by rw [F3 _ (by decide) (by decide) (by decide), G1 _ _ (by omega) (by omega) (by omega) (by omega) (by omega)]) (by rw [F2 _ _ (by omega) (by omega) (by omega) (by omega), G1 _ _ (by omega) (by omega) (by omega) (by omega) (by omega)]) (by rw [F2 _ _ (by omega) (by omega) (by omega) (by omega), G1 _ _ (by omega) (by omega) (by omega) (by omega) (by omega)]) (by rw [F3 _ (by decide) (by decide) (by decide), G1 _ _ (by omega) (by omega) (by omega) (by omega) (by omega)]) (fun k => by rw [F2 _ _ (by omega) (by omega) (by omega) (by omega), G1 _ _ (by omega) (by omega) (by omega) (by omega) (by omega)]) (fun k => by rw [F2 _ _ (by omega) (by omega) (by omega) (by omega), G1 _ _ (by omega) (by omega) (by omega) (by omega) (by omega)])
    have W : WTi h2 := WTi_mv lW (by rw [F3 _ (by decide) (by decide) (by decide), G1 _ _ (by omega) (by omega) (by omega) (by omega) (by omega)]) (by rw [F2 _ _ (by omega) (by omega) (by omega) (by omega), G1 _ _ (by omega) (by omega) (by omega) (by omega) (by omega)]) (fun k => by rw [F2 _ _ (by omega) (by omega) (by omega) (by omega), G1 _ _ (by omega) (by omega) (by omega) (by omega) (by omega)]) (fun k => by rw [F2 _ _ (by omega) (by omega) (by omega) (by omega), G1 _ _ (by omega) (by omega) (by omega) (by omega) (by omega)])
    have c15 : ∀ k x, 5 ≤ k → k < 15 → h2 k x = hC k x := fun k x a b => by rw [F2 k x (by omega) (by omega) (by omega) (by omega), e15 k x a b]
    have S : SR h2 5 h2 := by
      rw [E9] at c15 ⊢
      exact SR_mv (shEq_sm (fun k x a b => c15 k x a b)) hr S1
    have U : UN h2 := by
      rw [E9]
      exact UN_eqr (g := rwA h 145 p0) n0.2 (hr 3 (by decide) (by decide)) (fun i k i0 i1 k0 k1 => hr _ (by omega) (by omega)) (lUH.2 p0 q1.1 q1.2 q2)
    have fin := k2 (cpy hN 141 0 145 (1256 * p0) 1256 141 4) h2 e7 (fun _ => by rw [hr 4 (by decide) (by decide)]; exact S1.1.1.2.2.2.2.1.symm) (F2 157 0 (by decide) (by decide) (by decide) (by decide)) (LI_k2 hL (fun _ _ _ _ => rfl) kc0 B1 (fun k x a b c d e => up_ne (by omega)) (up_ne (by omega)) (fun x _ _ => by rw [up_ne (by omega), E]) km N2 S U T W)
    rw [E9] at fin
    exact fin
theorem ag_undo {h : AH} {K : AO → Nat → AH → Prop} (hL : LI h) (kk : ∀ k v h1, (k = 0 → h1 157 0 = v) → AGK mX9_undo 3 [(2, 140)] h1 k v → K (.inl (some (0, k))) 159 h1) : AC mL_undo 7 1 6 159 [(2, 0), (2, 157)] h K := by
  have hS := hL.1
  have N3 : 0 ≤ h 141 3 ∧ h 141 3 ≤ 12 := hS.2.2.2.1.2.2.1
  have N2 : 0 ≤ h 141 2 ∧ h 141 2 ≤ 4 := hS.2.2.2.1.2.2.2.2.1
  have R4 : 0 ≤ h 141 4 ∧ h 141 4 ≤ 1000 := hS.2.2.2.2.1
  have R8 : h 141 8 = (if h 141 4 < 10 then h 141 4 else 10) := hS.2.2.2.2.2.1
  have R7 : 0 ≤ h 141 7 ∧ h 141 7 ≤ 30 := hS.2.2.2.2.2.2.1
  have N9 : 0 ≤ h 141 9 ∧ h 141 9 ≤ 8 := hS.2.2.2.1.2.2.2.2.2.2.1
  have B0 : 4 ≤ h 141 0 ∧ h 141 0 ≤ 30 := hS.2.2.2.1.1.1
  have B1 : 4 ≤ h 141 1 ∧ h 141 1 ≤ 30 := hS.2.2.2.1.1.2.1
  have B5 : 0 ≤ h 141 5 ∧ h 141 5 ≤ 7 := hS.2.2.2.1.1.2.2.1
  have B6 : 0 ≤ h 141 6 ∧ h 141 6 ≤ 9 := hS.2.2.2.1.1.2.2.2
  have sO : ∀ i, 0 ≤ i → i < h 141 3 → shOk h i := fun i a b => (hS.2.2.2.1.2.1 i a b).1
  have sF : ∀ i, 0 ≤ i → i < h 141 3 → 0 ≤ h 141 (46 + 25 * i + 0) := fun i a b => (hS.2.1 i a b).1.1
  have sH : ∀ i, 0 ≤ i → i < h 141 3 → -100000 ≤ h 141 (46 + 25 * i + 4) ∧ h 141 (46 + 25 * i + 4) ≤ 100000 := fun i a b => by
    have q := (hS.2.2.2.1.2.2.2.1 i a b).1
    omega
  have lO : lgOk h := ⟨by omega, by rw [R8]; split <;> omega⟩
  have hT := hS.2.2.2.1
  obtain ⟨lS, lU, lH, lV, lUH, lT, lW⟩ := id hL
  have n1 : 0 ≤ h 32 1 ∧ h 32 1 ≤ 7 := lH.1
  have n2 : 0 ≤ h 32 2 ∧ h 32 2 ≤ 8 := lH.2.1
  have k6 : 0 ≤ h 140 6 ∧ h 140 6 ≤ 8 := by rw [lH.2.2.1]; exact n2
  refine wL_undo (fun K' hK => cx_undo lH (fun q => hK _ _ _ ⟨rfl, 1, List.mem_cons_self, kk 1 0 h (fun z => absurd z (by decide)) (fun K2 k2 => ?_)⟩) (fun q hC cb => hK _ _ _ ⟨rfl, rfl, trivial, kk 0 _ _ (fun _ => up_at _ _ _ _) (fun K2 k2 => ?_)⟩))
  · exact ac_undo k6 (fun _ => k2 _ _ (up_at _ _ _ _) (fun z => absurd z (by decide)) rfl (LI_e hL)) (fun z => absurd z (by omega))
  · have p2 : 0 < h 32 2 := by rw [← lH.2.2.1]; exact q
    obtain ⟨b1, b2, b3, b4⟩ := cb
    obtain ⟨h1, E1⟩ : ∃ h1 : AH, h1 = up hC 157 0 (h 140 6 - 1) := ⟨_, rfl⟩
    rw [← E1] at k2 ⊢
    have G1 : ∀ k x, ¬ (5 ≤ k ∧ k < 15) → ¬ (k = 32 ∧ (x = 1 ∨ x = 2)) → k ≠ 157 → h1 k x = h k x := fun k x a b c => by rw [E1, up_ne (by omega), b1 k x a b]
    have e6 : h1 140 6 = h 140 6 := G1 _ _ (by omega) (by omega) (by omega)
    refine ac_undo (by rw [e6]; exact k6) (fun z => absurd z (by omega)) (fun _ => ?_)
    rw [e6]
    obtain ⟨h2, E9⟩ : ∃ h2 : AH, h2 = cpy (up (up h1 140 7 0) 140 6 (h 140 6 - 1)) 141 0 144 (1256 * (h 140 6 - 1)) 1256 := ⟨_, rfl⟩
    rw [← E9]
    have F2 : ∀ k x, k ≠ 141 → ¬ (k = 140 ∧ (x = 6 ∨ x = 7)) → h2 k x = h1 k x := fun k x a b => by
      rw [E9]
      unfold cpy
      rw [if_neg (by omega), up_ne (by omega), up_ne (by omega)]
    have e76 : h2 140 6 = h 140 6 - 1 := by
      rw [E9]
      unfold cpy
      rw [if_neg (by omega), up_at]
    have e77 : h2 140 7 = 0 := by
      rw [E9]
      unfold cpy
      rw [if_neg (by omega), up_ne (by omega), up_at]
    have hr : ∀ x, 0 ≤ x → x < 1256 → h2 141 x = rwA h 144 (h 140 6 - 1) 141 x := fun x x0 x1 => by
      rw [E9]
      unfold cpy
      rw [if_pos ⟨rfl, by omega, by omega⟩, Int.sub_zero, up_ne (by omega), up_ne (by omega)]
      exact G1 _ _ (by omega) (by omega) (by omega)
    have S0 := HI_top lH p2
    have S1 : SR hC 5 (rwA h 144 (h 140 6 - 1)) := SR_eqh b2 S0
    have n0 : 0 ≤ rwA h 144 (h 140 6 - 1) 141 3 ∧ rwA h 144 (h 140 6 - 1) 141 3 ≤ 12 := S0.2.2.2.1.2.2.1
    have GF : ∀ k x, ¬ (5 ≤ k ∧ k < 15) → ¬ (k = 32 ∧ (x = 1 ∨ x = 2)) → k ≠ 157 → k ≠ 141 → ¬ (k = 140 ∧ (x = 6 ∨ x = 7)) → h2 k x = h k x := fun k x a b c d e => by rw [F2 k x d e, G1 k x a b c]
    have c3 : h2 32 1 = (h 32 1 + 7) % 8 := by rw [F2 _ _ (by omega) (by omega), E1, up_ne (by omega), b3]
    have c4 : h2 32 2 = h 32 2 - 1 := by rw [F2 _ _ (by omega) (by omega), E1, up_ne (by omega), b4]
    refine k2 _ h2 e77 (fun _ => rfl) (F2 157 0 (by decide) (by decide)) ⟨?_, ?_, ?_, ?_, ?_, ?_, ?_⟩
    · exact SR_mv (shEq_sm (fun k x a b => by rw [F2 k x (by omega) (by omega), E1, up_ne (by omega)])) hr S1
    · refine UN_eqr (g := rwA h 144 (h 140 6 - 1)) n0.2 (hr 3 (by decide) (by decide)) (fun i k i0 i1 k0 k1 => hr _ (by omega) (by omega)) (lUH.1 _ (by omega) (by rw [lH.2.2.1]; omega))
    · exact HI_bk lH p2 (fun k x a b => GF k x (by omega) (by omega) (by omega) (by omega) (by omega)) c3 c4 e76 (fun x => GF _ _ (by omega) (by omega) (by omega) (by omega) (by omega))
    · exact SV_mv lV (fun k x a b => GF k x (by omega) (by omega) (by omega) (by omega) (by omega)) (fun x => GF _ _ (by omega) (by omega) (by omega) (by omega) (by omega)) (fun x => GF _ _ (by omega) (by omega) (by omega) (by omega) (by omega))
    · refine ⟨fun e e0 e1 => ?_, fun s s0 s1 z => ?_⟩
      · have : rwA h2 144 e = rwA h 144 e := by funext _ x; exact GF _ _ (by omega) (by omega) (by omega) (by omega) (by omega)
        rw [this]
        exact lUH.1 e e0 (by omega)
      · have : rwA h2 145 s = rwA h 145 s := by funext _ x; exact GF _ _ (by omega) (by omega) (by omega) (by omega) (by omega)
        rw [this]
        rw [GF 146 s (by omega) (by omega) (by omega) (by omega) (by omega)] at z
        exact lUH.2 s s0 s1 z
    · exact TXi_mv lT (GF _ _ (by omega) (by omega) (by omega) (by omega) (by omega)) (GF _ _ (by omega) (by omega) (by omega) (by omega) (by omega)) (GF _ _ (by omega) (by omega) (by omega) (by omega) (by omega)) (GF _ _ (by omega) (by omega) (by omega) (by omega) (by omega)) (fun k => GF _ _ (by omega) (by omega) (by omega) (by omega) (by omega)) (fun k => GF _ _ (by omega) (by omega) (by omega) (by omega) (by omega))
    · exact WTi_mv lW (GF _ _ (by omega) (by omega) (by omega) (by omega) (by omega)) (GF _ _ (by omega) (by omega) (by omega) (by omega) (by omega)) (fun k => GF _ _ (by omega) (by omega) (by omega) (by omega) (by omega)) (fun k => GF _ _ (by omega) (by omega) (by omega) (by omega) (by omega))
