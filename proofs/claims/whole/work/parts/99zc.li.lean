/-! class and model agree: text, slots, ships written -/
def AGU (Mm : AMM) (Dm : Nat) (bs : List AV) (h1 : AH) (v : Int) : Prop := ∀ K2 : AO → Nat → AH → Prop, (∀ b h2, b = v → LI h2 → K2 (.inl (some (0, b))) 159 h2) → AC Mm Dm 0 0 159 bs h1 K2
def AGN (Mm : AMM) (Dm : Nat) (bs : List AV) (h1 : AH) (k : Int) : Prop := ∀ K2 : AO → Nat → AH → Prop, (∀ h2, h2 140 7 = k → LI h2 → K2 (.inl none) 159 h2) → AC Mm Dm 0 0 159 bs h1 K2
theorem ag_errorPosition {h : AH} {K : AO → Nat → AH → Prop} (hL : LI h) (kk : ∀ v h1, AGU mX9_errorPosition 1 [(2, 140)] h1 v → K (.inl (some (0, v))) 159 h1) : AC mX8_errorPosition 2 0 0 159 [(2, 0)] h K :=
  cx_errorPosition (kk _ _ (fun K2 k2 => ac_errorPosition (k2 _ _ hL.2.2.2.2.2.1.2.2.1.symm (LI_e hL))))
theorem ag_save {p0 : Int} {h : AH} {K : AO → Nat → AH → Prop} (hL : LI h) (kk : ∀ k h1, AGN mX9_save 2 [(2, 140), (0, p0)] h1 k → K (.inl (some (0, k))) 159 h1) : AC mL_save 8 1 6 159 [(2, 0), (0, p0)] h K := by
  have hS := hL.1
  have N3 : 0 ≤ h 141 3 ∧ h 141 3 ≤ 12 := hS.2.2.2.1.2.2.1
  have N2 : 0 ≤ h 141 2 ∧ h 141 2 ≤ 4 := hS.2.2.2.1.2.2.2.2.1
  have R4 : 0 ≤ h 141 4 ∧ h 141 4 ≤ 1000 := hS.2.2.2.2.1
  have R8 : h 141 8 = (if h 141 4 < 10 then h 141 4 else 10) := hS.2.2.2.2.2.1
  have R7 : 0 ≤ h 141 7 ∧ h 141 7 ≤ 30 := hS.2.2.2.2.2.2.1
  have N9 : 0 ≤ h 141 9 ∧ h 141 9 ≤ 8 := hS.2.2.2.1.2.2.2.2.2.2.1
  have B0 : 4 ≤ h 141 0 ∧ h 141 0 ≤ 30 := hS.2.2.2.1.1.1
  have B1 : 4 ≤ h 141 1 ∧ h 141 1 ≤ 30 := hS.2.2.2.1.1.2.1
  have B5 : 0 ≤ h 141 5 ∧ h 141 5 ≤ 7 := hS.2.2.2.1.1.2.2.1
  have B6 : 0 ≤ h 141 6 ∧ h 141 6 ≤ 9 := hS.2.2.2.1.1.2.2.2
  have sO : ∀ i, 0 ≤ i → i < h 141 3 → shOk h i := fun i a b => (hS.2.2.2.1.2.1 i a b).1
  have sF : ∀ i, 0 ≤ i → i < h 141 3 → 0 ≤ h 141 (46 + 25 * i + 0) := fun i a b => (hS.2.1 i a b).1.1
  have sH : ∀ i, 0 ≤ i → i < h 141 3 → -100000 ≤ h 141 (46 + 25 * i + 4) ∧ h 141 (46 + 25 * i + 4) ≤ 100000 := fun i a b => by
    have q := (hS.2.2.2.1.2.2.2.1 i a b).1
    omega
  have lO : lgOk h := ⟨by omega, by rw [R8]; split <;> omega⟩
  have hT := hS.2.2.2.1
  obtain ⟨lS, lU, lH, lV, lUH, lT, lW⟩ := id hL
  have n1 : 0 ≤ h 32 1 ∧ h 32 1 ≤ 7 := lH.1
  have n2 : 0 ≤ h 32 2 ∧ h 32 2 ≤ 8 := lH.2.1
  have k6 : 0 ≤ h 140 6 ∧ h 140 6 ≤ 8 := by rw [lH.2.2.1]; exact n2
  refine wL_save (fun K' hK => cx_save (fun q => hK _ _ _ ⟨rfl, 1, List.mem_cons_self, kk 1 h (fun K2 k2 => ?_)⟩) (fun q hC fr eq => hK _ _ _ ⟨rfl, kk 0 _ (fun K2 k2 => ?_)⟩))
  · exact ac_save (fun _ => k2 _ (up_at _ _ _ _) (LI_e hL)) (fun z => absurd z q)
  · obtain ⟨h1, E1⟩ : ∃ h1 : AH, h1 = up hC 137 p0 1 := ⟨_, rfl⟩
    rw [← E1]
    have G1 : ∀ k x, ¬ (117 + 10 * p0 ≤ k ∧ k < 127 + 10 * p0) → ¬ (k = 137 ∧ x = p0) → h1 k x = h k x := fun k x a b => by rw [E1, up_ne b, fr k x (by omega)]
    refine ac_save (fun z => absurd q z) (fun _ => ?_)
    obtain ⟨h2, E9⟩ : ∃ h2 : AH, h2 = up (cpy (up h1 140 7 0) 145 (1256 * p0) 141 0 1256) 146 p0 1 := ⟨_, rfl⟩
    rw [← E9]
    have F2 : ∀ k x, k ≠ 145 → ¬ (k = 146 ∧ x = p0) → ¬ (k = 140 ∧ x = 7) → h2 k x = h1 k x := fun k x a b c => by
      rw [E9, up_ne b]
      unfold cpy
      rw [if_neg (by omega), up_ne c]
    have F5 : ∀ x, ¬ (1256 * p0 ≤ x ∧ x < 1256 * p0 + 1256) → h2 145 x = h1 145 x := fun x a => by
      rw [E9, up_ne (by omega)]
      unfold cpy
      rw [if_neg (by omega), up_ne (by omega)]
    have F6 : ∀ x, 0 ≤ x → x < 1256 → h2 145 (1256 * p0 + x) = h 141 x := fun x a b => by
      rw [E9, up_ne (by omega)]
      unfold cpy
      rw [if_pos ⟨rfl, by omega, by omega⟩, up_ne (by omega), G1 _ _ (by omega) (by omega)]
      congr 1
      omega
    have e7 : h2 140 7 = 0 := by
      rw [E9, up_ne (by omega)]
      unfold cpy
      rw [if_neg (by omega), up_at]
    have e46 : h2 146 p0 = 1 := by rw [E9, up_at]
    have e37 : h2 137 p0 = 1 := by rw [F2 _ _ (by omega) (by omega) (by omega), E1, up_at]
    have GF : ∀ k x, k < 117 ∨ 138 ≤ k → k ≠ 145 → k ≠ 146 → ¬ (k = 140 ∧ x = 7) → h2 k x = h k x := fun k x a b c d => by rw [F2 k x b (by omega) d, G1 k x (by omega) (by omega)]
    have c15 : ∀ k x, 117 + 10 * p0 ≤ k → k < 127 + 10 * p0 → h2 k x = hC k x := fun k x a b => by rw [F2 k x (by omega) (by omega) (by omega), E1, up_ne (by omega)]
    refine k2 h2 e7 ⟨?_, ?_, ?_, ?_, ?_, ?_, ?_⟩
    · exact SR_mv (shEq_sm (fun k x a b => GF k x (by omega) (by omega) (by omega) (by omega))) (fun x _ _ => GF _ _ (by omega) (by omega) (by omega) (by omega)) hS
    · exact UN_row hS (fun x _ _ => GF _ _ (by omega) (by omega) (by omega) (by omega)) lU
    · exact HI_mv lH (fun k x a b => GF _ _ (by omega) (by omega) (by omega) (by omega)) (GF _ _ (by omega) (by omega) (by omega) (by omega)) (fun x => GF _ _ (by omega) (by omega) (by omega) (by omega))
    · intro s s0 s1
      by_cases z : s = p0
      · subst z
        refine ⟨⟨fun y => by omega, fun y => by omega⟩, fun _ => ?_⟩
        exact SR_mv (shEq_trans eq (shEq_sm (fun k x a b => c15 k x (by omega) (by omega)))) (fun x x0 x1 => F6 x x0 x1) hS
      · obtain ⟨v1, v2⟩ := lV s s0 s1
        have g37 : h2 137 s = h 137 s := by rw [F2 _ _ (by omega) (by omega) (by omega), G1 _ _ (by omega) (by omega)]
        have g46 : h2 146 s = h 146 s := by rw [F2 _ _ (by omega) (by omega) (by omega), G1 _ _ (by omega) (by omega)]
        refine ⟨by rw [g37, g46]; exact v1, fun y => ?_⟩
        rw [g46] at y
        refine SR_mv (shEq_sm (fun k x a b => by rw [F2 k x (by omega) (by omega) (by omega), G1 k x (by omega) (by omega)])) (fun x x0 x1 => ?_) (v2 y)
        show h2 145 (1256 * s + x) = h 145 (1256 * s + x)
        rw [F5 _ (by omega), G1 _ _ (by omega) (by omega)]
    · refine ⟨fun e e0 e1 => ?_, fun s s0 s1 z => ?_⟩
      · have : rwA h2 144 e = rwA h 144 e := by funext _ x; exact GF _ _ (by omega) (by omega) (by omega) (by omega)
        rw [this]
        exact lUH.1 e e0 (by rw [← GF 32 2 (by omega) (by omega) (by omega) (by omega)]; exact e1)
      · by_cases z9 : s = p0
        · subst z9
          exact UN_eqr (g := h) N3.2 (F6 3 (by decide) (by decide)) (fun i k i0 i1 k0 k1 => F6 _ (by omega) (by omega)) lU
        · have g46 : h2 146 s = h 146 s := by rw [F2 _ _ (by omega) (by omega) (by omega), G1 _ _ (by omega) (by omega)]
          rw [g46] at z
          have n0 := ((lV s s0 s1).2 z).2.2.2.1.2.2.1
          refine UN_eqr (g := rwA h 145 s) n0.2 ?_ (fun i k i0 i1 k0 k1 => ?_) (lUH.2 s s0 s1 z)
          · show h2 145 (1256 * s + 3) = h 145 (1256 * s + 3)
            rw [F5 _ (by omega), G1 _ _ (by omega) (by omega)]
          · have i12 : i < 12 := Int.lt_of_lt_of_le i1 n0.2
            show h2 145 (1256 * s + _) = h 145 (1256 * s + _)
            rw [F5 _ (by omega), G1 _ _ (by omega) (by omega)]
    · exact TXi_mv lT (GF _ _ (by omega) (by omega) (by omega) (by omega)) (GF _ _ (by omega) (by omega) (by omega) (by omega)) (GF _ _ (by omega) (by omega) (by omega) (by omega)) (GF _ _ (by omega) (by omega) (by omega) (by omega)) (fun k => GF _ _ (by omega) (by omega) (by omega) (by omega)) (fun k => GF _ _ (by omega) (by omega) (by omega) (by omega))
    · exact WTi_mv lW (GF _ _ (by omega) (by omega) (by omega) (by omega)) (GF _ _ (by omega) (by omega) (by omega) (by omega)) (fun k => GF _ _ (by omega) (by omega) (by omega) (by omega)) (fun k => GF _ _ (by omega) (by omega) (by omega) (by omega))
theorem and255g (x : Int) : i_and x 255 = x % 256 := by
  obtain ⟨X, hX⟩ : ∃ X : BitVec 32, X = (Int32.ofInt x).toBitVec := ⟨_, rfl⟩
  have e : (Int32.ofInt x &&& Int32.ofInt 255).toBitVec.toNat = X.toNat % 256 := by
    rw [show (Int32.ofInt x &&& Int32.ofInt 255).toBitVec = X &&& 255#32 by rw [hX]; rfl, BitVec.toNat_and]
    exact Nat.and_two_pow_sub_one_eq_mod X.toNat 8
  have e2 : i_and x 255 = ((X.toNat % 256 : Nat) : Int) := by
    show (Int32.ofInt x &&& Int32.ofInt 255).toBitVec.toInt = _
    rw [bv_toI (by rw [e]; omega), e]
  have e3 : X.toNat = (x % 4294967296).toNat := by
    rw [hX]
    exact BitVec.toNat_ofInt x
  rw [e2, e3]
  omega
theorem fl_rg {f : Int → Int} (hf : ∀ k, 0 ≤ f k ∧ f k ≤ 255) : ∀ (m : Nat) (k : Int) (j : Nat) (v : Int), (fl f m k)[j]? = some v → 1 ≤ v ∧ v ≤ 255
  | 0, k, j, v, h => by
    have h2 : ([] : List Int)[j]? = some v := h
    simp at h2
  | m + 1, k, j, v, h => by
    have e : fl f (m + 1) k = if f k = 0 then fl f m (k + 1) else f k :: fl f m (k + 1) := rfl
    rw [e] at h
    by_cases z : f k = 0
    · rw [if_pos z] at h
      exact fl_rg hf m (k + 1) j v h
    · rw [if_neg z] at h
      cases j with
      | zero =>
        have h2 : some (f k) = some v := h
        have h3 := hf k
        have h4 := Option.some.inj h2
        omega
      | succ j => exact fl_rg hf m (k + 1) j v h
theorem ag_append {p0 p1 p2 p3 p4 : Int} {h : AH} {K : AO → Nat → AH → Prop} (hL : LI h) (kk : ∀ k v h1, (k = 0 → h1 157 0 = v) → AGK mX9_append 2 [(2, 140), (0, p0), (0, p1), (0, p2), (0, p3), (0, p4)] h1 k v → K (.inl (some (0, k))) 159 h1) : AC mL_append 7 1 6 159 [(2, 0), (0, p0), (0, p1), (0, p2), (0, p3), (0, p4), (2, 157)] h K := by
  have hS := hL.1
  have N3 : 0 ≤ h 141 3 ∧ h 141 3 ≤ 12 := hS.2.2.2.1.2.2.1
  have N2 : 0 ≤ h 141 2 ∧ h 141 2 ≤ 4 := hS.2.2.2.1.2.2.2.2.1
  have R4 : 0 ≤ h 141 4 ∧ h 141 4 ≤ 1000 := hS.2.2.2.2.1
  have R8 : h 141 8 = (if h 141 4 < 10 then h 141 4 else 10) := hS.2.2.2.2.2.1
  have R7 : 0 ≤ h 141 7 ∧ h 141 7 ≤ 30 := hS.2.2.2.2.2.2.1
  have N9 : 0 ≤ h 141 9 ∧ h 141 9 ≤ 8 := hS.2.2.2.1.2.2.2.2.2.2.1
  have B0 : 4 ≤ h 141 0 ∧ h 141 0 ≤ 30 := hS.2.2.2.1.1.1
  have B1 : 4 ≤ h 141 1 ∧ h 141 1 ≤ 30 := hS.2.2.2.1.1.2.1
  have B5 : 0 ≤ h 141 5 ∧ h 141 5 ≤ 7 := hS.2.2.2.1.1.2.2.1
  have B6 : 0 ≤ h 141 6 ∧ h 141 6 ≤ 9 := hS.2.2.2.1.1.2.2.2
  have sO : ∀ i, 0 ≤ i → i < h 141 3 → shOk h i := fun i a b => (hS.2.2.2.1.2.1 i a b).1
  have sF : ∀ i, 0 ≤ i → i < h 141 3 → 0 ≤ h 141 (46 + 25 * i + 0) := fun i a b => (hS.2.1 i a b).1.1
  have sH : ∀ i, 0 ≤ i → i < h 141 3 → -100000 ≤ h 141 (46 + 25 * i + 4) ∧ h 141 (46 + 25 * i + 4) ≤ 100000 := fun i a b => by
    have q := (hS.2.2.2.1.2.2.2.1 i a b).1
    omega
  have lO : lgOk h := ⟨by omega, by rw [R8]; split <;> omega⟩
  have hT := hS.2.2.2.1
  obtain ⟨lS, lU, lH, lV, lUH, lT, lW⟩ := id hL
  have n1 : 0 ≤ h 32 1 ∧ h 32 1 ≤ 7 := lH.1
  have n2 : 0 ≤ h 32 2 ∧ h 32 2 ≤ 8 := lH.2.1
  have k6 : 0 ≤ h 140 6 ∧ h 140 6 ≤ 8 := by rw [lH.2.2.1]; exact n2
  obtain ⟨t1, t2, t3, t4⟩ := lT
  have bl := bL_eq p0 p1 p2 p3 p4
  refine wL_append (fun K' hK => cx_append (by rw [t2]; exact t1) (fun q => hK _ _ _ ⟨rfl, 1, List.mem_cons_self, kk 1 0 h (fun z => absurd z (by decide)) (fun K2 k2 => ?_)⟩) (fun q => hK _ _ _ ⟨rfl, rfl, trivial, kk 0 _ _ (fun _ => up_at _ _ _ _) (fun K2 k2 => ?_)⟩))
  · exact ac_append t1 (fun _ => k2 _ _ (up_at _ _ _ _) (fun z => absurd z (by decide)) rfl (LI_e hL)) (fun z => absurd (by rw [bl] at z; rw [t2]; exact z) q)
  · obtain ⟨l, el⟩ : ∃ l : List Int, l = bL p0 p1 p2 p3 p4 := ⟨_, rfl⟩
    have hg : ∀ (j : Nat) (v : Int), l[j]? = some v → 1 ≤ v ∧ v ≤ 255 := fun j v e => by
      rw [el, ← bl] at e
      exact fl_rg (fun k => by unfold bOf; rw [and255g]; omega) 20 0 j v e
    rw [← el] at q k2 bl ⊢
    obtain ⟨h1, E1⟩ : ∃ h1 : AH, h1 = up (pushL 3 2 1 h l) 157 0 (h 2 1 + l.length) := ⟨_, rfl⟩
    rw [← E1] at k2 ⊢
    have G1 : ∀ k x, ¬ (k = 2 ∧ x = 1) → k ≠ 3 → k ≠ 157 → h1 k x = h k x := fun k x a b c => by rw [E1, up_ne (by omega), pushL_f a b]
    have g21 : h1 2 1 = h 2 1 + l.length := by rw [E1, up_ne (by omega), pushL_n]
    have g9 : h1 140 9 = h 140 9 := G1 _ _ (by omega) (by omega) (by omega)
    refine ac_append (by rw [g9]; exact t1) (fun z => absurd (by rw [bl, g9, ← t2]; exact q) z) (fun _ => ?_)
    rw [bl]
    obtain ⟨h2, E9⟩ : ∃ h2 : AH, h2 = putL (up h1 140 7 0) l := ⟨_, rfl⟩
    rw [← E9]
    have F2 : ∀ k x, k ≠ 147 → ¬ (k = 140 ∧ (x = 9 ∨ x = 7)) → h2 k x = h1 k x := fun k x a b => by
      rw [E9]
      show pushL 147 140 9 (up h1 140 7 0) l k x = _
      rw [pushL_f (by omega) a, up_ne (by omega)]
    have e9 : h2 140 9 = h 140 9 + l.length := by
      rw [E9]
      show pushL 147 140 9 (up h1 140 7 0) l 140 9 = _
      rw [pushL_n, up_ne (by omega), g9]
    have e7 : h2 140 7 = 0 := by
      rw [E9]
      show pushL 147 140 9 (up h1 140 7 0) l 140 7 = _
      rw [pushL_f (by omega) (by decide), up_at]
    have GF : ∀ k x, k ≠ 2 → k ≠ 3 → k ≠ 157 → k ≠ 147 → ¬ (k = 140 ∧ (x = 9 ∨ x = 7)) → h2 k x = h k x := fun k x a b c d e => by rw [F2 k x d e, G1 k x (by omega) b c]
    refine k2 _ h2 e7 (fun _ => by rw [g9, t2]) (F2 157 0 (by decide) (by decide)) (LI_mv2 hL (fun k x a => GF k x (by omega) (by omega) (by omega) (by omega) (by omega)) ⟨by omega, ?_, ?_, fun k k0 k1 => ?_⟩ (WTi_mv lW (GF _ _ (by omega) (by omega) (by omega) (by omega) (by omega)) (GF _ _ (by omega) (by omega) (by omega) (by omega) (by omega)) (fun k => GF _ _ (by omega) (by omega) (by omega) (by omega) (by omega)) (fun k => GF _ _ (by omega) (by omega) (by omega) (by omega) (by omega))))
    · rw [F2 _ _ (by omega) (by omega), g21, e9, t2]
    · rw [F2 _ _ (by omega) (by omega), G1 _ _ (by omega) (by omega) (by omega), GF _ _ (by omega) (by omega) (by omega) (by omega) (by omega)]
      exact t3
    · rw [e9] at k1
      have c3 : h2 3 k = pushL 3 2 1 h l 3 k := by rw [F2 _ _ (by omega) (by omega), E1, up_ne (by omega)]
      have c47 : h2 147 k = pushL 147 140 9 (up h1 140 7 0) l 147 k := by rw [E9]
      by_cases z : k < h 140 9
      · have a1 : pushL 3 2 1 h l 3 k = h 3 k := pushL_lo (by decide) l h (by rw [t2]; exact z)
        have a2 : pushL 147 140 9 (up h1 140 7 0) l 147 k = up h1 140 7 0 147 k := pushL_lo (by decide) l _ (by rw [up_ne (by omega), g9]; exact z)
        have a3 : up h1 140 7 0 147 k = h 147 k := by rw [up_ne (by omega), G1 _ _ (by omega) (by omega) (by omega)]
        rw [c3, c47, a1, a2, a3]
        exact t4 k k0 z
      · obtain ⟨j, hj⟩ : ∃ j : Nat, k = h 140 9 + j := ⟨(k - h 140 9).toNat, by omega⟩
        have jl : j < l.length := by omega
        have ej : l[j]? = some l[j] := List.getElem?_eq_getElem jl
        have a1 := pushL_at (a := 3) (b := 2) (f := 1) (by decide) l h j l[j] ej
        have a2 := pushL_at (a := 147) (b := 140) (f := 9) (by decide) l (up h1 140 7 0) j l[j] ej
        rw [up_ne (by omega), g9, ← hj] at a2
        rw [t2, ← hj] at a1
        rw [c3, c47, a1, a2]
        exact ⟨rfl, hg j _ ej⟩
theorem txtF_le (r : Int → Int) : ∀ (m : Nat) (i : Int) (c : Bool), (txtF r m i c).length ≤ 20 * m
  | 0, _, _ => Nat.le_refl _
  | m + 1, i, c => by
    have e : txtF r (m + 1) i c = if r (46 + 25 * i + 10) = -1 then ((if c then [32] else []) ++ shipL r i) ++ txtF r m (i + 1) true else txtF r m (i + 1) c := rfl
    have a := txtF_le r m (i + 1) true
    have b := txtF_le r m (i + 1) c
    have d := shipL_le r i
    rw [e]
    split
    · rw [List.length_append, List.length_append]
      have : (if c then [32] else [] : List Int).length ≤ 1 := by split <;> decide
      omega
    · omega
theorem ag_writeShips {h : AH} {K : AO → Nat → AH → Prop} (hL : LI h) (kk : ∀ v h1, AGU mX9_writeShips 4 [(2, 140)] h1 v → K (.inl (some (0, v))) 159 h1) : AC mX8_writeShips 4 0 0 159 [(2, 0)] h K := by
  have hS := hL.1
  have N3 : 0 ≤ h 141 3 ∧ h 141 3 ≤ 12 := hS.2.2.2.1.2.2.1
  have N2 : 0 ≤ h 141 2 ∧ h 141 2 ≤ 4 := hS.2.2.2.1.2.2.2.2.1
  have R4 : 0 ≤ h 141 4 ∧ h 141 4 ≤ 1000 := hS.2.2.2.2.1
  have R8 : h 141 8 = (if h 141 4 < 10 then h 141 4 else 10) := hS.2.2.2.2.2.1
  have R7 : 0 ≤ h 141 7 ∧ h 141 7 ≤ 30 := hS.2.2.2.2.2.2.1
  have N9 : 0 ≤ h 141 9 ∧ h 141 9 ≤ 8 := hS.2.2.2.1.2.2.2.2.2.2.1
  have B0 : 4 ≤ h 141 0 ∧ h 141 0 ≤ 30 := hS.2.2.2.1.1.1
  have B1 : 4 ≤ h 141 1 ∧ h 141 1 ≤ 30 := hS.2.2.2.1.1.2.1
  have B5 : 0 ≤ h 141 5 ∧ h 141 5 ≤ 7 := hS.2.2.2.1.1.2.2.1
  have B6 : 0 ≤ h 141 6 ∧ h 141 6 ≤ 9 := hS.2.2.2.1.1.2.2.2
  have sO : ∀ i, 0 ≤ i → i < h 141 3 → shOk h i := fun i a b => (hS.2.2.2.1.2.1 i a b).1
  have sF : ∀ i, 0 ≤ i → i < h 141 3 → 0 ≤ h 141 (46 + 25 * i + 0) := fun i a b => (hS.2.1 i a b).1.1
  have sH : ∀ i, 0 ≤ i → i < h 141 3 → -100000 ≤ h 141 (46 + 25 * i + 4) ∧ h 141 (46 + 25 * i + 4) ≤ 100000 := fun i a b => by
    have q := (hS.2.2.2.1.2.2.2.1 i a b).1
    omega
  have lO : lgOk h := ⟨by omega, by rw [R8]; split <;> omega⟩
  have hT := hS.2.2.2.1
  obtain ⟨lS, lU, lH, lV, lUH, lT, lW⟩ := id hL
  have n1 : 0 ≤ h 32 1 ∧ h 32 1 ≤ 7 := lH.1
  have n2 : 0 ≤ h 32 2 ∧ h 32 2 ≤ 8 := lH.2.1
  have k6 : 0 ≤ h 140 6 ∧ h 140 6 ≤ 8 := by rw [lH.2.2.1]; exact n2
  refine cx_writeShips hS (kk _ _ (fun K2 k2 => ?_))
  have le := txtF_le (h 141) (h 141 3).toNat 0 false
  obtain ⟨l, el⟩ : ∃ l : List Int, l = txtF (h 141) (h 141 3).toNat 0 false := ⟨_, rfl⟩
  rw [← el] at le k2 ⊢
  obtain ⟨h1, E1⟩ : ∃ h1 : AH, h1 = pushL 139 138 1 (up h 138 1 0) l := ⟨_, rfl⟩
  rw [← E1]
  have G1 : ∀ k x, ¬ (k = 138 ∧ x = 1) → k ≠ 139 → h1 k x = h k x := fun k x a b => by rw [E1, pushL_f a b, up_ne a]
  have E : h1 141 = h 141 := by
    funext x
    exact G1 141 x (by omega) (by omega)
  have E3 : h1 141 3 = h 141 3 := by rw [E]
  refine ac_writeShips (by rw [E3]; exact N3) (fun j j0 j1 q => ?_) ?_
  · rw [E] at j1 q ⊢
    have p := (hS.2.1 j j0 j1).2.1 q
    have p4 := (hS.2.2.2.2.2.2.2.1 j j0 j1).2.1 q
    refine ⟨by omega, by omega, by omega⟩
  · rw [E, ← el]
    obtain ⟨h2, E9⟩ : ∃ h2 : AH, h2 = sayL (up (up h1 140 7 0) 140 27 0) l := ⟨_, rfl⟩
    rw [← E9]
    have F2 : ∀ k x, k ≠ 156 → ¬ (k = 140 ∧ (x = 27 ∨ x = 7)) → h2 k x = h1 k x := fun k x a b => by
      rw [E9]
      show pushL 156 140 27 (up (up h1 140 7 0) 140 27 0) l k x = _
      rw [pushL_f (by omega) a, up_ne (by omega), up_ne (by omega)]
    have e27 : h2 140 27 = l.length := by
      rw [E9, sayL_n, up_at]
      omega
    have g1 : h1 138 1 = l.length := by
      rw [E1, pushL_n, up_at]
      omega
    have GF : ∀ k x, k ≠ 138 → k ≠ 139 → k ≠ 156 → ¬ (k = 140 ∧ (x = 27 ∨ x = 7)) → h2 k x = h k x := fun k x a b c d => by rw [F2 k x c d, G1 k x (by omega) b]
    refine k2 _ h2 rfl (LI_mv2 hL (fun k x a => GF k x (by omega) (by omega) (by omega) (by omega)) (TXi_mv lT (GF _ _ (by omega) (by omega) (by omega) (by omega)) (GF _ _ (by omega) (by omega) (by omega) (by omega)) (GF _ _ (by omega) (by omega) (by omega) (by omega)) (GF _ _ (by omega) (by omega) (by omega) (by omega)) (fun k => GF _ _ (by omega) (by omega) (by omega) (by omega)) (fun k => GF _ _ (by omega) (by omega) (by omega) (by omega))) ⟨by omega, ?_, fun k k0 k1 => ?_⟩)
    · rw [F2 _ _ (by omega) (by omega), g1, e27]
    · obtain ⟨j, hj⟩ : ∃ j : Nat, k = j := ⟨k.toNat, by omega⟩
      have jl : j < l.length := by omega
      have ej : l[j]? = some l[j] := List.getElem?_eq_getElem jl
      have a1 := pushL_at (a := 139) (b := 138) (f := 1) (by decide) l (up h 138 1 0) j l[j] ej
      have a2 := pushL_at (a := 156) (b := 140) (f := 27) (by decide) l (up (up h1 140 7 0) 140 27 0) j l[j] ej
      rw [up_at, Int.zero_add, ← hj] at a1 a2
      have c3 : h2 139 k = l[j] := by rw [F2 _ _ (by omega) (by omega), E1]; exact a1
      have c4 : h2 156 k = l[j] := by rw [E9]; exact a2
      rw [c3, c4]
