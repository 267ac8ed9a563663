/-! class and model agree: questions -/
theorem ag_ship {p0 p1 : Int} {h : AH} {K : AO → Nat → AH → Prop} (hL : LI h) (kk : ∀ k v h1, (k = 0 → h1 157 0 = v) → AGK mX9_ship 3 [(2, 140), (0, p0), (0, p1)] h1 k v → K (.inl (some (0, k))) 159 h1) : AC mL_ship 8 2 12 159 [(2, 0), (0, p0), (0, p1), (2, 157)] h K := by
  have hS := hL.1
  have N3 : 0 ≤ h 141 3 ∧ h 141 3 ≤ 12 := hS.2.2.2.1.2.2.1
  have N2 : 0 ≤ h 141 2 ∧ h 141 2 ≤ 4 := hS.2.2.2.1.2.2.2.2.1
  have R4 : 0 ≤ h 141 4 ∧ h 141 4 ≤ 1000 := hS.2.2.2.2.1
  have R8 : h 141 8 = (if h 141 4 < 10 then h 141 4 else 10) := hS.2.2.2.2.2.1
  have R7 : 0 ≤ h 141 7 ∧ h 141 7 ≤ 30 := hS.2.2.2.2.2.2.1
  have N9 : 0 ≤ h 141 9 ∧ h 141 9 ≤ 8 := hS.2.2.2.1.2.2.2.2.2.2.1
  have B0 : 4 ≤ h 141 0 ∧ h 141 0 ≤ 30 := hS.2.2.2.1.1.1
  have B1 : 4 ≤ h 141 1 ∧ h 141 1 ≤ 30 := hS.2.2.2.1.1.2.1
  have B5 : 0 ≤ h 141 5 ∧ h 141 5 ≤ 7 := hS.2.2.2.1.1.2.2.1
  have B6 : 0 ≤ h 141 6 ∧ h 141 6 ≤ 9 := hS.2.2.2.1.1.2.2.2
  have sO : ∀ i, 0 ≤ i → i < h 141 3 → shOk h i := fun i a b => (hS.2.2.2.1.2.1 i a b).1
  have sF : ∀ i, 0 ≤ i → i < h 141 3 → 0 ≤ h 141 (46 + 25 * i + 0) := fun i a b => (hS.2.1 i a b).1.1
  have sH : ∀ i, 0 ≤ i → i < h 141 3 → -100000 ≤ h 141 (46 + 25 * i + 4) ∧ h 141 (46 + 25 * i + 4) ≤ 100000 := fun i a b => by
    have q := (hS.2.2.2.1.2.2.2.1 i a b).1
    omega
  have lO : lgOk h := ⟨by omega, by rw [R8]; split <;> omega⟩
  refine wL_ship (fun K' hK => cx_ship hS (fun q => hK _ _ _ ⟨rfl, 1, List.mem_cons_self, kk 1 0 h (fun z => absurd z (by decide)) (fun K2 k2 => ?_)⟩) (fun q1 q2 => hK _ _ _ ⟨rfl, 2, (List.mem_cons_of_mem _ List.mem_cons_self), kk 2 0 h (fun z => absurd z (by decide)) (fun K2 k2 => ?_)⟩) (fun q1 q2 => hK _ _ _ ⟨rfl, rfl, trivial, kk 0 _ _ (fun _ => up_at _ _ _ _) (fun K2 k2 => ?_)⟩))
  · exact ac_ship N3 (fun _ => k2 _ _ (up_at _ _ _ _) (fun z => absurd z (by decide)) rfl (LI_e hL)) (fun z _ => absurd z q) (fun z _ => absurd z q)
  · exact ac_ship N3 (fun z => absurd q1 z) (fun _ _ => k2 _ _ (up_at _ _ _ _) (fun z => absurd z (by decide)) rfl (LI_e hL)) (fun _ z => absurd z q2)
  · exact ac_ship N3 (fun z => absurd q1 z) (fun _ z => absurd q2 z) (fun _ _ => k2 _ _ (up_at _ _ _ _) (fun _ => rfl) rfl (LI_e (LI_o hL)))
theorem ag_fleet {p0 p1 : Int} {h : AH} {K : AO → Nat → AH → Prop} (hL : LI h) (kk : ∀ k v h1, (k = 0 → h1 157 0 = v) → AGK mX9_fleet 5 [(2, 140), (0, p0), (0, p1)] h1 k v → K (.inl (some (0, k))) 159 h1) : AC mL_fleet 8 2 12 159 [(2, 0), (0, p0), (0, p1), (2, 157)] h K := by
  have hS := hL.1
  have N3 : 0 ≤ h 141 3 ∧ h 141 3 ≤ 12 := hS.2.2.2.1.2.2.1
  have N2 : 0 ≤ h 141 2 ∧ h 141 2 ≤ 4 := hS.2.2.2.1.2.2.2.2.1
  have R4 : 0 ≤ h 141 4 ∧ h 141 4 ≤ 1000 := hS.2.2.2.2.1
  have R8 : h 141 8 = (if h 141 4 < 10 then h 141 4 else 10) := hS.2.2.2.2.2.1
  have R7 : 0 ≤ h 141 7 ∧ h 141 7 ≤ 30 := hS.2.2.2.2.2.2.1
  have N9 : 0 ≤ h 141 9 ∧ h 141 9 ≤ 8 := hS.2.2.2.1.2.2.2.2.2.2.1
  have B0 : 4 ≤ h 141 0 ∧ h 141 0 ≤ 30 := hS.2.2.2.1.1.1
  have B1 : 4 ≤ h 141 1 ∧ h 141 1 ≤ 30 := hS.2.2.2.1.1.2.1
  have B5 : 0 ≤ h 141 5 ∧ h 141 5 ≤ 7 := hS.2.2.2.1.1.2.2.1
  have B6 : 0 ≤ h 141 6 ∧ h 141 6 ≤ 9 := hS.2.2.2.1.1.2.2.2
  have sO : ∀ i, 0 ≤ i → i < h 141 3 → shOk h i := fun i a b => (hS.2.2.2.1.2.1 i a b).1
  have sF : ∀ i, 0 ≤ i → i < h 141 3 → 0 ≤ h 141 (46 + 25 * i + 0) := fun i a b => (hS.2.1 i a b).1.1
  have sH : ∀ i, 0 ≤ i → i < h 141 3 → -100000 ≤ h 141 (46 + 25 * i + 4) ∧ h 141 (46 + 25 * i + 4) ≤ 100000 := fun i a b => by
    have q := (hS.2.2.2.1.2.2.2.1 i a b).1
    omega
  have lO : lgOk h := ⟨by omega, by rw [R8]; split <;> omega⟩
  refine wL_fleet (fun K' hK => cx_fleet hS (fun q => hK _ _ _ ⟨rfl, 1, List.mem_cons_self, kk 1 0 h (fun z => absurd z (by decide)) (fun K2 k2 => ?_)⟩) (fun q1 q2 => hK _ _ _ ⟨rfl, 2, (List.mem_cons_of_mem _ List.mem_cons_self), kk 2 0 h (fun z => absurd z (by decide)) (fun K2 k2 => ?_)⟩) (fun q1 q2 => hK _ _ _ ⟨rfl, rfl, trivial, kk 0 _ _ (fun _ => up_at _ _ _ _) (fun K2 k2 => ?_)⟩))
  · exact ac_fleet N3 N2 sH (fun _ => k2 _ _ (up_at _ _ _ _) (fun z => absurd z (by decide)) rfl (LI_e hL)) (fun z _ => absurd z q) (fun z _ => absurd z q)
  · exact ac_fleet N3 N2 sH (fun z => absurd q1 z) (fun _ _ => k2 _ _ (up_at _ _ _ _) (fun z => absurd z (by decide)) rfl (LI_e hL)) (fun _ z => absurd z q2)
  · exact ac_fleet N3 N2 sH (fun z => absurd q1 z) (fun _ z => absurd q2 z) (fun _ _ => k2 _ _ (up_at _ _ _ _) (fun _ => rfl) rfl (LI_e (LI_o hL)))
theorem ag_gain {p0 p1 : Int} {h : AH} {K : AO → Nat → AH → Prop} (hL : LI h) (kk : ∀ k v h1, (k = 0 → h1 157 0 = v) → AGK mX9_gain 4 [(2, 140), (0, p0), (0, p1)] h1 k v → K (.inl (some (0, k))) 159 h1) : AC mL_gain 8 2 12 159 [(2, 0), (0, p0), (0, p1), (2, 157)] h K := by
  have hS := hL.1
  have N3 : 0 ≤ h 141 3 ∧ h 141 3 ≤ 12 := hS.2.2.2.1.2.2.1
  have N2 : 0 ≤ h 141 2 ∧ h 141 2 ≤ 4 := hS.2.2.2.1.2.2.2.2.1
  have R4 : 0 ≤ h 141 4 ∧ h 141 4 ≤ 1000 := hS.2.2.2.2.1
  have R8 : h 141 8 = (if h 141 4 < 10 then h 141 4 else 10) := hS.2.2.2.2.2.1
  have R7 : 0 ≤ h 141 7 ∧ h 141 7 ≤ 30 := hS.2.2.2.2.2.2.1
  have N9 : 0 ≤ h 141 9 ∧ h 141 9 ≤ 8 := hS.2.2.2.1.2.2.2.2.2.2.1
  have B0 : 4 ≤ h 141 0 ∧ h 141 0 ≤ 30 := hS.2.2.2.1.1.1
  have B1 : 4 ≤ h 141 1 ∧ h 141 1 ≤ 30 := hS.2.2.2.1.1.2.1
  have B5 : 0 ≤ h 141 5 ∧ h 141 5 ≤ 7 := hS.2.2.2.1.1.2.2.1
  have B6 : 0 ≤ h 141 6 ∧ h 141 6 ≤ 9 := hS.2.2.2.1.1.2.2.2
  have sO : ∀ i, 0 ≤ i → i < h 141 3 → shOk h i := fun i a b => (hS.2.2.2.1.2.1 i a b).1
  have sF : ∀ i, 0 ≤ i → i < h 141 3 → 0 ≤ h 141 (46 + 25 * i + 0) := fun i a b => (hS.2.1 i a b).1.1
  have sH : ∀ i, 0 ≤ i → i < h 141 3 → -100000 ≤ h 141 (46 + 25 * i + 4) ∧ h 141 (46 + 25 * i + 4) ≤ 100000 := fun i a b => by
    have q := (hS.2.2.2.1.2.2.2.1 i a b).1
    omega
  have lO : lgOk h := ⟨by omega, by rw [R8]; split <;> omega⟩
  refine wL_gain (fun K' hK => cx_gain hS (fun q => hK _ _ _ ⟨rfl, 1, List.mem_cons_self, kk 1 0 h (fun z => absurd z (by decide)) (fun K2 k2 => ?_)⟩) (fun q1 q2 => hK _ _ _ ⟨rfl, 2, (List.mem_cons_of_mem _ List.mem_cons_self), kk 2 0 h (fun z => absurd z (by decide)) (fun K2 k2 => ?_)⟩) (fun q1 q2 => hK _ _ _ ⟨rfl, rfl, trivial, kk 0 _ _ (fun _ => up_at _ _ _ _) (fun K2 k2 => ?_)⟩))
  · exact ac_gain N3 B5 B6 (fun i a b => (sO i a b).2.2.2.1) (fun _ => k2 _ _ (up_at _ _ _ _) (fun z => absurd z (by decide)) rfl (LI_e hL)) (fun z _ => absurd z q) (fun z _ => absurd z q)
  · exact ac_gain N3 B5 B6 (fun i a b => (sO i a b).2.2.2.1) (fun z => absurd q1 z) (fun _ _ => k2 _ _ (up_at _ _ _ _) (fun z => absurd z (by decide)) rfl (LI_e hL)) (fun _ z => absurd z q2)
  · exact ac_gain N3 B5 B6 (fun i a b => (sO i a b).2.2.2.1) (fun z => absurd q1 z) (fun _ z => absurd q2 z) (fun _ _ => k2 _ _ (up_at _ _ _ _) (fun _ => rfl) rfl (LI_e (LI_o hL)))
theorem ag_ram {p0 p1 : Int} {h : AH} {K : AO → Nat → AH → Prop} (hL : LI h) (kk : ∀ k v h1, (k = 0 → h1 157 0 = v) → AGK mX9_ram 2 [(2, 140), (0, p0), (0, p1)] h1 k v → K (.inl (some (0, k))) 159 h1) : AC mL_ram 7 1 6 159 [(2, 0), (0, p0), (0, p1), (2, 157)] h K := by
  have hS := hL.1
  have N3 : 0 ≤ h 141 3 ∧ h 141 3 ≤ 12 := hS.2.2.2.1.2.2.1
  have N2 : 0 ≤ h 141 2 ∧ h 141 2 ≤ 4 := hS.2.2.2.1.2.2.2.2.1
  have R4 : 0 ≤ h 141 4 ∧ h 141 4 ≤ 1000 := hS.2.2.2.2.1
  have R8 : h 141 8 = (if h 141 4 < 10 then h 141 4 else 10) := hS.2.2.2.2.2.1
  have R7 : 0 ≤ h 141 7 ∧ h 141 7 ≤ 30 := hS.2.2.2.2.2.2.1
  have N9 : 0 ≤ h 141 9 ∧ h 141 9 ≤ 8 := hS.2.2.2.1.2.2.2.2.2.2.1
  have B0 : 4 ≤ h 141 0 ∧ h 141 0 ≤ 30 := hS.2.2.2.1.1.1
  have B1 : 4 ≤ h 141 1 ∧ h 141 1 ≤ 30 := hS.2.2.2.1.1.2.1
  have B5 : 0 ≤ h 141 5 ∧ h 141 5 ≤ 7 := hS.2.2.2.1.1.2.2.1
  have B6 : 0 ≤ h 141 6 ∧ h 141 6 ≤ 9 := hS.2.2.2.1.1.2.2.2
  have sO : ∀ i, 0 ≤ i → i < h 141 3 → shOk h i := fun i a b => (hS.2.2.2.1.2.1 i a b).1
  have sF : ∀ i, 0 ≤ i → i < h 141 3 → 0 ≤ h 141 (46 + 25 * i + 0) := fun i a b => (hS.2.1 i a b).1.1
  have sH : ∀ i, 0 ≤ i → i < h 141 3 → -100000 ≤ h 141 (46 + 25 * i + 4) ∧ h 141 (46 + 25 * i + 4) ≤ 100000 := fun i a b => by
    have q := (hS.2.2.2.1.2.2.2.1 i a b).1
    omega
  have lO : lgOk h := ⟨by omega, by rw [R8]; split <;> omega⟩
  refine wL_ram (fun K' hK => cx_ram hS (fun q => hK _ _ _ ⟨rfl, 1, List.mem_cons_self, kk 1 0 h (fun z => absurd z (by decide)) (fun K2 k2 => ?_)⟩) (fun q1 q2 => hK _ _ _ ⟨rfl, 2, (List.mem_cons_of_mem _ List.mem_cons_self), kk 2 0 h (fun z => absurd z (by decide)) (fun K2 k2 => ?_)⟩) (fun q1 q2 => hK _ _ _ ⟨rfl, rfl, trivial, kk 0 _ _ (fun _ => up_at _ _ _ _) (fun K2 k2 => ?_)⟩))
  · exact ac_ram R7 (fun _ => k2 _ _ (up_at _ _ _ _) (fun z => absurd z (by decide)) rfl (LI_e hL)) (fun z _ => absurd z q) (fun z _ => absurd z q)
  · exact ac_ram R7 (fun z => absurd q1 z) (fun _ _ => k2 _ _ (up_at _ _ _ _) (fun z => absurd z (by decide)) rfl (LI_e hL)) (fun _ z => absurd z q2)
  · exact ac_ram R7 (fun z => absurd q1 z) (fun _ z => absurd q2 z) (fun _ _ => k2 _ _ (up_at _ _ _ _) (fun _ => rfl) rfl (LI_e (LI_o hL)))
theorem ag_at {p0 p1 : Int} {h : AH} {K : AO → Nat → AH → Prop} (hL : LI h) (kk : ∀ k v h1, (k = 0 → h1 157 0 = v) → AGK mX9_at 4 [(2, 140), (0, p0), (0, p1)] h1 k v → K (.inl (some (0, k))) 159 h1) : AC mL_at 7 1 6 159 [(2, 0), (0, p0), (0, p1), (2, 157)] h K := by
  have hS := hL.1
  have N3 : 0 ≤ h 141 3 ∧ h 141 3 ≤ 12 := hS.2.2.2.1.2.2.1
  have N2 : 0 ≤ h 141 2 ∧ h 141 2 ≤ 4 := hS.2.2.2.1.2.2.2.2.1
  have R4 : 0 ≤ h 141 4 ∧ h 141 4 ≤ 1000 := hS.2.2.2.2.1
  have R8 : h 141 8 = (if h 141 4 < 10 then h 141 4 else 10) := hS.2.2.2.2.2.1
  have R7 : 0 ≤ h 141 7 ∧ h 141 7 ≤ 30 := hS.2.2.2.2.2.2.1
  have N9 : 0 ≤ h 141 9 ∧ h 141 9 ≤ 8 := hS.2.2.2.1.2.2.2.2.2.2.1
  have B0 : 4 ≤ h 141 0 ∧ h 141 0 ≤ 30 := hS.2.2.2.1.1.1
  have B1 : 4 ≤ h 141 1 ∧ h 141 1 ≤ 30 := hS.2.2.2.1.1.2.1
  have B5 : 0 ≤ h 141 5 ∧ h 141 5 ≤ 7 := hS.2.2.2.1.1.2.2.1
  have B6 : 0 ≤ h 141 6 ∧ h 141 6 ≤ 9 := hS.2.2.2.1.1.2.2.2
  have sO : ∀ i, 0 ≤ i → i < h 141 3 → shOk h i := fun i a b => (hS.2.2.2.1.2.1 i a b).1
  have sF : ∀ i, 0 ≤ i → i < h 141 3 → 0 ≤ h 141 (46 + 25 * i + 0) := fun i a b => (hS.2.1 i a b).1.1
  have sH : ∀ i, 0 ≤ i → i < h 141 3 → -100000 ≤ h 141 (46 + 25 * i + 4) ∧ h 141 (46 + 25 * i + 4) ≤ 100000 := fun i a b => by
    have q := (hS.2.2.2.1.2.2.2.1 i a b).1
    omega
  have lO : lgOk h := ⟨by omega, by rw [R8]; split <;> omega⟩
  refine wL_at (fun K' hK => cx_at hS (fun q => hK _ _ _ ⟨rfl, 1, List.mem_cons_self, kk 1 0 h (fun z => absurd z (by decide)) (fun K2 k2 => ?_)⟩) (fun q1 q2 x qx => hK _ _ _ ⟨rfl, rfl, trivial, kk 0 _ _ (fun _ => up_at _ _ _ _) (fun K2 k2 => ?_)⟩))
  · exact ac_at N3 (by show 0 ≤ h 141 0 ∧ h 141 0 ≤ 100; omega) (by show 0 ≤ h 141 1 ∧ h 141 1 ≤ 100; omega) (fun _ => k2 _ _ (up_at _ _ _ _) (fun z => absurd z (by decide)) rfl (LI_e hL)) (fun z1 z2 y zx => absurd ⟨z1, z2⟩ q)
  · exact ac_at N3 (by show 0 ≤ h 141 0 ∧ h 141 0 ≤ 100; omega) (by show 0 ≤ h 141 1 ∧ h 141 1 ≤ 100; omega) (fun z => absurd ⟨q1, q2⟩ z) (fun _ _ y zx => k2 _ _ (up_at _ _ _ _) (fun _ => isFst_one (fun _ _ _ => Iff.rfl) zx qx) rfl (LI_e (LI_o hL)))
theorem ag_order {p0 p1 : Int} {h : AH} {K : AO → Nat → AH → Prop} (hL : LI h) (kk : ∀ k v h1, (k = 0 → h1 157 0 = v) → AGK mX9_order 3 [(2, 140), (0, p0), (0, p1)] h1 k v → K (.inl (some (0, k))) 159 h1) : AC mL_order 8 2 12 159 [(2, 0), (0, p0), (0, p1), (2, 157)] h K := by
  have hS := hL.1
  have N3 : 0 ≤ h 141 3 ∧ h 141 3 ≤ 12 := hS.2.2.2.1.2.2.1
  have N2 : 0 ≤ h 141 2 ∧ h 141 2 ≤ 4 := hS.2.2.2.1.2.2.2.2.1
  have R4 : 0 ≤ h 141 4 ∧ h 141 4 ≤ 1000 := hS.2.2.2.2.1
  have R8 : h 141 8 = (if h 141 4 < 10 then h 141 4 else 10) := hS.2.2.2.2.2.1
  have R7 : 0 ≤ h 141 7 ∧ h 141 7 ≤ 30 := hS.2.2.2.2.2.2.1
  have N9 : 0 ≤ h 141 9 ∧ h 141 9 ≤ 8 := hS.2.2.2.1.2.2.2.2.2.2.1
  have B0 : 4 ≤ h 141 0 ∧ h 141 0 ≤ 30 := hS.2.2.2.1.1.1
  have B1 : 4 ≤ h 141 1 ∧ h 141 1 ≤ 30 := hS.2.2.2.1.1.2.1
  have B5 : 0 ≤ h 141 5 ∧ h 141 5 ≤ 7 := hS.2.2.2.1.1.2.2.1
  have B6 : 0 ≤ h 141 6 ∧ h 141 6 ≤ 9 := hS.2.2.2.1.1.2.2.2
  have sO : ∀ i, 0 ≤ i → i < h 141 3 → shOk h i := fun i a b => (hS.2.2.2.1.2.1 i a b).1
  have sF : ∀ i, 0 ≤ i → i < h 141 3 → 0 ≤ h 141 (46 + 25 * i + 0) := fun i a b => (hS.2.1 i a b).1.1
  have sH : ∀ i, 0 ≤ i → i < h 141 3 → -100000 ≤ h 141 (46 + 25 * i + 4) ∧ h 141 (46 + 25 * i + 4) ≤ 100000 := fun i a b => by
    have q := (hS.2.2.2.1.2.2.2.1 i a b).1
    omega
  have lO : lgOk h := ⟨by omega, by rw [R8]; split <;> omega⟩
  refine wL_order (fun K' hK => cx_order hS (fun q => hK _ _ _ ⟨rfl, 1, List.mem_cons_self, kk 1 0 h (fun z => absurd z (by decide)) (fun K2 k2 => ?_)⟩) (fun q1 q2 => hK _ _ _ ⟨rfl, rfl, trivial, kk 0 _ _ (fun _ => up_at _ _ _ _) (fun K2 k2 => ?_)⟩))
  · exact ac_order N3 (fun _ => k2 _ _ (up_at _ _ _ _) (fun z => absurd z (by decide)) rfl (LI_e hL)) (fun z1 z2 => absurd ⟨z1, z2⟩ q)
  · exact ac_order N3 (fun z => absurd ⟨q1, q2⟩ z) (fun _ _ => k2 _ _ (up_at _ _ _ _) (fun _ => rfl) rfl (LI_e (LI_o hL)))
theorem ag_shift {p0 p1 : Int} {h : AH} {K : AO → Nat → AH → Prop} (hL : LI h) (kk : ∀ k v h1, (k = 0 → h1 157 0 = v) → AGK mX9_shift 2 [(2, 140), (0, p0), (0, p1)] h1 k v → K (.inl (some (0, k))) 159 h1) : AC mL_shift 7 1 6 159 [(2, 0), (0, p0), (0, p1), (2, 157)] h K := by
  have hS := hL.1
  have N3 : 0 ≤ h 141 3 ∧ h 141 3 ≤ 12 := hS.2.2.2.1.2.2.1
  have N2 : 0 ≤ h 141 2 ∧ h 141 2 ≤ 4 := hS.2.2.2.1.2.2.2.2.1
  have R4 : 0 ≤ h 141 4 ∧ h 141 4 ≤ 1000 := hS.2.2.2.2.1
  have R8 : h 141 8 = (if h 141 4 < 10 then h 141 4 else 10) := hS.2.2.2.2.2.1
  have R7 : 0 ≤ h 141 7 ∧ h 141 7 ≤ 30 := hS.2.2.2.2.2.2.1
  have N9 : 0 ≤ h 141 9 ∧ h 141 9 ≤ 8 := hS.2.2.2.1.2.2.2.2.2.2.1
  have B0 : 4 ≤ h 141 0 ∧ h 141 0 ≤ 30 := hS.2.2.2.1.1.1
  have B1 : 4 ≤ h 141 1 ∧ h 141 1 ≤ 30 := hS.2.2.2.1.1.2.1
  have B5 : 0 ≤ h 141 5 ∧ h 141 5 ≤ 7 := hS.2.2.2.1.1.2.2.1
  have B6 : 0 ≤ h 141 6 ∧ h 141 6 ≤ 9 := hS.2.2.2.1.1.2.2.2
  have sO : ∀ i, 0 ≤ i → i < h 141 3 → shOk h i := fun i a b => (hS.2.2.2.1.2.1 i a b).1
  have sF : ∀ i, 0 ≤ i → i < h 141 3 → 0 ≤ h 141 (46 + 25 * i + 0) := fun i a b => (hS.2.1 i a b).1.1
  have sH : ∀ i, 0 ≤ i → i < h 141 3 → -100000 ≤ h 141 (46 + 25 * i + 4) ∧ h 141 (46 + 25 * i + 4) ≤ 100000 := fun i a b => by
    have q := (hS.2.2.2.1.2.2.2.1 i a b).1
    omega
  have lO : lgOk h := ⟨by omega, by rw [R8]; split <;> omega⟩
  refine wL_shift (fun K' hK => cx_shift hS (fun q => hK _ _ _ ⟨rfl, 1, List.mem_cons_self, kk 1 0 h (fun z => absurd z (by decide)) (fun K2 k2 => ?_)⟩) (fun q1 q2 x qx => hK _ _ _ ⟨rfl, rfl, trivial, kk 0 _ _ (fun _ => up_at _ _ _ _) (fun K2 k2 => ?_)⟩))
  · exact ac_shift N9 (fun _ => k2 _ _ (up_at _ _ _ _) (fun z => absurd z (by decide)) rfl (LI_e hL)) (fun z1 z2 y zx => absurd ⟨z1, z2⟩ q)
  · exact ac_shift N9 (fun z => absurd ⟨q1, q2⟩ z) (fun _ _ y zx => k2 _ _ (up_at _ _ _ _) (fun _ => by rw [show _ = x from isFst_one (fun _ _ _ => Iff.rfl) zx qx]; rfl) rfl (LI_e (LI_o hL)))
theorem ag_sealOf {p0 p1 : Int} {h : AH} {K : AO → Nat → AH → Prop} (hL : LI h) (kk : ∀ k v h1, (k = 0 → h1 157 0 = v) → AGK mX9_sealOf 4 [(2, 140), (0, p0), (0, p1)] h1 k v → K (.inl (some (0, k))) 159 h1) : AC mL_sealOf 8 1 6 159 [(2, 0), (0, p0), (0, p1), (2, 157)] h K := by
  have hS := hL.1
  have N3 : 0 ≤ h 141 3 ∧ h 141 3 ≤ 12 := hS.2.2.2.1.2.2.1
  have N2 : 0 ≤ h 141 2 ∧ h 141 2 ≤ 4 := hS.2.2.2.1.2.2.2.2.1
  have R4 : 0 ≤ h 141 4 ∧ h 141 4 ≤ 1000 := hS.2.2.2.2.1
  have R8 : h 141 8 = (if h 141 4 < 10 then h 141 4 else 10) := hS.2.2.2.2.2.1
  have R7 : 0 ≤ h 141 7 ∧ h 141 7 ≤ 30 := hS.2.2.2.2.2.2.1
  have N9 : 0 ≤ h 141 9 ∧ h 141 9 ≤ 8 := hS.2.2.2.1.2.2.2.2.2.2.1
  have B0 : 4 ≤ h 141 0 ∧ h 141 0 ≤ 30 := hS.2.2.2.1.1.1
  have B1 : 4 ≤ h 141 1 ∧ h 141 1 ≤ 30 := hS.2.2.2.1.1.2.1
  have B5 : 0 ≤ h 141 5 ∧ h 141 5 ≤ 7 := hS.2.2.2.1.1.2.2.1
  have B6 : 0 ≤ h 141 6 ∧ h 141 6 ≤ 9 := hS.2.2.2.1.1.2.2.2
  have sO : ∀ i, 0 ≤ i → i < h 141 3 → shOk h i := fun i a b => (hS.2.2.2.1.2.1 i a b).1
  have sF : ∀ i, 0 ≤ i → i < h 141 3 → 0 ≤ h 141 (46 + 25 * i + 0) := fun i a b => (hS.2.1 i a b).1.1
  have sH : ∀ i, 0 ≤ i → i < h 141 3 → -100000 ≤ h 141 (46 + 25 * i + 4) ∧ h 141 (46 + 25 * i + 4) ≤ 100000 := fun i a b => by
    have q := (hS.2.2.2.1.2.2.2.1 i a b).1
    omega
  have lO : lgOk h := ⟨by omega, by rw [R8]; split <;> omega⟩
  refine wL_sealOf (fun K' hK => cx_sealOf hS (fun q => hK _ _ _ ⟨rfl, 1, List.mem_cons_self, kk 1 0 h (fun z => absurd z (by decide)) (fun K2 k2 => ?_)⟩) (fun q1 q2 => hK _ _ _ ⟨rfl, rfl, trivial, kk 0 _ _ (fun _ => up_at _ _ _ _) (fun K2 k2 => ?_)⟩))
  · exact ac_sealOf lO N2 (fun _ => k2 _ _ (up_at _ _ _ _) (fun z => absurd z (by decide)) rfl (LI_e hL)) (fun z1 z2 => absurd ⟨z1, z2⟩ q)
  · exact ac_sealOf lO N2 (fun z => absurd ⟨q1, q2⟩ z) (fun _ _ => k2 _ _ (up_at _ _ _ _) (fun _ => rfl) rfl (LI_e (LI_o hL)))
theorem ag_logged {p0 p1 p2 : Int} {h : AH} {K : AO → Nat → AH → Prop} (hL : LI h) (kk : ∀ k v h1, (k = 0 → h1 157 0 = v) → AGK mX9_logged 4 [(2, 140), (0, p0), (0, p1), (0, p2)] h1 k v → K (.inl (some (0, k))) 159 h1) : AC mL_logged 8 3 18 159 [(2, 0), (0, p0), (0, p1), (0, p2), (2, 157)] h K := by
  have hS := hL.1
  have N3 : 0 ≤ h 141 3 ∧ h 141 3 ≤ 12 := hS.2.2.2.1.2.2.1
  have N2 : 0 ≤ h 141 2 ∧ h 141 2 ≤ 4 := hS.2.2.2.1.2.2.2.2.1
  have R4 : 0 ≤ h 141 4 ∧ h 141 4 ≤ 1000 := hS.2.2.2.2.1
  have R8 : h 141 8 = (if h 141 4 < 10 then h 141 4 else 10) := hS.2.2.2.2.2.1
  have R7 : 0 ≤ h 141 7 ∧ h 141 7 ≤ 30 := hS.2.2.2.2.2.2.1
  have N9 : 0 ≤ h 141 9 ∧ h 141 9 ≤ 8 := hS.2.2.2.1.2.2.2.2.2.2.1
  have B0 : 4 ≤ h 141 0 ∧ h 141 0 ≤ 30 := hS.2.2.2.1.1.1
  have B1 : 4 ≤ h 141 1 ∧ h 141 1 ≤ 30 := hS.2.2.2.1.1.2.1
  have B5 : 0 ≤ h 141 5 ∧ h 141 5 ≤ 7 := hS.2.2.2.1.1.2.2.1
  have B6 : 0 ≤ h 141 6 ∧ h 141 6 ≤ 9 := hS.2.2.2.1.1.2.2.2
  have sO : ∀ i, 0 ≤ i → i < h 141 3 → shOk h i := fun i a b => (hS.2.2.2.1.2.1 i a b).1
  have sF : ∀ i, 0 ≤ i → i < h 141 3 → 0 ≤ h 141 (46 + 25 * i + 0) := fun i a b => (hS.2.1 i a b).1.1
  have sH : ∀ i, 0 ≤ i → i < h 141 3 → -100000 ≤ h 141 (46 + 25 * i + 4) ∧ h 141 (46 + 25 * i + 4) ≤ 100000 := fun i a b => by
    have q := (hS.2.2.2.1.2.2.2.1 i a b).1
    omega
  have lO : lgOk h := ⟨by omega, by rw [R8]; split <;> omega⟩
  refine wL_logged (fun K' hK => cx_logged hS (fun q => hK _ _ _ ⟨rfl, 1, List.mem_cons_self, kk 1 0 h (fun z => absurd z (by decide)) (fun K2 k2 => ?_)⟩) (fun q1 q2 q3 => hK _ _ _ ⟨rfl, rfl, trivial, kk 0 _ _ (fun _ => up_at _ _ _ _) (fun K2 k2 => ?_)⟩))
  · exact ac_logged N3 lO (fun _ => k2 _ _ (up_at _ _ _ _) (fun z => absurd z (by decide)) rfl (LI_e hL)) (fun z1 z2 z3 => absurd ⟨z1, z2, z3⟩ q)
  · exact ac_logged N3 lO (fun z => absurd ⟨q1, q2, q3⟩ z) (fun _ _ _ => k2 _ _ (up_at _ _ _ _) (fun _ => rfl) rfl (LI_e (LI_o hL)))
theorem ag_count {p0 : Int} {h : AH} {K : AO → Nat → AH → Prop} (hL : LI h) (kk : ∀ k v h1, (k = 0 → h1 157 0 = v) → AGK mX9_count 4 [(2, 140), (0, p0)] h1 k v → K (.inl (some (0, k))) 159 h1) : AC mL_count 7 1 6 159 [(2, 0), (0, p0), (2, 157)] h K := by
  have hS := hL.1
  have N3 : 0 ≤ h 141 3 ∧ h 141 3 ≤ 12 := hS.2.2.2.1.2.2.1
  have N2 : 0 ≤ h 141 2 ∧ h 141 2 ≤ 4 := hS.2.2.2.1.2.2.2.2.1
  have R4 : 0 ≤ h 141 4 ∧ h 141 4 ≤ 1000 := hS.2.2.2.2.1
  have R8 : h 141 8 = (if h 141 4 < 10 then h 141 4 else 10) := hS.2.2.2.2.2.1
  have R7 : 0 ≤ h 141 7 ∧ h 141 7 ≤ 30 := hS.2.2.2.2.2.2.1
  have N9 : 0 ≤ h 141 9 ∧ h 141 9 ≤ 8 := hS.2.2.2.1.2.2.2.2.2.2.1
  have B0 : 4 ≤ h 141 0 ∧ h 141 0 ≤ 30 := hS.2.2.2.1.1.1
  have B1 : 4 ≤ h 141 1 ∧ h 141 1 ≤ 30 := hS.2.2.2.1.1.2.1
  have B5 : 0 ≤ h 141 5 ∧ h 141 5 ≤ 7 := hS.2.2.2.1.1.2.2.1
  have B6 : 0 ≤ h 141 6 ∧ h 141 6 ≤ 9 := hS.2.2.2.1.1.2.2.2
  have sO : ∀ i, 0 ≤ i → i < h 141 3 → shOk h i := fun i a b => (hS.2.2.2.1.2.1 i a b).1
  have sF : ∀ i, 0 ≤ i → i < h 141 3 → 0 ≤ h 141 (46 + 25 * i + 0) := fun i a b => (hS.2.1 i a b).1.1
  have sH : ∀ i, 0 ≤ i → i < h 141 3 → -100000 ≤ h 141 (46 + 25 * i + 4) ∧ h 141 (46 + 25 * i + 4) ≤ 100000 := fun i a b => by
    have q := (hS.2.2.2.1.2.2.2.1 i a b).1
    omega
  have lO : lgOk h := ⟨by omega, by rw [R8]; split <;> omega⟩
  refine wL_count (fun K' hK => cx_count hS (fun q => hK _ _ _ ⟨rfl, 1, List.mem_cons_self, kk 1 0 h (fun z => absurd z (by decide)) (fun K2 k2 => ?_)⟩) (fun q => hK _ _ _ ⟨rfl, rfl, trivial, kk 0 _ _ (fun _ => up_at _ _ _ _) (fun K2 k2 => ?_)⟩) (fun q => hK _ _ _ ⟨rfl, rfl, trivial, kk 0 _ _ (fun _ => up_at _ _ _ _) (fun K2 k2 => ?_)⟩) (fun q r qr => hK _ _ _ ⟨rfl, rfl, trivial, kk 0 _ _ (fun _ => up_at _ _ _ _) (fun K2 k2 => ?_)⟩))
  · exact ac_count N3 sF (fun _ => k2 _ _ (up_at _ _ _ _) (fun z => absurd z (by decide)) rfl (LI_e hL)) (fun z => absurd q (by omega)) (fun z => absurd q (by omega)) (fun z _ _ => absurd q (by omega))
  · exact ac_count N3 sF (fun z => absurd z (by omega)) (fun _ => k2 _ _ (up_at _ _ _ _) (fun _ => rfl) rfl (LI_e (LI_o hL))) (fun z => by omega) (fun z _ _ => by omega)
  · exact ac_count N3 sF (fun z => absurd z (by omega)) (fun z => by omega) (fun _ => k2 _ _ (up_at _ _ _ _) (fun _ => rfl) rfl (LI_e (LI_o hL))) (fun z _ _ => by omega)
  · exact ac_count N3 sF (fun z => absurd z (by omega)) (fun z => by omega) (fun z => by omega) (fun _ y zy => k2 _ _ (up_at _ _ _ _) (fun _ => isOnly_u (g := h) zy qr sF) rfl (LI_e (LI_o hL)))
theorem ag_sees {p0 p1 : Int} {h : AH} {K : AO → Nat → AH → Prop} (hL : LI h) (kk : ∀ k v h1, (k = 0 → h1 157 0 = v ∧ (v = 0 ∨ v = 1)) → AGK mX9_sees 4 [(2, 140), (0, p0), (0, p1)] h1 k v → K (.inl (some (0, k))) 159 h1) : AC mL_sees 8 2 12 159 [(2, 0), (0, p0), (0, p1), (2, 157)] h K := by
  have hS := hL.1
  have N3 : 0 ≤ h 141 3 ∧ h 141 3 ≤ 12 := hS.2.2.2.1.2.2.1
  have N2 : 0 ≤ h 141 2 ∧ h 141 2 ≤ 4 := hS.2.2.2.1.2.2.2.2.1
  have R4 : 0 ≤ h 141 4 ∧ h 141 4 ≤ 1000 := hS.2.2.2.2.1
  have R8 : h 141 8 = (if h 141 4 < 10 then h 141 4 else 10) := hS.2.2.2.2.2.1
  have R7 : 0 ≤ h 141 7 ∧ h 141 7 ≤ 30 := hS.2.2.2.2.2.2.1
  have N9 : 0 ≤ h 141 9 ∧ h 141 9 ≤ 8 := hS.2.2.2.1.2.2.2.2.2.2.1
  have B0 : 4 ≤ h 141 0 ∧ h 141 0 ≤ 30 := hS.2.2.2.1.1.1
  have B1 : 4 ≤ h 141 1 ∧ h 141 1 ≤ 30 := hS.2.2.2.1.1.2.1
  have B5 : 0 ≤ h 141 5 ∧ h 141 5 ≤ 7 := hS.2.2.2.1.1.2.2.1
  have B6 : 0 ≤ h 141 6 ∧ h 141 6 ≤ 9 := hS.2.2.2.1.1.2.2.2
  have sO : ∀ i, 0 ≤ i → i < h 141 3 → shOk h i := fun i a b => (hS.2.2.2.1.2.1 i a b).1
  have sF : ∀ i, 0 ≤ i → i < h 141 3 → 0 ≤ h 141 (46 + 25 * i + 0) := fun i a b => (hS.2.1 i a b).1.1
  have sH : ∀ i, 0 ≤ i → i < h 141 3 → -100000 ≤ h 141 (46 + 25 * i + 4) ∧ h 141 (46 + 25 * i + 4) ≤ 100000 := fun i a b => by
    have q := (hS.2.2.2.1.2.2.2.1 i a b).1
    omega
  have lO : lgOk h := ⟨by omega, by rw [R8]; split <;> omega⟩
  refine wL_sees (fun K' hK => cx_sees hS (fun q => hK _ _ _ ⟨rfl, 1, List.mem_cons_self, kk 1 0 h (fun z => absurd z (by decide)) (fun K2 k2 => ?_)⟩) (fun q1 q2 q3 => hK _ _ _ ⟨rfl, rfl, (Or.inr rfl), kk 0 _ _ (fun _ => ⟨up_at _ _ _ _, (Or.inr rfl)⟩) (fun K2 k2 => ?_)⟩) (fun q1 q2 q3 => hK _ _ _ ⟨rfl, rfl, (Or.inl rfl), kk 0 _ _ (fun _ => ⟨up_at _ _ _ _, (Or.inl rfl)⟩) (fun K2 k2 => ?_)⟩))
  · exact ac_sees N3 N2 (fun i a b => ⟨(sO i a b).1, (sO i a b).2.1⟩) (fun _ => k2 _ _ (up_at _ _ _ _) (fun z => absurd z (by decide)) rfl (LI_e hL)) (fun z1 z2 _ => absurd ⟨z1, z2⟩ q) (fun z1 z2 _ => absurd ⟨z1, z2⟩ q)
  · exact ac_sees N3 N2 (fun i a b => ⟨(sO i a b).1, (sO i a b).2.1⟩) (fun z => absurd ⟨q1, q2⟩ z) (fun _ _ _ => k2 _ _ (up_at _ _ _ _) (fun _ => rfl) rfl (LI_e (LI_o hL))) (fun _ _ z => absurd q3 z)
  · exact ac_sees N3 N2 (fun i a b => ⟨(sO i a b).1, (sO i a b).2.1⟩) (fun z => absurd ⟨q1, q2⟩ z) (fun _ _ z => absurd z q3) (fun _ _ _ => k2 _ _ (up_at _ _ _ _) (fun _ => rfl) rfl (LI_e (LI_o hL)))
theorem chP_eq {h g : AH} {fr f i : Int} (E : g 141 = h 141) : ∀ (p : Nat) (s : Int), chP g fr f i p s = chP h fr f i p s
  | 0, _ => rfl
  | p + 1, s => by
    show chS g fr f i p (chP g fr f i p s) = chS h fr f i p (chP h fr f i p s)
    rw [chP_eq E p s]
    unfold chS
    rw [E]
theorem chN_eq {h g : AH} {fr f s : Int} (E : g 141 = h 141) : ∀ i : Nat, chN g fr f i s = chN h fr f i s
  | 0 => rfl
  | i + 1 => by
    show chP g fr f i 6 (chN g fr f i s) = chP h fr f i 6 (chN h fr f i s)
    rw [chN_eq E i, chP_eq E]
theorem ag_check {p0 p1 p2 : Int} {h : AH} {K : AO → Nat → AH → Prop} (hL : LI h) (kk : ∀ k v h1, (k = 0 → h1 157 0 = v ∧ (v = 0 ∨ v = 1)) → AGK mX9_check 4 [(2, 140), (0, p0), (0, p1), (0, p2)] h1 k v → K (.inl (some (0, k))) 159 h1) : AC mL_check 8 2 12 159 [(2, 0), (0, p0), (0, p1), (0, p2), (2, 157)] h K := by
  have hS := hL.1
  have N3 : 0 ≤ h 141 3 ∧ h 141 3 ≤ 12 := hS.2.2.2.1.2.2.1
  have N2 : 0 ≤ h 141 2 ∧ h 141 2 ≤ 4 := hS.2.2.2.1.2.2.2.2.1
  have R4 : 0 ≤ h 141 4 ∧ h 141 4 ≤ 1000 := hS.2.2.2.2.1
  have R8 : h 141 8 = (if h 141 4 < 10 then h 141 4 else 10) := hS.2.2.2.2.2.1
  have R7 : 0 ≤ h 141 7 ∧ h 141 7 ≤ 30 := hS.2.2.2.2.2.2.1
  have N9 : 0 ≤ h 141 9 ∧ h 141 9 ≤ 8 := hS.2.2.2.1.2.2.2.2.2.2.1
  have B0 : 4 ≤ h 141 0 ∧ h 141 0 ≤ 30 := hS.2.2.2.1.1.1
  have B1 : 4 ≤ h 141 1 ∧ h 141 1 ≤ 30 := hS.2.2.2.1.1.2.1
  have B5 : 0 ≤ h 141 5 ∧ h 141 5 ≤ 7 := hS.2.2.2.1.1.2.2.1
  have B6 : 0 ≤ h 141 6 ∧ h 141 6 ≤ 9 := hS.2.2.2.1.1.2.2.2
  have sO : ∀ i, 0 ≤ i → i < h 141 3 → shOk h i := fun i a b => (hS.2.2.2.1.2.1 i a b).1
  have sF : ∀ i, 0 ≤ i → i < h 141 3 → 0 ≤ h 141 (46 + 25 * i + 0) := fun i a b => (hS.2.1 i a b).1.1
  have sH : ∀ i, 0 ≤ i → i < h 141 3 → -100000 ≤ h 141 (46 + 25 * i + 4) ∧ h 141 (46 + 25 * i + 4) ≤ 100000 := fun i a b => by
    have q := (hS.2.2.2.1.2.2.2.1 i a b).1
    omega
  have lO : lgOk h := ⟨by omega, by rw [R8]; split <;> omega⟩
  refine wL_check (fun K' hK => cx_check hS (fun q => hK _ _ _ ⟨rfl, 1, List.mem_cons_self, kk 1 0 h (fun z => absurd z (by decide)) (fun K2 k2 => ?_)⟩) (fun q1 q2 q3 => hK _ _ _ ⟨rfl, rfl, (Or.inl rfl), kk 0 _ _ (fun _ => ⟨up_at _ _ _ _, (Or.inl rfl)⟩) (fun K2 k2 => ?_)⟩) (fun q1 q2 q3 q4 => hK _ _ _ ⟨rfl, rfl, (Or.inr rfl), kk 0 _ _ (fun _ => ⟨up_at _ _ _ _, (Or.inr rfl)⟩) (fun K2 k2 => ?_)⟩) (fun q1 q2 q3 q4 => hK _ _ _ ⟨rfl, rfl, (Or.inl rfl), kk 0 _ _ (fun _ => ⟨up_at _ _ _ _, (Or.inl rfl)⟩) (fun K2 k2 => ?_)⟩))
  · exact ac_check N3 N2 lO (fun i p t i0 i1 p0 p1 => ((hS.2.2.2.2.2.2.2.2.2 _ t).1 i p i0 i1 p0 p1).1) (fun _ => k2 _ _ (up_at _ _ _ _) (fun z => absurd z (by decide)) rfl (LI_e hL)) (fun z1 z2 _ => absurd ⟨z1, z2⟩ q) (fun z1 z2 _ _ => absurd ⟨z1, z2⟩ q) (fun z1 z2 _ _ => absurd ⟨z1, z2⟩ q)
  · exact ac_check N3 N2 lO (fun i p t i0 i1 p0 p1 => ((hS.2.2.2.2.2.2.2.2.2 _ t).1 i p i0 i1 p0 p1).1) (fun z => absurd ⟨q1, q2⟩ z) (fun _ _ _ => k2 _ _ (up_at _ _ _ _) (fun _ => rfl) rfl (LI_e (LI_o hL))) (fun _ _ z _ => absurd z q3) (fun _ _ z _ => absurd z q3)
  · exact ac_check N3 N2 lO (fun i p t i0 i1 p0 p1 => ((hS.2.2.2.2.2.2.2.2.2 _ t).1 i p i0 i1 p0 p1).1) (fun z => absurd ⟨q1, q2⟩ z) (fun _ _ z => absurd q3 z) (fun _ _ _ _ => k2 _ _ (up_at _ _ _ _) (fun _ => rfl) rfl (LI_e (LI_o hL))) (fun _ _ _ z => absurd q4 (by have z2 : ¬ h 141 (logA h p0 + p1) = chN (up (up h 157 0 1) 140 7 0) (logA h p0) p1 (h 141 3).toNat p2 := z; rw [chN_eq (h := h) (g := up (up h 157 0 1) 140 7 0) rfl] at z2; exact z2))
  · exact ac_check N3 N2 lO (fun i p t i0 i1 p0 p1 => ((hS.2.2.2.2.2.2.2.2.2 _ t).1 i p i0 i1 p0 p1).1) (fun z => absurd ⟨q1, q2⟩ z) (fun _ _ z => absurd q3 z) (fun _ _ _ z => absurd (by have z2 :  h 141 (logA h p0 + p1) = chN (up (up h 157 0 0) 140 7 0) (logA h p0) p1 (h 141 3).toNat p2 := z; rw [chN_eq (h := h) (g := up (up h 157 0 0) 140 7 0) rfl] at z2; exact z2) q4) (fun _ _ _ _ => k2 _ _ (up_at _ _ _ _) (fun _ => rfl) rfl (LI_e (LI_o hL)))
theorem ag_writtenByte {p0 : Int} {h : AH} {K : AO → Nat → AH → Prop} (hL : LI h) (kk : ∀ k v h1, (k = 0 → h1 157 0 = v) → AGK mX9_writtenByte 2 [(2, 140), (0, p0)] h1 k v → K (.inl (some (0, k))) 159 h1) : AC mL_writtenByte 7 1 6 159 [(2, 0), (0, p0), (2, 157)] h K := by
  obtain ⟨w1, w2, w3⟩ := hL.2.2.2.2.2.2
  refine wL_writtenByte (fun K' hK => cx_writtenByte (by omega) (fun q => hK _ _ _ ⟨rfl, 1, List.mem_cons_self, kk 1 0 h (fun z => absurd z (by decide)) (fun K2 k2 => ?_)⟩) (fun q => hK _ _ _ ⟨rfl, rfl, trivial, kk 0 _ _ (fun _ => up_at _ _ _ _) (fun K2 k2 => ?_)⟩))
  · exact ac_writtenByte (by omega) (fun _ => k2 _ _ (up_at _ _ _ _) (fun z => absurd z (by decide)) rfl (LI_e hL)) (fun z => absurd z (by omega))
  · have e : up h 157 0 (h 139 p0) 140 27 = h 140 27 := rfl
    show AC mX9_writtenByte 2 0 0 159 [(2, 140), (0, p0)] (up h 157 0 (h 139 p0)) K2
    exact ac_writtenByte (by omega) (fun z => absurd z (by omega)) (fun z => k2 _ _ (up_at _ _ _ _) (fun _ => (w3 p0 q.1 (by omega)).symm) rfl (LI_e (LI_o hL)))
