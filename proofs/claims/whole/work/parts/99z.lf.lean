/-! class and model agree: questions by a draft -/
theorem up_row9 {h g : AH} {a l : Int} (E : g 141 = h 141) : up g 141 a l 141 = up h 141 a l 141 := by
  funext x
  unfold up
  by_cases z : x = a
  · rw [if_pos ⟨rfl, z⟩, if_pos ⟨rfl, z⟩]
  · rw [if_neg (fun q => z q.2), if_neg (fun q => z q.2), E]
theorem DrF_row {h g : AH} (d : DrF h g) : g 141 = h 141 := by
  funext x
  exact d 141 x (by omega)
theorem ag_after {p0 p1 : Int} {h : AH} {K : AO → Nat → AH → Prop} (hL : LI h) (kk : ∀ k v h1, (k = 0 → h1 157 0 = v) → AGK mX9_after 9 [(2, 140), (0, p0), (0, p1)] h1 k v → K (.inl (some (0, k))) 159 h1) : AC mL_after 8 2 12 159 [(2, 0), (0, p0), (0, p1), (2, 157)] h K := by
  have hS := hL.1
  have N3 : 0 ≤ h 141 3 ∧ h 141 3 ≤ 12 := hS.2.2.2.1.2.2.1
  have N2 : 0 ≤ h 141 2 ∧ h 141 2 ≤ 4 := hS.2.2.2.1.2.2.2.2.1
  have R4 : 0 ≤ h 141 4 ∧ h 141 4 ≤ 1000 := hS.2.2.2.2.1
  have R8 : h 141 8 = (if h 141 4 < 10 then h 141 4 else 10) := hS.2.2.2.2.2.1
  have R7 : 0 ≤ h 141 7 ∧ h 141 7 ≤ 30 := hS.2.2.2.2.2.2.1
  have N9 : 0 ≤ h 141 9 ∧ h 141 9 ≤ 8 := hS.2.2.2.1.2.2.2.2.2.2.1
  have B0 : 4 ≤ h 141 0 ∧ h 141 0 ≤ 30 := hS.2.2.2.1.1.1
  have B1 : 4 ≤ h 141 1 ∧ h 141 1 ≤ 30 := hS.2.2.2.1.1.2.1
  have B5 : 0 ≤ h 141 5 ∧ h 141 5 ≤ 7 := hS.2.2.2.1.1.2.2.1
  have B6 : 0 ≤ h 141 6 ∧ h 141 6 ≤ 9 := hS.2.2.2.1.1.2.2.2
  have sO : ∀ i, 0 ≤ i → i < h 141 3 → shOk h i := fun i a b => (hS.2.2.2.1.2.1 i a b).1
  have sF : ∀ i, 0 ≤ i → i < h 141 3 → 0 ≤ h 141 (46 + 25 * i + 0) := fun i a b => (hS.2.1 i a b).1.1
  have sH : ∀ i, 0 ≤ i → i < h 141 3 → -100000 ≤ h 141 (46 + 25 * i + 4) ∧ h 141 (46 + 25 * i + 4) ≤ 100000 := fun i a b => by
    have q := (hS.2.2.2.1.2.2.2.1 i a b).1
    omega
  have lO : lgOk h := ⟨by omega, by rw [R8]; split <;> omega⟩
  have hT := hS.2.2.2.1
  refine wL_after (fun K' hK => cx_after hS (fun q => hK _ _ _ ⟨rfl, 1, List.mem_cons_self, kk 1 0 h (fun z => absurd z (by decide)) (fun K2 k2 => ?_)⟩) (fun q1 q2 => hK _ _ _ ⟨rfl, 2, (List.mem_cons_of_mem _ List.mem_cons_self), kk 2 0 h (fun z => absurd z (by decide)) (fun K2 k2 => ?_)⟩) (fun q1 q2 h' v d Q => hK _ _ _ ⟨rfl, rfl, trivial, kk 0 _ _ (fun _ => up_at _ _ _ _) (fun K2 k2 => ?_)⟩))
  · exact ac_after hT (fun _ => k2 _ _ (up_at _ _ _ _) (fun z => absurd z (by decide)) rfl (LI_e hL)) (fun z _ => absurd z q) (fun z _ _ _ _ _ => absurd z q)
  · exact ac_after hT (fun z => absurd q1 z) (fun _ _ => k2 _ _ (up_at _ _ _ _) (fun z => absurd z (by decide)) rfl (LI_e hL)) (fun _ z _ _ _ _ => absurd z q2)
  · show AC mX9_after 9 0 0 159 [(2, 140), (0, p0), (0, p1)] (up h' 157 0 v) K2
    have E : up h' 157 0 v 141 = h 141 := by
      funext x
      rw [up_ne (by omega)]
      exact d 141 x (by omega)
    have E3 : up h' 157 0 v 141 3 = h 141 3 := by rw [E]
    have E2 : up h' 157 0 v 141 2 = h 141 2 := by rw [E]
    refine ac_after (tOk_eq E hT) (fun z => absurd z (by omega)) (fun _ z => absurd z (by omega)) (fun _ _ g' h2 z3 T => k2 _ _ (by rw [T.2 7 (by decide)]; exact up_at _ _ _ _) (fun _ => (Q g' (by rw [E] at z3; exact z3)).symm) (T.1 157 0 (by decide) (by decide) (by omega) (by omega)) (LI_t (LI_e (LI_o (LI_d hL d))) T))
theorem ag_meet {p0 p1 : Int} {h : AH} {K : AO → Nat → AH → Prop} (hL : LI h) (kk : ∀ k v h1, (k = 0 → h1 157 0 = v) → AGK mX9_meet 9 [(2, 140), (0, p0), (0, p1)] h1 k v → K (.inl (some (0, k))) 159 h1) : AC mL_meet 8 2 12 159 [(2, 0), (0, p0), (0, p1), (2, 157)] h K := by
  have hS := hL.1
  have N3 : 0 ≤ h 141 3 ∧ h 141 3 ≤ 12 := hS.2.2.2.1.2.2.1
  have N2 : 0 ≤ h 141 2 ∧ h 141 2 ≤ 4 := hS.2.2.2.1.2.2.2.2.1
  have R4 : 0 ≤ h 141 4 ∧ h 141 4 ≤ 1000 := hS.2.2.2.2.1
  have R8 : h 141 8 = (if h 141 4 < 10 then h 141 4 else 10) := hS.2.2.2.2.2.1
  have R7 : 0 ≤ h 141 7 ∧ h 141 7 ≤ 30 := hS.2.2.2.2.2.2.1
  have N9 : 0 ≤ h 141 9 ∧ h 141 9 ≤ 8 := hS.2.2.2.1.2.2.2.2.2.2.1
  have B0 : 4 ≤ h 141 0 ∧ h 141 0 ≤ 30 := hS.2.2.2.1.1.1
  have B1 : 4 ≤ h 141 1 ∧ h 141 1 ≤ 30 := hS.2.2.2.1.1.2.1
  have B5 : 0 ≤ h 141 5 ∧ h 141 5 ≤ 7 := hS.2.2.2.1.1.2.2.1
  have B6 : 0 ≤ h 141 6 ∧ h 141 6 ≤ 9 := hS.2.2.2.1.1.2.2.2
  have sO : ∀ i, 0 ≤ i → i < h 141 3 → shOk h i := fun i a b => (hS.2.2.2.1.2.1 i a b).1
  have sF : ∀ i, 0 ≤ i → i < h 141 3 → 0 ≤ h 141 (46 + 25 * i + 0) := fun i a b => (hS.2.1 i a b).1.1
  have sH : ∀ i, 0 ≤ i → i < h 141 3 → -100000 ≤ h 141 (46 + 25 * i + 4) ∧ h 141 (46 + 25 * i + 4) ≤ 100000 := fun i a b => by
    have q := (hS.2.2.2.1.2.2.2.1 i a b).1
    omega
  have lO : lgOk h := ⟨by omega, by rw [R8]; split <;> omega⟩
  have hT := hS.2.2.2.1
  refine wL_meet (fun K' hK => cx_meet hS (fun q => hK _ _ _ ⟨rfl, 1, List.mem_cons_self, kk 1 0 h (fun z => absurd z (by decide)) (fun K2 k2 => ?_)⟩) (fun q1 q2 h' v d Q => hK _ _ _ ⟨rfl, rfl, trivial, kk 0 _ _ (fun _ => up_at _ _ _ _) (fun K2 k2 => ?_)⟩))
  · exact ac_meet hT (fun _ => k2 _ _ (up_at _ _ _ _) (fun z => absurd z (by decide)) rfl (LI_e hL)) (fun z1 z2 _ _ _ _ => absurd ⟨z1, z2⟩ q)
  · show AC mX9_meet 9 0 0 159 [(2, 140), (0, p0), (0, p1)] (up h' 157 0 v) K2
    have E : up h' 157 0 v 141 = h 141 := by
      funext x
      rw [up_ne (by omega)]
      exact d 141 x (by omega)
    have E3 : up h' 157 0 v 141 3 = h 141 3 := by rw [E]
    have E2 : up h' 157 0 v 141 2 = h 141 2 := by rw [E]
    refine ac_meet (tOk_eq E hT) (fun z => absurd z (by omega)) (fun _ _ g' h2 z3 T => k2 _ _ (by rw [T.2 7 (by decide)]; exact up_at _ _ _ _) (fun _ => (Q g' (by rw [E] at z3; exact z3)).symm) (T.1 157 0 (by decide) (by decide) (by omega) (by omega)) (LI_t (LI_e (LI_o (LI_d hL d))) T))
theorem ag_course {p0 p1 : Int} {h : AH} {K : AO → Nat → AH → Prop} (hL : LI h) (kk : ∀ k v h1, (k = 0 → h1 157 0 = v) → AGK mX9_course 6 [(2, 140), (0, p0), (0, p1)] h1 k v → K (.inl (some (0, k))) 159 h1) : AC mL_course 8 2 12 159 [(2, 0), (0, p0), (0, p1), (2, 157)] h K := by
  have hS := hL.1
  have N3 : 0 ≤ h 141 3 ∧ h 141 3 ≤ 12 := hS.2.2.2.1.2.2.1
  have N2 : 0 ≤ h 141 2 ∧ h 141 2 ≤ 4 := hS.2.2.2.1.2.2.2.2.1
  have R4 : 0 ≤ h 141 4 ∧ h 141 4 ≤ 1000 := hS.2.2.2.2.1
  have R8 : h 141 8 = (if h 141 4 < 10 then h 141 4 else 10) := hS.2.2.2.2.2.1
  have R7 : 0 ≤ h 141 7 ∧ h 141 7 ≤ 30 := hS.2.2.2.2.2.2.1
  have N9 : 0 ≤ h 141 9 ∧ h 141 9 ≤ 8 := hS.2.2.2.1.2.2.2.2.2.2.1
  have B0 : 4 ≤ h 141 0 ∧ h 141 0 ≤ 30 := hS.2.2.2.1.1.1
  have B1 : 4 ≤ h 141 1 ∧ h 141 1 ≤ 30 := hS.2.2.2.1.1.2.1
  have B5 : 0 ≤ h 141 5 ∧ h 141 5 ≤ 7 := hS.2.2.2.1.1.2.2.1
  have B6 : 0 ≤ h 141 6 ∧ h 141 6 ≤ 9 := hS.2.2.2.1.1.2.2.2
  have sO : ∀ i, 0 ≤ i → i < h 141 3 → shOk h i := fun i a b => (hS.2.2.2.1.2.1 i a b).1
  have sF : ∀ i, 0 ≤ i → i < h 141 3 → 0 ≤ h 141 (46 + 25 * i + 0) := fun i a b => (hS.2.1 i a b).1.1
  have sH : ∀ i, 0 ≤ i → i < h 141 3 → -100000 ≤ h 141 (46 + 25 * i + 4) ∧ h 141 (46 + 25 * i + 4) ≤ 100000 := fun i a b => by
    have q := (hS.2.2.2.1.2.2.2.1 i a b).1
    omega
  have lO : lgOk h := ⟨by omega, by rw [R8]; split <;> omega⟩
  have hT := hS.2.2.2.1
  refine wL_course (fun K' hK => cx_course hS (fun q => hK _ _ _ ⟨rfl, 1, List.mem_cons_self, kk 1 0 h (fun z => absurd z (by decide)) (fun K2 k2 => ?_)⟩) (fun q1 q2 => hK _ _ _ ⟨rfl, 2, (List.mem_cons_of_mem _ List.mem_cons_self), kk 2 0 h (fun z => absurd z (by decide)) (fun K2 k2 => ?_)⟩) (fun q1 q2 h' v d Q => hK _ _ _ ⟨rfl, rfl, trivial, kk 0 _ _ (fun _ => up_at _ _ _ _) (fun K2 k2 => ?_)⟩))
  · exact ac_course hT (fun _ => k2 _ _ (up_at _ _ _ _) (fun z => absurd z (by decide)) rfl (LI_e hL)) (fun z _ => absurd z q) (fun z _ _ _ _ _ => absurd z q)
  · exact ac_course hT (fun z => absurd q1 z) (fun _ _ => k2 _ _ (up_at _ _ _ _) (fun z => absurd z (by decide)) rfl (LI_e hL)) (fun _ z _ _ _ _ => absurd z q2)
  · show AC mX9_course 6 0 0 159 [(2, 140), (0, p0), (0, p1)] (up h' 157 0 v) K2
    have E : up h' 157 0 v 141 = h 141 := by
      funext x
      rw [up_ne (by omega)]
      exact d 141 x (by omega)
    have E3 : up h' 157 0 v 141 3 = h 141 3 := by rw [E]
    have E2 : up h' 157 0 v 141 2 = h 141 2 := by rw [E]
    refine ac_course (tOk_eq E hT) (fun z => absurd q1 (by rw [E] at z; exact z)) (fun _ z => absurd z (by omega)) (fun _ _ g' h2 z3 T => k2 _ _ (by rw [T.2 7 (by decide)]; exact up_at _ _ _ _) (fun _ => (Q g' (by rw [E] at z3; exact z3)).symm) (T.1 157 0 (by decide) (by decide) (by omega) (by omega)) (LI_t (LI_e (LI_o (LI_d hL d))) T))
theorem ag_spares {p0 p1 : Int} {h : AH} {K : AO → Nat → AH → Prop} (hL : LI h) (kk : ∀ k v h1, (k = 0 → h1 157 0 = v) → AGK mX9_spares 9 [(2, 140), (0, p0), (0, p1)] h1 k v → K (.inl (some (0, k))) 159 h1) : AC mL_spares 8 2 12 159 [(2, 0), (0, p0), (0, p1), (2, 157)] h K := by
  have hS := hL.1
  have N3 : 0 ≤ h 141 3 ∧ h 141 3 ≤ 12 := hS.2.2.2.1.2.2.1
  have N2 : 0 ≤ h 141 2 ∧ h 141 2 ≤ 4 := hS.2.2.2.1.2.2.2.2.1
  have R4 : 0 ≤ h 141 4 ∧ h 141 4 ≤ 1000 := hS.2.2.2.2.1
  have R8 : h 141 8 = (if h 141 4 < 10 then h 141 4 else 10) := hS.2.2.2.2.2.1
  have R7 : 0 ≤ h 141 7 ∧ h 141 7 ≤ 30 := hS.2.2.2.2.2.2.1
  have N9 : 0 ≤ h 141 9 ∧ h 141 9 ≤ 8 := hS.2.2.2.1.2.2.2.2.2.2.1
  have B0 : 4 ≤ h 141 0 ∧ h 141 0 ≤ 30 := hS.2.2.2.1.1.1
  have B1 : 4 ≤ h 141 1 ∧ h 141 1 ≤ 30 := hS.2.2.2.1.1.2.1
  have B5 : 0 ≤ h 141 5 ∧ h 141 5 ≤ 7 := hS.2.2.2.1.1.2.2.1
  have B6 : 0 ≤ h 141 6 ∧ h 141 6 ≤ 9 := hS.2.2.2.1.1.2.2.2
  have sO : ∀ i, 0 ≤ i → i < h 141 3 → shOk h i := fun i a b => (hS.2.2.2.1.2.1 i a b).1
  have sF : ∀ i, 0 ≤ i → i < h 141 3 → 0 ≤ h 141 (46 + 25 * i + 0) := fun i a b => (hS.2.1 i a b).1.1
  have sH : ∀ i, 0 ≤ i → i < h 141 3 → -100000 ≤ h 141 (46 + 25 * i + 4) ∧ h 141 (46 + 25 * i + 4) ≤ 100000 := fun i a b => by
    have q := (hS.2.2.2.1.2.2.2.1 i a b).1
    omega
  have lO : lgOk h := ⟨by omega, by rw [R8]; split <;> omega⟩
  have hT := hS.2.2.2.1
  refine wL_spares (fun K' hK => cx_spares hS (fun q => hK _ _ _ ⟨rfl, 1, List.mem_cons_self, kk 1 0 h (fun z => absurd z (by decide)) (fun K2 k2 => ?_)⟩) (fun q1 q2 h' v d Q => hK _ _ _ ⟨rfl, rfl, trivial, kk 0 _ _ (fun _ => up_at _ _ _ _) (fun K2 k2 => ?_)⟩))
  · exact ac_spares hT (fun _ => k2 _ _ (up_at _ _ _ _) (fun z => absurd z (by decide)) rfl (LI_e hL)) (fun z1 z2 _ _ _ _ => absurd ⟨z1, z2⟩ q)
  · show AC mX9_spares 9 0 0 159 [(2, 140), (0, p0), (0, p1)] (up h' 157 0 v) K2
    have E : up h' 157 0 v 141 = h 141 := by
      funext x
      rw [up_ne (by omega)]
      exact d 141 x (by omega)
    have E3 : up h' 157 0 v 141 3 = h 141 3 := by rw [E]
    have E2 : up h' 157 0 v 141 2 = h 141 2 := by rw [E]
    refine ac_spares (tOk_eq E hT) (fun z => absurd z (by omega)) (fun _ _ F h2 z3 T => k2 _ _ (by rw [T.2 7 (by decide)]; exact up_at _ _ _ _) (fun _ => (Q F (fun l l0 l1 => by have z9 := z3 l l0 l1; rw [up_row9 E] at z9; exact z9)).symm) (T.1 157 0 (by decide) (by decide) (by omega) (by omega)) (LI_t (LI_e (LI_o (LI_d hL d))) T))
theorem ag_bestWind {p0 : Int} {h : AH} {K : AO → Nat → AH → Prop} (hL : LI h) (kk : ∀ k v h1, (k = 0 → h1 157 0 = v) → AGK mX9_bestWind 9 [(2, 140), (0, p0)] h1 k v → K (.inl (some (0, k))) 159 h1) : AC mL_bestWind 8 1 6 159 [(2, 0), (0, p0), (2, 157)] h K := by
  have hS := hL.1
  have N3 : 0 ≤ h 141 3 ∧ h 141 3 ≤ 12 := hS.2.2.2.1.2.2.1
  have N2 : 0 ≤ h 141 2 ∧ h 141 2 ≤ 4 := hS.2.2.2.1.2.2.2.2.1
  have R4 : 0 ≤ h 141 4 ∧ h 141 4 ≤ 1000 := hS.2.2.2.2.1
  have R8 : h 141 8 = (if h 141 4 < 10 then h 141 4 else 10) := hS.2.2.2.2.2.1
  have R7 : 0 ≤ h 141 7 ∧ h 141 7 ≤ 30 := hS.2.2.2.2.2.2.1
  have N9 : 0 ≤ h 141 9 ∧ h 141 9 ≤ 8 := hS.2.2.2.1.2.2.2.2.2.2.1
  have B0 : 4 ≤ h 141 0 ∧ h 141 0 ≤ 30 := hS.2.2.2.1.1.1
  have B1 : 4 ≤ h 141 1 ∧ h 141 1 ≤ 30 := hS.2.2.2.1.1.2.1
  have B5 : 0 ≤ h 141 5 ∧ h 141 5 ≤ 7 := hS.2.2.2.1.1.2.2.1
  have B6 : 0 ≤ h 141 6 ∧ h 141 6 ≤ 9 := hS.2.2.2.1.1.2.2.2
  have sO : ∀ i, 0 ≤ i → i < h 141 3 → shOk h i := fun i a b => (hS.2.2.2.1.2.1 i a b).1
  have sF : ∀ i, 0 ≤ i → i < h 141 3 → 0 ≤ h 141 (46 + 25 * i + 0) := fun i a b => (hS.2.1 i a b).1.1
  have sH : ∀ i, 0 ≤ i → i < h 141 3 → -100000 ≤ h 141 (46 + 25 * i + 4) ∧ h 141 (46 + 25 * i + 4) ≤ 100000 := fun i a b => by
    have q := (hS.2.2.2.1.2.2.2.1 i a b).1
    omega
  have lO : lgOk h := ⟨by omega, by rw [R8]; split <;> omega⟩
  have hT := hS.2.2.2.1
  refine wL_bestWind (fun K' hK => cx_bestWind hS (fun q => hK _ _ _ ⟨rfl, 1, List.mem_cons_self, kk 1 0 h (fun z => absurd z (by decide)) (fun K2 k2 => ?_)⟩) (fun q1 h' v d Q => hK _ _ _ ⟨rfl, rfl, trivial, kk 0 _ _ (fun _ => up_at _ _ _ _) (fun K2 k2 => ?_)⟩))
  · exact ac_bestWind hT (fun _ => k2 _ _ (up_at _ _ _ _) (fun z => absurd z (by decide)) rfl (LI_e hL)) (fun z1 _ _ _ _ => absurd z1 q)
  · show AC mX9_bestWind 9 0 0 159 [(2, 140), (0, p0)] (up h' 157 0 v) K2
    have E : up h' 157 0 v 141 = h 141 := by
      funext x
      rw [up_ne (by omega)]
      exact d 141 x (by omega)
    have E3 : up h' 157 0 v 141 3 = h 141 3 := by rw [E]
    have E2 : up h' 157 0 v 141 2 = h 141 2 := by rw [E]
    refine ac_bestWind (tOk_eq E hT) (fun z => absurd z (by omega)) (fun _ F h2 z3 T => k2 _ _ (by rw [T.2 7 (by decide)]; exact up_at _ _ _ _) (fun _ => by rw [E3]; exact (Q F (fun l l0 l1 => by have z9 := z3 l l0 l1; rw [up_row9 E] at z9; exact z9)).symm) (T.1 157 0 (by decide) (by decide) (by omega) (by omega)) (LI_t (LI_e (LI_o (LI_d hL d))) T))
theorem pc_okF : ∀ m : Fin 13, ∀ c : Fin 73, vf_n64 (FP.f2d (UInt32.ofNat (paceV (c.val : Int) (m.val : Int)).toNat)) ∧ f_dcmpl (f_f2d (paceV (c.val : Int) (m.val : Int))) (f_f2d (paceV (c.val : Int) (m.val : Int))) = 0 := by unfold vf_n64; decide
theorem pc_ok {c m : Int} (hc : 0 ≤ c ∧ c ≤ 72) (hm : 0 ≤ m ∧ m ≤ 12) : vf_n64 (FP.f2d (UInt32.ofNat (paceV c m).toNat)) ∧ f_dcmpl (f_f2d (paceV c m)) (f_f2d (paceV c m)) = 0 := by
  have h := pc_okF ⟨m.toNat, by omega⟩ ⟨c.toNat, by omega⟩
  dsimp only at h
  rwa [Int.toNat_of_nonneg hm.1, Int.toNat_of_nonneg hc.1] at h
def AGD (bs : List AV) (h1 : AH) (k v : Int) : Prop := ∀ K2 : AO → Nat → AH → Prop, (∀ b h2, h2 140 7 = k → (k = 0 → b = v) → h2 158 0 = h1 158 0 → LI h2 → K2 (.inl (some (3, b))) 159 h2) → AC mX9_pace 9 0 0 159 bs h1 K2
theorem ag_pace {p0 : Int} {h : AH} {K : AO → Nat → AH → Prop} (hL : LI h) (kk : ∀ k v h1, (k = 0 → h1 158 0 = f_f2d v ∧ vf_n64 (FP.f2d (UInt32.ofNat v.toNat)) ∧ f_dcmpl (f_f2d v) (f_f2d v) = 0) → AGD [(2, 140), (0, p0)] h1 k v → K (.inl (some (0, k))) 159 h1) : AC mL_pace 8 1 6 159 [(2, 0), (0, p0), (2, 158)] h K := by
  have hS := hL.1
  have N3 : 0 ≤ h 141 3 ∧ h 141 3 ≤ 12 := hS.2.2.2.1.2.2.1
  have N2 : 0 ≤ h 141 2 ∧ h 141 2 ≤ 4 := hS.2.2.2.1.2.2.2.2.1
  have R4 : 0 ≤ h 141 4 ∧ h 141 4 ≤ 1000 := hS.2.2.2.2.1
  have R8 : h 141 8 = (if h 141 4 < 10 then h 141 4 else 10) := hS.2.2.2.2.2.1
  have R7 : 0 ≤ h 141 7 ∧ h 141 7 ≤ 30 := hS.2.2.2.2.2.2.1
  have N9 : 0 ≤ h 141 9 ∧ h 141 9 ≤ 8 := hS.2.2.2.1.2.2.2.2.2.2.1
  have B0 : 4 ≤ h 141 0 ∧ h 141 0 ≤ 30 := hS.2.2.2.1.1.1
  have B1 : 4 ≤ h 141 1 ∧ h 141 1 ≤ 30 := hS.2.2.2.1.1.2.1
  have B5 : 0 ≤ h 141 5 ∧ h 141 5 ≤ 7 := hS.2.2.2.1.1.2.2.1
  have B6 : 0 ≤ h 141 6 ∧ h 141 6 ≤ 9 := hS.2.2.2.1.1.2.2.2
  have sO : ∀ i, 0 ≤ i → i < h 141 3 → shOk h i := fun i a b => (hS.2.2.2.1.2.1 i a b).1
  have sF : ∀ i, 0 ≤ i → i < h 141 3 → 0 ≤ h 141 (46 + 25 * i + 0) := fun i a b => (hS.2.1 i a b).1.1
  have sH : ∀ i, 0 ≤ i → i < h 141 3 → -100000 ≤ h 141 (46 + 25 * i + 4) ∧ h 141 (46 + 25 * i + 4) ≤ 100000 := fun i a b => by
    have q := (hS.2.2.2.1.2.2.2.1 i a b).1
    omega
  have lO : lgOk h := ⟨by omega, by rw [R8]; split <;> omega⟩
  have hT := hS.2.2.2.1
  refine wL_pace (fun K' hK => cx_pace hS (fun q => hK _ _ _ ⟨rfl, 1, List.mem_cons_self, kk 1 0 h (fun z => absurd z (by decide)) (fun K2 k2 => ?_)⟩) (fun q1 h' c m d hc hm Q => hK _ _ _ ⟨rfl, rfl, (pc_ok hc hm).1, kk 0 (paceV c m) _ (fun _ => ⟨up_at _ _ _ _, pc_ok hc hm⟩) (fun K2 k2 => ?_)⟩))
  · exact ac_pace hT (fun _ v => k2 _ _ (up_at _ _ _ _) (fun z => absurd z (by decide)) rfl (LI_e hL)) (fun z _ _ _ _ => absurd z q)
  · obtain ⟨h1, E1⟩ : ∃ h1 : AH, h1 = up h' 158 0 (f_f2d (paceV c m)) := ⟨_, rfl⟩
    have E : h1 141 = h 141 := by rw [E1]; funext x; rw [up_ne (by omega)]; exact d 141 x (by omega)
    have E3 : h1 141 3 = h 141 3 := by rw [E]
    have E2 : h1 141 2 = h 141 2 := by rw [E]
    have l1 : LI h1 := by rw [E1]; exact LI_o2 (LI_d hL d)
    rw [← E1] at k2
    show AC _ _ _ _ _ _ (up h' 158 0 (f_f2d (paceV c m))) _
    rw [← E1]
    refine ac_pace (tOk_eq E hT) (fun z v => absurd z (by omega)) (fun _ g' h2 z3 T => ?_)
    obtain ⟨e1, e2⟩ := Q g' (by rw [E] at z3; exact z3)
    refine k2 _ _ (by rw [T.2 7 (by decide)]; exact up_at _ _ _ _) (fun _ => ?_) (T.1 158 0 (by decide) (by decide) (by omega) (by omega)) (LI_t (LI_e l1) T)
    have f1 : ifN (fSail h1 p0) (g' 153) = ifN (fSail h p0) (g' 153) := by
      funext i
      unfold ifN fSail
      rw [E]
    have f2 : ifN (fSail h1 p0) (fun _ => 1) = ifN (fSail h p0) (fun _ => 1) := by
      funext i
      unfold ifN fSail
      rw [E]
    rw [f1, f2, E3, ← e1, ← e2]
