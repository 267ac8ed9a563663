/-! the class: orders of its text -/
def GN (h g : AH) : Prop := ∀ k x, ¬ (k = 2 ∧ 2 ≤ x ∧ x ≤ 7) → k ≠ 4 → ¬ (15 ≤ k ∧ k ≤ 24) → ¬ (k = 1 ∧ x = 2) → g k x = h k x
theorem GN_of {h g : AH} (a : GF h g) : GN h g := fun k x p q r _ => a k x p q r
theorem GN_trans {h g f : AH} (a : GN h g) (b : GN g f) : GN h f := fun k x p q r s => by rw [b k x p q r s, a k x p q r s]
theorem wrN_e {S : Int → Int} {r T : Int → Int} {f nd n : Int} {st : PS} (h : ¬ st.2.1 = 0) : ∀ m : Nat, wrN S r f m nd n T st = (n, T, st)
  | 0 => rfl
  | m + 1 => cif_neg (fun q => h q.1)
theorem wr4_n {S : Int → Int} {r : Int → Int} {f nd : Int} {st : PS} (h0 : st.2.1 = 0) (hk : ¬ kP S st.1 = 0) : wr4 S r f nd st = (st.1, -2, aP S st.1) := by
  have nz : ¬ ((st.1, -2, aP S st.1) : PS).2.1 = 0 := by show ¬ (-2 : Int) = 0; decide
  have nv := (name_cs (S := S) h0).2 (fun z => hk z.1)
  have e2 : wr2 S r f st = (st.1, -2, aP S st.1) := by
    unfold wr2
    rw [nv, failS_e nz]
    split <;> rfl
  unfold wr4
  rw [e2, failS_e nz]
  have : ∀ P : Prop, ∀ _ : Decidable P, (if P then ((st.1, -2, aP S st.1) : PS) else (st.1, -2, aP S st.1)) = (st.1, -2, aP S st.1) := fun P _ => by split <;> rfl
  rw [this]
  exact mustS_e nz
def ORD (h g : AH) (f : Int) (T : Int → Int) : Prop := ∀ i, 0 ≤ i → i < g 141 3 → g 141 (46 + 25 * i + 0) = f → ∀ p, 0 ≤ p → p ≤ 5 → cLt (h 18 i) p = T (6 * i + p)
theorem at_3 {S : Int → Int} {L p : Int} (hT : TxS S L) (hp : 0 ≤ p ∧ p ≤ L) : kP S p = 3 ↔ L ≤ aP S p := by
  have ra := aP_rg hT hp
  have hE := end_iff hT (k := aP S p) (by omega)
  rw [← hE]
  unfold kP
  by_cases z : S (aP S p) = -1
  · rw [if_pos z]
    exact ⟨fun _ => z, fun _ => rfl⟩
  · rw [if_neg z]
    refine ⟨fun q => ?_, fun q => absurd q z⟩
    split at q
    · omega
    · split at q <;> omega
