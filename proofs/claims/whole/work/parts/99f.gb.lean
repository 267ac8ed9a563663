/-! the class: ships of its text, their rows -/
theorem OS_eq {h h' : AH} {r r' : Int → Int} {i : Int} (e : ∀ w, 0 ≤ w → w ≤ 10 → h' 17 (i * 11 + w) = h 17 (i * 11 + w)) (q : ∀ w, 0 ≤ w → w ≤ 24 → r' (46 + 25 * i + w) = r (46 + 25 * i + w)) (hS : OS h r i) : OS h' r' i := by
  obtain ⟨a, b, c, d, f⟩ := hS
  unfold OS
  rw [q 4 (by decide) (by decide), q 5 (by decide) (by decide), q 6 (by decide) (by decide), q 7 (by decide) (by decide)]
  exact ⟨fun w w0 w1 => by rw [e w w0 w1, q w w0 (by omega)]; exact a w w0 w1, b, c, d, f⟩
/-- a ship that was read -/
def SPi (h : AH) (r : Int → Int) (i a b c : Int) : Prop := OS h r i ∧ (0 ≤ r (46 + 25 * i + 0) ∧ r (46 + 25 * i + 0) < a) ∧ (0 ≤ r (46 + 25 * i + 1) ∧ r (46 + 25 * i + 1) < b) ∧ (0 ≤ r (46 + 25 * i + 2) ∧ r (46 + 25 * i + 2) < c) ∧ (0 ≤ r (46 + 25 * i + 3) ∧ r (46 + 25 * i + 3) ≤ 7) ∧ (r (46 + 25 * i + 8) = 0 ∧ r (46 + 25 * i + 9) = 4 ∧ r (46 + 25 * i + 10) = -1) ∧ (∀ p, 0 ≤ p → p ≤ 5 → r (46 + 25 * i + (11 + p)) = 1) ∧ h 16 i = encN (fun k => r (46 + 25 * i + (17 + k))) 8 ∧ nmOk (fun k => r (46 + 25 * i + (17 + k)))
theorem SPi_eq {h h' : AH} {r r' : Int → Int} {i a a' b c : Int} (e : ∀ w, 0 ≤ w → w ≤ 10 → h' 17 (i * 11 + w) = h 17 (i * 11 + w)) (e6 : h' 16 i = h 16 i) (q : ∀ w, 0 ≤ w → w ≤ 24 → r' (46 + 25 * i + w) = r (46 + 25 * i + w)) (ha : a ≤ a') (hS : SPi h r i a b c) : SPi h' r' i a' b c := by
  obtain ⟨s1, s2, s3, s4, s5, s6, s7, s8, s9⟩ := hS
  refine ⟨OS_eq e q s1, ?_⟩
  rw [q 0 (by decide) (by decide), q 1 (by decide) (by decide), q 2 (by decide) (by decide), q 3 (by decide) (by decide), q 8 (by decide) (by decide), q 9 (by decide) (by decide), q 10 (by decide) (by decide), e6, s8]
  exact ⟨by omega, s3, s4, s5, s6, fun p p0 p1 => by rw [q (11 + p) (by omega) (by omega)]; exact s7 p p0 p1, encN_eq 8 (fun k a b => (q (17 + k) (by omega) (by omega)).symm), nmOk_eq (fun k a b => (q (17 + k) (by omega) (by omega)).symm) s9⟩
def SP (h : AH) (r : Int → Int) : Prop := ∀ i, 0 ≤ i → i < r 3 → SPi h r i (r 2) (r 0) (r 1)
/-- no two ships have a name -/
def SPu (h : AH) (n : Int) : Prop := ∀ i j, 0 ≤ i → i < j → j < n → ¬ h 16 i = h 16 j
theorem shpD_v {r nm : Int → Int} {s f c w d : Int} : (shpD r s f nm c w d (s + 0) = f ∧ shpD r s f nm c w d (s + 1) = c ∧ shpD r s f nm c w d (s + 2) = w ∧ shpD r s f nm c w d (s + 3) = d) ∧ (shpD r s f nm c w d (s + 4) = 20 ∧ shpD r s f nm c w d (s + 5) = 3 ∧ shpD r s f nm c w d (s + 6) = 5 ∧ shpD r s f nm c w d (s + 7) = 1) ∧ (shpD r s f nm c w d (s + 8) = r (s + 8) ∧ shpD r s f nm c w d (s + 9) = 4 ∧ shpD r s f nm c w d (s + 10) = -1) ∧ (∀ p, 0 ≤ p → p ≤ 5 → shpD r s f nm c w d (s + (11 + p)) = 1) ∧ (∀ k, 0 ≤ k → k < 8 → shpD r s f nm c w d (s + (17 + k)) = nm k) ∧ ∀ x, x < s ∨ s + 25 ≤ x → shpD r s f nm c w d x = r x := by
  have A : ∀ x, ¬ (s + 11 ≤ x ∧ x < s + 17) → shpD r s f nm c w d x = shpC (upr (nmRow r s nm) s f) s c w d x := fun x a => if_neg (by omega)
  refine ⟨⟨?_, ?_, ?_, ?_⟩, ⟨?_, ?_, ?_, ?_⟩, ⟨?_, ?_, ?_⟩, fun p p0 p1 => if_pos (by omega), fun k k0 k1 => ?_, fun x hx => ?_⟩
  · rw [A _ (by omega), Int.add_zero]
    unfold shpC
    simp (disch := omega) only [upr_ne, upr_at]
  · rw [A _ (by omega)]
    unfold shpC
    simp (disch := omega) only [upr_ne, upr_at]
  · rw [A _ (by omega)]
    unfold shpC
    simp (disch := omega) only [upr_ne, upr_at]
  · rw [A _ (by omega)]
    unfold shpC
    simp (disch := omega) only [upr_ne, upr_at]
  · rw [A _ (by omega)]
    unfold shpC
    simp (disch := omega) only [upr_ne, upr_at]
  · rw [A _ (by omega)]
    unfold shpC
    simp (disch := omega) only [upr_ne, upr_at]
  · rw [A _ (by omega)]
    unfold shpC
    simp (disch := omega) only [upr_ne, upr_at]
  · rw [A _ (by omega)]
    unfold shpC
    simp (disch := omega) only [upr_ne, upr_at]
  · rw [A _ (by omega)]
    unfold shpC
    simp (disch := omega) only [upr_ne, upr_at]
    exact if_neg (by omega)
  · rw [A _ (by omega)]
    unfold shpC
    simp (disch := omega) only [upr_ne, upr_at]
  · rw [A _ (by omega)]
    unfold shpC
    simp (disch := omega) only [upr_ne, upr_at]
  · rw [A _ (by omega)]
    unfold shpC
    simp (disch := omega) only [upr_ne, upr_at]
    unfold nmRow
    rw [if_pos (by omega)]
    congr 1
    omega
  · rw [A _ (by omega)]
    unfold shpC
    simp (disch := omega) only [upr_ne, upr_at]
    exact if_neg (by omega)
/-- the end of a part, where a token was looked for -/
theorem endS_q {S : Int → Int} {L : Int} {st : PS} (hT : TxS S L) (p : 0 ≤ st.1 ∧ st.1 ≤ L) (h0 : st.2.1 = 0) : aP S (aP S st.1) = aP S st.1 ∧ (endS S (aP S st.1, 0, st.2.2)).2 = (endS S st).2 ∧ ((endS S st).2.1 = 0 → (endS S (aP S st.1, 0, st.2.2)).1 = (endS S st).1) := by
  obtain ⟨a1, a2, a3, a4⟩ := aP_rg hT p
  have e : aP S (aP S st.1) = aP S st.1 := rnF_eq _ 700 _ _ (Int.le_refl _) (by omega) (fun j x y => by omega) a3
  have ek : kP S (aP S st.1) = kP S st.1 := by unfold kP; rw [e]
  have eb : bP S (aP S st.1) = bP S st.1 := by unfold bP; rw [e]
  refine ⟨e, ?_, fun z => ?_⟩
  · by_cases q : kP S st.1 = 2 ∧ S (aP S st.1) = 59
    · rw [show endS S st = (bP S st.1, 0, st.2.2) from mustS_1 h0 (if_pos q), show endS S (aP S st.1, 0, st.2.2) = (bP S (aP S st.1), 0, st.2.2) from mustS_1 rfl (if_pos (by dsimp only; rw [ek, e]; exact q))]
    · rw [show endS S st = (st.1, -2, aP S st.1) from mustS_0 h0 (if_neg q), show endS S (aP S st.1, 0, st.2.2) = (aP S st.1, -2, aP S (aP S st.1)) from mustS_0 rfl (if_neg (by dsimp only; rw [ek, e]; exact q)), e]
  · by_cases q : kP S st.1 = 2 ∧ S (aP S st.1) = 59
    · rw [show endS S st = (bP S st.1, 0, st.2.2) from mustS_1 h0 (if_pos q), show endS S (aP S st.1, 0, st.2.2) = (bP S (aP S st.1), 0, st.2.2) from mustS_1 rfl (if_pos (by dsimp only; rw [ek, e]; exact q))]
      exact eb
    · rw [show endS S st = (st.1, -2, aP S st.1) from mustS_0 h0 (if_neg q)] at z
      exact absurd z (by show ¬ (-2 : Int) = 0; decide)
