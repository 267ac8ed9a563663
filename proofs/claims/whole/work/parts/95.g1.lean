/-! the class: its grammar, as the model's -/
/-- an error is told -/
def CFl (st : PS) (h : AH) : Prop := h 2 2 = st.2.1 ∧ h 2 3 = st.2.2
/-- the next word is taken, not looked at -/
def CW (S : Int → Int) (L p : Int) (h : AH) : Prop := cTx S L h ∧ (0 ≤ p ∧ p ≤ L) ∧ h 2 4 = aP S p ∧ h 2 5 = wE S p
/-- the next token begins behind p -/
def CE (S : Int → Int) (L p : Int) (h : AH) : Prop := cTx S L h ∧ (0 ≤ p ∧ p ≤ L) ∧ h 2 5 = p
theorem CW_E {S : Int → Int} {L p : Int} {h : AH} (hT : TxS S L) (hw : CW S L p h) (hk : kP S p = 0) : CE S L (bP S p) h := by
  obtain ⟨a, b, c, d⟩ := hw
  have e := (wE_0 hT b).1 hk
  have := bP_rg hT b
  have := aP_rg hT b
  exact ⟨a, by omega, by rw [d, e.1]⟩
theorem failS_e {S : Int → Int} {c : Int} {st : PS} (h : ¬ st.2.1 = 0) : failS S c st = st := by
  unfold failS
  rw [if_neg h]
theorem nextS_e {S : Int → Int} {st : PS} (h : ¬ st.2.1 = 0) : nextS S st = st := by
  unfold nextS
  rw [if_neg h]
theorem mustS_e {S : Int → Int} {b : Int} {st : PS} (h : ¬ st.2.1 = 0) : mustS S b st = st := by
  unfold mustS
  rw [failS_e h]
  split <;> exact nextS_e h
theorem standS_e {S : Int → Int} {lo hi : Int} {st : PS} (h : ¬ st.2.1 = 0) : standS S lo hi st = st := by
  unfold standS
  rw [failS_e h]
  split <;> split <;> first | rfl | exact failS_e h
theorem takeS_e {S : Int → Int} {lo hi : Int} {st : PS} (h : ¬ st.2.1 = 0) : takeS S lo hi st = st := by
  unfold takeS
  rw [standS_e h]
  exact nextS_e h
theorem endS_e {S : Int → Int} {st : PS} (h : ¬ st.2.1 = 0) : endS S st = st := mustS_e h
theorem failS_0 {S : Int → Int} {c : Int} {st : PS} (h : st.2.1 = 0) : failS S c st = (st.1, c, aP S st.1) := by
  unfold failS
  rw [if_pos h]
theorem nextS_0 {S : Int → Int} {st : PS} (h : st.2.1 = 0) : nextS S st = (bP S st.1, 0, st.2.2) := by
  unfold nextS
  rw [if_pos h]
theorem mustS_1 {S : Int → Int} {b : Int} {st : PS} (h : st.2.1 = 0) (hb : b = 1) : mustS S b st = (bP S st.1, 0, st.2.2) := by
  unfold mustS
  rw [if_neg (by omega)]
  exact nextS_0 h
theorem mustS_0 {S : Int → Int} {b : Int} {st : PS} (h : st.2.1 = 0) (hb : b = 0) : mustS S b st = (st.1, -2, aP S st.1) := by
  unfold mustS
  rw [if_pos hb, failS_0 h]
  exact nextS_e (by show ¬ (-2 : Int) = 0; decide)
/-- a number in its range, and none -/
theorem stand_cs {S : Int → Int} {lo hi : Int} {st : PS} (h : st.2.1 = 0) : (kP S st.1 = 1 ∧ (lo ≤ nP S st.1 ∧ nP S st.1 ≤ hi) → standS S lo hi st = st ∧ standV S lo hi st = nP S st.1) ∧ (¬ kP S st.1 = 1 → standS S lo hi st = (st.1, -2, aP S st.1)) ∧ (kP S st.1 = 1 → ¬ (lo ≤ nP S st.1 ∧ nP S st.1 ≤ hi) → standS S lo hi st = (st.1, -3, aP S st.1)) := by
  refine ⟨fun ⟨q, r⟩ => ?_, fun q => ?_, fun q r => ?_⟩
  · have e : standS S lo hi st = st := by
      unfold standS
      rw [if_pos r, if_pos q]
    refine ⟨e, ?_⟩
    unfold standV
    rw [e, if_pos h]
  · unfold standS
    rw [if_neg q, failS_0 h]
    split
    · rfl
    · exact failS_e (by show ¬ (-2 : Int) = 0; decide)
  · unfold standS
    rw [if_neg r, if_pos q, failS_0 h]
theorem ac_tkN {S : Int → Int} {L lo hi : Int} {st : PS} {h : AH} {K : AO → Nat → AH → Prop} (hT : TxS S L) (h0 : st.2.1 = 0) (hw : CE S L st.1 h) (hh : 0 ≤ lo ∧ hi ≤ 999) (k1 : (standS S lo hi st).2.1 = 0 → standS S lo hi st = st → (lo ≤ standV S lo hi st ∧ standV S lo hi st ≤ hi) → ∀ h', cTF h h' → h' 2 4 = aP S st.1 → CE S L (takeS S lo hi st).1 h' → (takeS S lo hi st).2.1 = 0 → h' 2 6 = standV S lo hi st → K (.inl (some (0, 1))) 159 h') (k0 : ¬ (standS S lo hi st).2.1 = 0 → ∀ h', cEF h h' → CFl (standS S lo hi st) h' → K (.inl (some (0, 0))) 159 h') : AC mX5_takeNumber 2 0 0 159 [(2, 2), (0, lo), (0, hi)] h K := by
  obtain ⟨x, p, e⟩ := hw
  obtain ⟨c1, c2, c3⟩ := stand_cs (S := S) (lo := lo) (hi := hi) h0
  have hb := bP_rg hT p
  have ha := aP_rg hT p
  refine ac_takeNumber hT x p e hh (fun q r h' f f4 f5 f6 => ?_) (fun q h' f f2 f3 => ?_) (fun q r h' f f2 f3 => ?_)
  · obtain ⟨d1, d2⟩ := c1 ⟨q, r⟩
    have e1 : takeS S lo hi st = (bP S st.1, 0, st.2.2) := by
      unfold takeS
      rw [d1]
      exact nextS_0 h0
    refine k1 (by rw [d1]; exact h0) d1 (by rw [d2]; exact r) h' f f4 ?_ (by rw [e1]) (by rw [d2]; exact f6)
    rw [e1]
    exact ⟨cTx_T f x, by dsimp only; omega, f5⟩
  · have d := c2 q
    rw [d] at k0
    exact k0 (by dsimp only; decide) h' f ⟨f2, f3⟩
  · have d := c3 q r
    rw [d] at k0
    exact k0 (by dsimp only; decide) h' f ⟨f2, f3⟩
theorem ac_endPart {S : Int → Int} {L : Int} {st : PS} {h : AH} {K : AO → Nat → AH → Prop} (hT : TxS S L) (h0 : st.2.1 = 0) (hw : CE S L st.1 h) (k1 : (endS S st).2.1 = 0 → ∀ h', cTF h h' → CW S L (endS S st).1 h' → K (.inl (some (0, 1))) 159 h') (k0 : ¬ (endS S st).2.1 = 0 → ∀ h', cEF h h' → CFl (endS S st) h' → K (.inl (some (0, 0))) 159 h') : AC mX0_endPart 3 0 0 159 [(2, 1)] h K := by
  obtain ⟨x, p, e⟩ := hw
  have hb := bP_rg hT p
  have ha := aP_rg hT p
  have hE := end_iff hT (k := aP S st.1) (by omega)
  refine ac_of (ls := [(2, 1)]) pn_X0 rfl (Nat.le_of_ble_eq_true rfl) rfl ?_
  refine a_al0 (by decide) dX0_endPart_0 ?_
  refine aw_getR (r := 2) 0 rfl dX0_endPart_1 fl_X0_12 at_1 rfl rfl ?_
  refine aw_callV 2 0 0 dX0_endPart_4 yw_X5_takeSemicolon ml_X0_43 in_X5_takeSemicolon se_X5_takeSemicolon (ci := 4) rfl at_2 (as := []) rfl rfl ⟨by decide, by decide, by decide, Nat.le_of_ble_eq_true rfl⟩ ?_
  refine ac_takeSemicolon hT x p e (fun q h' f f5 => ?_) (fun q h' f f2 f3 => ?_)
  · have n1 : ¬ S (aP S st.1) = -1 := by omega
    have n2 : ¬ isLe S (aP S st.1) = true := fun z => by
      have := of_decide_eq_true z
      omega
    have n3 : ¬ isDi S (aP S st.1) = true := fun z => by
      have := of_decide_eq_true z
      omega
    have e2 : kP S st.1 = 2 := by
      unfold kP
      rw [if_neg n1, if_neg n2, if_neg n3]
    have eb : bP S st.1 = aP S st.1 + 1 := by
      unfold bP
      rw [if_neg n1, if_neg n2, if_neg n3]
    have es : endS S st = (bP S st.1, 0, st.2.2) := mustS_1 h0 (if_pos ⟨e2, q⟩)
    refine am_ci ?_
    refine aw_if_ne_y 12 dX0_endPart_7 (by decide) (by decide) ?_
    refine a_al0 (by decide) dX0_endPart_12 ?_
    refine aw_getR (r := 2) 0 rfl dX0_endPart_13 fl_X0_12 at_1 rfl rfl ?_
    refine aw_callV 2 0 0 dX0_endPart_16 yw_X5_nextWord ml_X0_47 in_X5_nextWord se_X5_nextWord (ci := 4) rfl at_2 (as := []) rfl rfl ⟨by decide, by decide, by decide, Nat.le_of_ble_eq_true rfl⟩ ?_
    refine ac_nextWord hT (cTx_T f x) (p := bP S st.1) (by omega) (by rw [f5, eb]) (fun h2 f2 g4 g5 => ?_)
    refine am_cv ?_
    refine aw_iconst dX0_endPart_19 (by decide) ?_
    refine aw_zret dX0_endPart_20 rfl (by omega) ?_
    rw [es] at k1
    exact k1 (by dsimp only) h2 (cTF_trans f f2) ⟨cTx_T (cTF_trans f f2) x, by dsimp only; omega, g4, g5⟩
  · have es : endS S st = (st.1, -2, aP S st.1) := mustS_0 h0 (if_neg (fun z => q z.2))
    refine am_ci ?_
    refine aw_if_ne_n 12 dX0_endPart_7 (by decide) (by decide) ?_
    refine aw_iconst dX0_endPart_10 (by decide) ?_
    refine aw_zret dX0_endPart_11 rfl (by omega) ?_
    rw [es] at k0
    exact k0 (by dsimp only; decide) h' f ⟨f2, f3⟩
