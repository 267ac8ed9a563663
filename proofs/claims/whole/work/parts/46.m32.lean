/-! reading: what is asked for; shifts -/
noncomputable def cif {α : Type} (P : Prop) (a b : α) : α := @ite α P (Classical.propDecidable P) a b
theorem cif_pos {α : Type} {P : Prop} {a b : α} (h : P) : cif P a b = a := if_pos h
theorem cif_neg {α : Type} {P : Prop} {a b : α} (h : ¬ P) : cif P a b = b := if_neg h
/-- further on, and still in the text -/
def onS (L : Int) (s t : PS) : Prop := s.1 ≤ t.1 ∧ t.1 ≤ L ∧ (t.2.1 = 0 → s.2.1 = 0)
theorem onS_refl {L : Int} {s : PS} (h : s.1 ≤ L) : onS L s s := ⟨Int.le_refl _, h, fun x => x⟩
theorem onS_trans {L : Int} {s t u : PS} (a : onS L s t) (b : onS L t u) : onS L s u := ⟨Int.le_trans a.1 b.1, b.2.1, fun x => a.2.2 (b.2.2 x)⟩
theorem onS_fail {S : Int → Int} {L code : Int} {s : PS} (h : s.1 ≤ L) : onS L s (failS S code s) := ⟨by rw [failS_1]; omega, by rw [failS_1]; exact h, failS_c⟩
theorem onS_next {S : Int → Int} {L : Int} {s : PS} (hT : TxS S L) (h : 0 ≤ s.1 ∧ s.1 ≤ L) : onS L s (nextS S s) := by
  have hb := bP_rg hT h
  have ha := aP_rg hT h
  refine ⟨?_, ?_, fun x => by rw [nextS_c] at x; exact x⟩
  · unfold nextS
    split
    · show s.1 ≤ bP S s.1; omega
    · omega
  · unfold nextS
    split
    · show bP S s.1 ≤ L; omega
    · exact h.2
theorem onS_must {S : Int → Int} {L b : Int} {s : PS} (hT : TxS S L) (h : 0 ≤ s.1 ∧ s.1 ≤ L) : onS L s (mustS S b s) := by
  unfold mustS
  split
  · refine onS_trans (onS_fail h.2) (onS_next hT ?_)
    rw [failS_1]; exact h
  · exact onS_next hT h
theorem onS_end {S : Int → Int} {L : Int} {s : PS} (hT : TxS S L) (h : 0 ≤ s.1 ∧ s.1 ≤ L) : onS L s (endS S s) := onS_must hT h
theorem onS_stand {S : Int → Int} {L lo hi : Int} {s : PS} (h : s.1 ≤ L) : onS L s (standS S lo hi s) := by
  have J : onS L s (if kP S s.1 = 1 then s else failS S (-2) s) := by
    split
    · exact onS_refl h
    · exact onS_fail h
  unfold standS
  split
  · exact J
  · exact onS_trans J (onS_fail J.2.1)
theorem onS_take {S : Int → Int} {L lo hi : Int} {s : PS} (hT : TxS S L) (h : 0 ≤ s.1 ∧ s.1 ≤ L) : onS L s (takeS S lo hi s) := by
  have a := onS_stand (S := S) (lo := lo) (hi := hi) h.2
  exact onS_trans a (onS_next hT ⟨by have := a.1; omega, a.2.1⟩)
theorem onS_name {S : Int → Int} {L : Int} {s : PS} (h : s.1 ≤ L) : onS L s (nameS S s) := by
  unfold nameS
  split
  · exact onS_refl h
  · exact onS_fail h
theorem onS_cif {L : Int} {s t u : PS} {P : Prop} (a : onS L s t) (b : onS L s u) : onS L s (cif P t u) := by
  unfold cif
  split
  · exact a
  · exact b
theorem onS_0 {L : Int} {s t : PS} (a : onS L s t) (h : 0 ≤ s.1) : 0 ≤ t.1 ∧ t.1 ≤ L := ⟨by have := a.1; omega, a.2.1⟩
theorem wd_adv {S : Int → Int} {L : Int} {s : PS} {w : List Int} (hT : TxS S L) (h : 0 ≤ s.1 ∧ s.1 ≤ L) (hw : wdS S s w) (hl : 0 < w.length) : s.1 + 1 ≤ bP S s.1 ∧ bP S s.1 ≤ L := by
  have hb := bP_rg hT h
  have ha := aP_rg hT h
  have := hw.2.2.1
  omega
theorem next_adv {S : Int → Int} {L : Int} {s : PS} {w : List Int} (hT : TxS S L) (h : 0 ≤ s.1 ∧ s.1 ≤ L) (hw : wdS S s w) (hl : 0 < w.length) : s.1 + 1 ≤ (nextS S s).1 := by
  have := wd_adv hT h hw hl
  unfold nextS
  rw [if_pos hw.1]
  exact this.1
theorem ac_isWordX {S : Int → Int} {L : Int} {st : PS} {x : Int} {i : Nat} {q : String × Nat × String} {h : AH} {K : AO → Nat → AH → Prop} (hT : TxS S L) (hs : Sts S L st h) (hq : am_st[i]? = some q) (hx : x = 2000 + (i : Int)) (k1 : wdS S st (wO i) → K (.inl (some (0, 1))) 159 h) (k0 : ¬ wdS S st (wO i) → K (.inl (some (0, 0))) 159 h) : AC mX9_isWord 5 0 0 159 [(2, 140), (2, x)] h K := by
  subst hx
  exact ac_isWord hT hs hq k1 k0
theorem ac_starts {S : Int → Int} {L : Int} {h : AH} {K : AO → Nat → AH → Prop} (hT : TxS S L) (hx : Tx S L h) (kk : ∀ h', PFr h h' → Sts S L (0, 0, 0) h' → K (.inl none) 159 h') : AC mX9_starts 4 0 0 159 [(2, 140)] h K := by
  have hL := hT.1
  refine ac_of (ls := [(2, 140)]) pn_X9 rfl (Nat.le_of_ble_eq_true rfl) rfl ?_
  refine a_al0 (by decide) dX9_starts_0 ?_
  refine aw_iconst dX9_starts_1 (by decide) ?_
  refine aw_put 11 dX9_starts_2 fp_X9_95 at_140 rfl ?_
  refine a_al0 (by decide) dX9_starts_5 ?_
  refine aw_iconst dX9_starts_6 (by decide) ?_
  refine aw_put 14 dX9_starts_7 fp_X9_120 at_140 rfl ?_
  refine a_al0 (by decide) dX9_starts_10 ?_
  refine aw_callV 3 0 0 dX9_starts_11 yw_X9_next ml_X9_123 in_X9_next se_X9_next (ci := 8) rfl at_140 (as := []) rfl rfl ⟨by decide, by decide, by decide, Nat.le_of_ble_eq_true rfl⟩ ?_
  refine ac_next hT (p := 0) ⟨?_, fun k a b => ?_⟩ ⟨by omega, by omega⟩ ?_ (fun h' tf hat => ?_)
  · rw [up_ne (by omega), up_ne (by omega)]; exact hx.1
  · rw [up_ne (by omega), up_ne (by omega)]; exact hx.2 k a b
  · rw [up_ne (by omega), up_at]
  refine am_cv ?_
  refine aw_vret dX9_starts_14 rfl ?_
  refine kk h' (fun k x a => ?_) ⟨⟨?_, fun k a b => ?_⟩, hat, ?_, fun q => absurd rfl q, by show (0 : Int) ≤ 0 ∧ (0 : Int) ≤ L; omega⟩
  · rw [tf k x (by omega), up_ne (by omega), up_ne (by omega)]
  · rw [tf _ _ (by omega), up_ne (by omega), up_ne (by omega)]; exact hx.1
  · rw [tf _ _ (by omega), up_ne (by omega), up_ne (by omega)]; exact hx.2 k a b
  · rw [tf _ _ (by omega), up_at]
def endAll (S : Int → Int) (st : PS) : PS := if kP S st.1 = 3 then st else failS S (-2) st
theorem ac_ends {S : Int → Int} {L : Int} {st : PS} {h : AH} {K : AO → Nat → AH → Prop} (hT : TxS S L) (hs : Sts S L st h) (kk : ∀ h', (∀ k x, ¬ (k = 140 ∧ 9 ≤ x ∧ x ≤ 16) → h' k x = h k x) → h' 140 14 = (endAll S st).2.1 → h' 140 9 = 0 → h' 140 16 = (if (endAll S st).2.1 = 0 then -1 else (endAll S st).2.2) → K (.inl none) 159 h') : AC mX9_ends 2 0 0 159 [(2, 140)] h K := by
  have J : ∀ g, PFr h g → Sts S L (endAll S st) g → AW mX9_ends 2 0 0 K 159 21 [(2, 140)] [] g := fun g pf hs1 => by
    obtain ⟨x1, ⟨a1, a2, a3, a4⟩, c1, c2, c3⟩ := hs1
    refine a_al0 (by decide) dX9_ends_21 ?_
    refine a_al0 (by decide) dX9_ends_22 ?_
    refine aw_get 14 dX9_ends_23 fl_X9_120 at_140 rfl ?_
    refine aw_if_ne 33 dX9_ends_26 (by decide) (fun c26 => ?_) (fun c26 => ?_)
    · have e : ¬ (endAll S st).2.1 = 0 := by omega
      refine a_al0 (by decide) dX9_ends_33 ?_
      refine aw_get 15 dX9_ends_34 fl_X9_130 at_140 rfl ?_
      refine aw_put 16 dX9_ends_37 fp_X9_32 at_140 rfl ?_
      refine a_al0 (by decide) dX9_ends_40 ?_
      refine aw_iconst dX9_ends_41 (by decide) ?_
      refine aw_put 9 dX9_ends_42 fp_X9_88 at_140 rfl ?_
      refine aw_vret dX9_ends_45 rfl ?_
      refine kk _ (fun k x a => ?_) ?_ (up_at _ _ _ _) ?_
      · rw [up_ne (by omega), up_ne (by omega), pf k x (by omega)]
      · rw [up_ne (by omega), up_ne (by omega), c1]
      · rw [up_ne (by omega), up_at, if_neg e, c2 e]
    · have e : (endAll S st).2.1 = 0 := by omega
      refine aw_iconst dX9_ends_29 (by decide) ?_
      refine aw_goto 37 dX9_ends_30 (by decide) ?_
      refine aw_put 16 dX9_ends_37 fp_X9_32 at_140 rfl ?_
      refine a_al0 (by decide) dX9_ends_40 ?_
      refine aw_iconst dX9_ends_41 (by decide) ?_
      refine aw_put 9 dX9_ends_42 fp_X9_88 at_140 rfl ?_
      refine aw_vret dX9_ends_45 rfl ?_
      refine kk _ (fun k x a => ?_) ?_ (up_at _ _ _ _) ?_
      · rw [up_ne (by omega), up_ne (by omega), pf k x (by omega)]
      · rw [up_ne (by omega), up_ne (by omega), c1]
      · rw [up_ne (by omega), up_at, if_pos e]
  have hs2 := hs
  obtain ⟨x1, ⟨a1, a2, a3, a4⟩, c1, c2, c3⟩ := hs2
  refine ac_of (ls := [(2, 140)]) pn_X9 rfl (Nat.le_of_ble_eq_true rfl) rfl ?_
  refine a_al0 (by decide) dX9_ends_0 ?_
  refine aw_get 14 dX9_ends_1 fl_X9_120 at_140 rfl ?_
  refine aw_if_ne 21 dX9_ends_4 (by decide) (fun c4 => ?_) (fun c4 => ?_)
  · skip
    refine J h (PFr_refl h) ?_
    unfold endAll
    rw [failS_W (by omega)]
    split <;> exact hs
  · refine a_al0 (by decide) dX9_ends_7 ?_
    refine aw_get 12 dX9_ends_8 fl_X9_104 at_140 rfl ?_
    refine aw_iconst dX9_ends_11 (by decide) ?_
    refine aw_icmp_eq 21 dX9_ends_12 (by decide) (fun c12 => ?_) (fun c12 => ?_)
    · skip
      refine J h (PFr_refl h) ?_
      unfold endAll
      rw [if_pos (by omega)]
      exact hs
    · refine a_al0 (by decide) dX9_ends_15 ?_
      refine aw_bipush dX9_ends_16 (by decide) ?_
      refine aw_callV 1 0 0 dX9_ends_18 yw_X9_fails ml_X9_126 in_X9_fails se_X9_fails (ci := 8) rfl at_140 (as := [_]) rfl rfl ⟨by decide, by decide, by decide, Nat.le_of_ble_eq_true rfl⟩ ?_
      refine ac_fails hs (by decide) (fun h' pf hs3 => ?_)
      refine am_cv ?_
      refine J h' pf ?_
      unfold endAll
      rw [if_neg (by omega)]
      exact hs3
def upr (r : Int → Int) (x v : Int) : Int → Int := fun y => if y = x then v else r y
theorem up_row (h : AH) (k x v : Int) : up h k x v k = upr (h k) x v := by
  funext y
  unfold up upr
  by_cases e : y = x
  · rw [if_pos ⟨rfl, e⟩, if_pos e]
  · rw [if_neg (fun q => e q.2), if_neg e]
theorem upr_at (r : Int → Int) (x v : Int) : upr r x v x = v := if_pos rfl
theorem upr_ne {r : Int → Int} {x v y : Int} (h : y ≠ x) : upr r x v y = r y := if_neg h
def shfR (r : Int → Int) (t fr fo : Int) : Int → Int := upr (upr (upr (upr r (10 + 3 * r 9) t) (10 + 3 * r 9 + 1) fr) (10 + 3 * r 9 + 2) fo) 9 (r 9 + 1)
noncomputable def shft3 (S : Int → Int) (r : Int → Int) (st : PS) : PS := mustS S 1 (if r 9 = 8 then failS S (-6) st else st)
noncomputable def shft5 (S : Int → Int) (r : Int → Int) (st : PS) : PS := mustS S 1 (cif (∃ k, 0 ≤ k ∧ k < r 9 ∧ r (10 + 3 * k) = standV S 0 999 (shft3 S r st)) (failS S (-4) (standS S 0 999 (shft3 S r st))) (standS S 0 999 (shft3 S r st)))
noncomputable def shft6 (S : Int → Int) (r : Int → Int) (st : PS) : PS := takeS S 0 7 (shft5 S r st)
noncomputable def shft8 (S : Int → Int) (r : Int → Int) (st : PS) : PS := endS S (takeS S 0 9 (shft6 S r st))
noncomputable def shftR (S : Int → Int) (r : Int → Int) (st : PS) : Int → Int := shfR r (standV S 0 999 (shft3 S r st)) (standV S 0 7 (shft5 S r st)) (standV S 0 9 (shft6 S r st))
theorem onS_shft {S : Int → Int} {L : Int} {r : Int → Int} {st : PS} (hT : TxS S L) (h : 0 ≤ st.1 ∧ st.1 ≤ L) : onS L (nextS S st) (shft8 S r st) ∨ (¬ (shft8 S r st).2.1 = 0 ∧ 0 ≤ (shft8 S r st).1 ∧ (shft8 S r st).1 ≤ L) := by
  have a0 : onS L st (if r 9 = 8 then failS S (-6) st else st) := by
    split
    · exact onS_fail h.2
    · exact onS_refl h.2
  have a1 : onS L st (shft3 S r st) := onS_trans a0 (onS_must hT (onS_0 a0 h.1))
  have b1 : onS L (shft3 S r st) (standS S 0 999 (shft3 S r st)) := onS_stand a1.2.1
  have b2 : onS L (shft3 S r st) (cif (∃ k, 0 ≤ k ∧ k < r 9 ∧ r (10 + 3 * k) = standV S 0 999 (shft3 S r st)) (failS S (-4) (standS S 0 999 (shft3 S r st))) (standS S 0 999 (shft3 S r st))) := onS_cif (onS_trans b1 (onS_fail b1.2.1)) b1
  have a10 := (onS_0 a1 h.1).1
  have b3 : onS L (shft3 S r st) (shft5 S r st) := onS_trans b2 (onS_must hT (onS_0 b2 a10))
  have b4 : onS L (shft3 S r st) (shft6 S r st) := onS_trans b3 (onS_take hT (onS_0 b3 a10))
  have b5 : onS L (shft3 S r st) (takeS S 0 9 (shft6 S r st)) := onS_trans b4 (onS_take hT (onS_0 b4 a10))
  have b6 : onS L (shft3 S r st) (shft8 S r st) := onS_trans b5 (onS_end hT (onS_0 b5 a10))
  by_cases e : r 9 = 8
  · right
    refine ⟨fun q => ?_, onS_0 b6 a10⟩
    have q2 := b6.2.2 q
    unfold shft3 mustS at q2
    rw [if_neg (by decide), if_pos e, nextS_c] at q2
    exact failS_n (by decide) q2
  · left
    have e3 : shft3 S r st = nextS S st := by
      unfold shft3 mustS
      rw [if_neg (by decide), if_neg e]
    rw [e3] at b6
    exact b6
theorem shft_8 {S : Int → Int} {L : Int} {r : Int → Int} {st : PS} (hT : TxS S L) (h : 0 ≤ st.1 ∧ st.1 ≤ L) (e : r 9 = 8) : ¬ (shft8 S r st).2.1 = 0 := fun q => by
  rcases onS_shft (r := r) hT h with x | x
  · have a0 : onS L st (if r 9 = 8 then failS S (-6) st else st) := by
      rw [if_pos e]
      exact onS_fail h.2
    have a1 : onS L st (shft3 S r st) := onS_trans a0 (onS_must hT (onS_0 a0 h.1))
    have b1 : onS L (shft3 S r st) (standS S 0 999 (shft3 S r st)) := onS_stand a1.2.1
    have b2 : onS L (shft3 S r st) (cif (∃ k, 0 ≤ k ∧ k < r 9 ∧ r (10 + 3 * k) = standV S 0 999 (shft3 S r st)) (failS S (-4) (standS S 0 999 (shft3 S r st))) (standS S 0 999 (shft3 S r st))) := onS_cif (onS_trans b1 (onS_fail b1.2.1)) b1
    have a10 := (onS_0 a1 h.1).1
    have b3 : onS L (shft3 S r st) (shft5 S r st) := onS_trans b2 (onS_must hT (onS_0 b2 a10))
    have b4 : onS L (shft3 S r st) (shft6 S r st) := onS_trans b3 (onS_take hT (onS_0 b3 a10))
    have b5 : onS L (shft3 S r st) (takeS S 0 9 (shft6 S r st)) := onS_trans b4 (onS_take hT (onS_0 b4 a10))
    have b6 : onS L (shft3 S r st) (shft8 S r st) := onS_trans b5 (onS_end hT (onS_0 b5 a10))
    have q2 := b6.2.2 q
    unfold shft3 mustS at q2
    rw [if_neg (by decide), if_pos e, nextS_c] at q2
    exact failS_n (by decide) q2
  · exact x.1 q
/-- the row and what is read may be others -/
def RFr (h g : AH) : Prop := ∀ k x, k ≠ 141 → ¬ (k = 140 ∧ 10 ≤ x ∧ x ≤ 15) → g k x = h k x
theorem RFr_of {h g : AH} (a : PFr h g) : RFr h g := fun k x _ c => a k x c
theorem RFr_trans {h g f : AH} (a : RFr h g) (b : RFr g f) : RFr h f := fun k x c d => by rw [b k x c d, a k x c d]
theorem RFr_up {h g : AH} {x v : Int} (a : RFr h g) : RFr h (up g 141 x v) := fun k y c d => by rw [up_ne (by omega), a k y c d]
theorem Sts_up {S : Int → Int} {L x v : Int} {st : PS} {g : AH} (hs : Sts S L st g) : Sts S L st (up g 141 x v) := by
  obtain ⟨⟨x1, x2⟩, ⟨a1, a2, a3, a4⟩, c1, c2, c3⟩ := hs
  refine ⟨⟨?_, fun k a b => ?_⟩, ⟨?_, ?_, ?_, ?_⟩, ?_, fun q => ?_, c3⟩
  · rw [up_ne (by omega)]; exact x1
  · rw [up_ne (by omega)]; exact x2 k a b
  · rw [up_ne (by omega)]; exact a1
  · rw [up_ne (by omega)]; exact a2
  · rw [up_ne (by omega)]; exact a3
  · rw [up_ne (by omega)]; exact a4
  · rw [up_ne (by omega)]; exact c1
  · rw [up_ne (by omega)]; exact c2 q
theorem PFr_row {h g : AH} (a : PFr h g) : g 141 = h 141 := by
  funext x
  exact a 141 x (by omega)
theorem isFst_ex {P : Int → Prop} {n x : Int} (h : isFst P n x) : (∃ k, 0 ≤ k ∧ k < n ∧ P k) ↔ ¬ x = -1 := by
  rcases h with ⟨a, b, c, d⟩ | ⟨a, b⟩
  · exact ⟨fun _ => by omega, fun _ => ⟨x, a, b, c⟩⟩
  · exact ⟨fun ⟨k, k0, k1, k2⟩ => absurd k2 (b k k0 k1), fun q => absurd a q⟩
theorem rs67 {S : Int → Int} {L : Int} {st : PS} {h g : AH} {K : AO → Nat → AH → Prop} (hT : TxS S L) (hm : 0 ≤ h 141 9 ∧ h 141 9 ≤ 8) (h88 : (shft8 S (h 141) st).2.1 = 0 → h 141 9 ≤ 7) (kk : ∀ h', RFr h h' → Sts S L (shft8 S (h 141) st) h' → ((shft8 S (h 141) st).2.1 = 0 → h' 141 = shftR S (h 141) st) → K (.inl none) 159 h') (pf : PFr h g) (hs2 : Sts S L (cif (∃ k, 0 ≤ k ∧ k < h 141 9 ∧ h 141 (10 + 3 * k) = standV S 0 999 (shft3 S (h 141) st)) (failS S (-4) (standS S 0 999 (shft3 S (h 141) st))) (standS S 0 999 (shft3 S (h 141) st))) g) : AW mX9_readsShift 6 0 0 K 159 67 [(2, 140), (0, 10 + 3 * h 141 9), (0, standV S 0 999 (shft3 S (h 141) st)), (9, 0), (9, 0)] [] g := by
  refine a_al0 (by decide) dX9_readsShift_67 ?_
  refine aw_iconst dX9_readsShift_68 (by decide) ?_
  refine aw_callV 4 0 0 dX9_readsShift_69 yw_X9_must ml_X9_143 in_X9_must se_X9_must (ci := 8) rfl at_140 (as := [_]) rfl rfl ⟨by decide, by decide, by decide, Nat.le_of_ble_eq_true rfl⟩ ?_
  refine ac_must hT hs2 (fun g2 pf2 hs3 => ?_)
  refine am_cv ?_
  refine a_al0 (by decide) dX9_readsShift_72 ?_
  refine aw_iconst dX9_readsShift_73 (by decide) ?_
  refine aw_bipush dX9_readsShift_74 (by decide) ?_
  refine aw_callV 4 0 0 dX9_readsShift_76 yw_X9_takes ml_X9_153 in_X9_takes se_X9_takes (ci := 8) rfl at_140 (as := [_, _]) rfl rfl ⟨by decide, by decide, by decide, Nat.le_of_ble_eq_true rfl⟩ ?_
  refine ac_takes hT hs3 (fun g3 pf3 hs4 => ?_)
  refine am_ci ?_
  try simp (disch := omega) only [up_at, up_ne]
  refine a_is3 rfl rfl dX9_readsShift_79 ?_
  refine a_al0 (by decide) dX9_readsShift_80 ?_
  refine aw_iconst dX9_readsShift_81 (by decide) ?_
  refine aw_bipush dX9_readsShift_82 (by decide) ?_
  refine aw_callV 4 0 0 dX9_readsShift_84 yw_X9_takes ml_X9_153 in_X9_takes se_X9_takes (ci := 8) rfl at_140 (as := [_, _]) rfl rfl ⟨by decide, by decide, by decide, Nat.le_of_ble_eq_true rfl⟩ ?_
  refine ac_takes hT hs4 (fun g4 pf4 hs5 => ?_)
  refine am_ci ?_
  try simp (disch := omega) only [up_at, up_ne]
  refine a_is4 rfl rfl dX9_readsShift_87 ?_
  refine a_al0 (by decide) dX9_readsShift_89 ?_
  refine aw_callV 5 0 0 dX9_readsShift_90 yw_X9_mustEnd ml_X9_156 in_X9_mustEnd se_X9_mustEnd (ci := 8) rfl at_140 (as := []) rfl rfl ⟨by decide, by decide, by decide, Nat.le_of_ble_eq_true rfl⟩ ?_
  refine ac_mustEnd hT hs5 (fun g5 pf5 hs6 => ?_)
  have p5 : PFr h g5 := PFr_trans pf (PFr_trans pf2 (PFr_trans pf3 (PFr_trans pf4 pf5)))
  have c1 : g5 140 14 = (shft8 S (h 141) st).2.1 := hs6.2.2.1
  have e9 : g5 141 9 = h 141 9 := p5 _ _ (by omega)
  refine am_cv ?_
  refine a_al0 (by decide) dX9_readsShift_93 ?_
  refine aw_get 14 dX9_readsShift_94 fl_X9_120 at_140 rfl ?_
  try simp (disch := omega) only [up_at, up_ne]
  refine aw_if_eq 101 dX9_readsShift_97 (by decide) (fun c97 => ?_) (fun c97 => ?_)
  · have c0 : (shft8 S (h 141) st).2.1 = 0 := by omega
    have h7 := h88 c0
    refine a_al0 (by decide) dX9_readsShift_101 ?_
    refine aw_getR (r := 141) 0 rfl dX9_readsShift_102 fl_X9_7 at_140 rfl rfl ?_
    try simp (disch := omega) only [up_at, up_ne]
    refine a_il1 dX9_readsShift_105 ?_
    refine a_il2 dX9_readsShift_106 ?_
    refine aw_iast dX9_readsShift_107 ar_141 (by omega) ?_
    refine a_al0 (by decide) dX9_readsShift_108 ?_
    refine aw_getR (r := 141) 0 rfl dX9_readsShift_109 fl_X9_7 at_140 rfl rfl ?_
    try simp (disch := omega) only [up_at, up_ne]
    refine a_il1 dX9_readsShift_112 ?_
    refine aw_iconst dX9_readsShift_113 (by decide) ?_
    refine aw_iaddR (by omega) dX9_readsShift_114 ?_
    refine a_il3 dX9_readsShift_115 ?_
    refine aw_iast dX9_readsShift_116 ar_141 (by omega) ?_
    refine a_al0 (by decide) dX9_readsShift_117 ?_
    refine aw_getR (r := 141) 0 rfl dX9_readsShift_118 fl_X9_7 at_140 rfl rfl ?_
    try simp (disch := omega) only [up_at, up_ne]
    refine a_il1 dX9_readsShift_121 ?_
    refine aw_iconst dX9_readsShift_122 (by decide) ?_
    refine aw_iaddR (by omega) dX9_readsShift_123 ?_
    refine a_il4 dX9_readsShift_124 ?_
    refine aw_iast dX9_readsShift_126 ar_141 (by omega) ?_
    refine a_al0 (by decide) dX9_readsShift_127 ?_
    refine aw_getR (r := 141) 0 rfl dX9_readsShift_128 fl_X9_7 at_140 rfl rfl ?_
    try simp (disch := omega) only [up_at, up_ne]
    refine aw_bipush dX9_readsShift_131 (by decide) ?_
    refine aw_dup2 dX9_readsShift_133 rfl rfl ?_
    refine aw_iald dX9_readsShift_134 ar_141 (by omega) ?_
    try simp (disch := omega) only [up_at, up_ne]
    refine aw_iconst dX9_readsShift_135 (by decide) ?_
    refine aw_iaddR (by omega) dX9_readsShift_136 ?_
    refine aw_iast dX9_readsShift_137 ar_141 (by omega) ?_
    refine aw_vret dX9_readsShift_138 rfl ?_
    refine kk _ (RFr_up (RFr_up (RFr_up (RFr_up (RFr_of p5))))) (Sts_up (Sts_up (Sts_up (Sts_up hs6)))) (fun _ => ?_)
    rw [up_row, up_row, up_row, up_row, PFr_row p5]
    rfl
  · refine aw_vret dX9_readsShift_100 rfl ?_
    exact kk g5 (RFr_of p5) hs6 (fun q => by omega)
theorem ac_readsShift {S : Int → Int} {L : Int} {st : PS} {h : AH} {K : AO → Nat → AH → Prop} (hT : TxS S L) (hs : Sts S L st h) (hm : 0 ≤ h 141 9 ∧ h 141 9 ≤ 8) (kk : ∀ h', RFr h h' → Sts S L (shft8 S (h 141) st) h' → ((shft8 S (h 141) st).2.1 = 0 → h' 141 = shftR S (h 141) st) → K (.inl none) 159 h') : AC mX9_readsShift 6 0 0 159 [(2, 140)] h K := by
  have h88 : (shft8 S (h 141) st).2.1 = 0 → h 141 9 ≤ 7 := fun q => by
    by_cases e : h 141 9 = 8
    · exact absurd q (shft_8 hT hs.2.2.2.2 e)
    · omega
  have J : ∀ g, PFr h g → Sts S L (if h 141 9 = 8 then failS S (-6) st else st) g → AW mX9_readsShift 6 0 0 K 159 31 [(2, 140), (0, 10 + 3 * h 141 9), (9, 0), (9, 0), (9, 0)] [] g := fun g pf hs1 => by
    refine a_al0 (by decide) dX9_readsShift_31 ?_
    refine aw_iconst dX9_readsShift_32 (by decide) ?_
    refine aw_callV 4 0 0 dX9_readsShift_33 yw_X9_must ml_X9_143 in_X9_must se_X9_must (ci := 8) rfl at_140 (as := [_]) rfl rfl ⟨by decide, by decide, by decide, Nat.le_of_ble_eq_true rfl⟩ ?_
    refine ac_must hT hs1 (fun g2 pf2 hs2 => ?_)
    refine am_cv ?_
    refine a_al0 (by decide) dX9_readsShift_36 ?_
    refine aw_iconst dX9_readsShift_37 (by decide) ?_
    refine aw_sipush dX9_readsShift_38 (by decide) ?_
    refine aw_callV 2 0 0 dX9_readsShift_41 yw_X9_stands ml_X9_147 in_X9_stands se_X9_stands (ci := 8) rfl at_140 (as := [_, _]) rfl rfl ⟨by decide, by decide, by decide, Nat.le_of_ble_eq_true rfl⟩ ?_
    refine ac_stands hs2 (fun g3 pf3 hs3 => ?_)
    have p3 := PFr_trans pf (PFr_trans pf2 pf3)
    have c1 : g3 140 14 = (standS S 0 999 (shft3 S (h 141) st)).2.1 := hs3.2.2.1
    have e9 : g3 141 9 = h 141 9 := p3 _ _ (by omega)
    refine am_ci ?_
    try simp (disch := omega) only [up_at, up_ne]
    refine a_is2 rfl rfl dX9_readsShift_44 ?_
    refine a_al0 (by decide) dX9_readsShift_45 ?_
    refine aw_get 14 dX9_readsShift_46 fl_X9_120 at_140 rfl ?_
    try simp (disch := omega) only [up_at, up_ne]
    refine aw_if_ne 67 dX9_readsShift_49 (by decide) (fun c49 => ?_) (fun c49 => ?_)
    · skip
      refine rs67 hT hm h88 kk p3 ?_
      rw [failS_W (by omega)]
      unfold cif
      split <;> exact hs3
    · refine a_al0 (by decide) dX9_readsShift_52 ?_
      refine a_il2 dX9_readsShift_53 ?_
      refine aw_callV 1 0 0 dX9_readsShift_54 yw_X9_shiftOf ml_X9_150 in_X9_shiftOf se_X9_shiftOf (ci := 8) rfl at_140 (as := [_]) rfl rfl ⟨by decide, by decide, by decide, Nat.le_of_ble_eq_true rfl⟩ ?_
      refine ac_shiftOf (by rw [e9]; exact hm) (fun x hx => ?_)
      have hx2 := isFst_ex hx
      have hEx : (∃ k, 0 ≤ k ∧ k < h 141 9 ∧ h 141 (10 + 3 * k) = standV S 0 999 (shft3 S (h 141) st)) ↔ ¬ x = -1 := by
        rw [← hx2, e9]
        unfold mSh
        rw [PFr_row p3]
        exact Iff.rfl
      by_cases ex : x = -1
      · rw [if_pos ex]
        refine am_ci ?_
        try simp (disch := omega) only [up_at, up_ne]
        refine aw_iconst dX9_readsShift_57 (by decide) ?_
        refine aw_icmp_eq 67 dX9_readsShift_58 (by decide) (fun c58 => ?_) (fun c58 => ?_)
        · skip
          refine rs67 hT hm h88 kk p3 ?_
          rw [cif_neg (fun y => hEx.mp y ex)]
          exact hs3
        · exfalso; omega
      · have hx3 : 0 ≤ x := by
          rcases hx with y | y
          · exact y.1
          · exact absurd y.1 ex
        rw [if_neg ex]
        refine am_ci ?_
        try simp (disch := omega) only [up_at, up_ne]
        refine aw_iconst dX9_readsShift_57 (by decide) ?_
        refine aw_icmp_eq 67 dX9_readsShift_58 (by decide) (fun c58 => ?_) (fun c58 => ?_)
        · exfalso; omega
        · refine a_al0 (by decide) dX9_readsShift_61 ?_
          refine aw_bipush dX9_readsShift_62 (by decide) ?_
          refine aw_callV 1 0 0 dX9_readsShift_64 yw_X9_fails ml_X9_126 in_X9_fails se_X9_fails (ci := 8) rfl at_140 (as := [_]) rfl rfl ⟨by decide, by decide, by decide, Nat.le_of_ble_eq_true rfl⟩ ?_
          refine ac_fails hs3 (by decide) (fun g4 pf4 hs4 => ?_)
          refine am_cv ?_
          refine rs67 hT hm h88 kk (PFr_trans p3 pf4) ?_
          rw [cif_pos (hEx.mpr ex)]
          exact hs4
  refine ac_of (ls := [(2, 140), (9, 0), (9, 0), (9, 0), (9, 0)]) pn_X9 rfl (Nat.le_of_ble_eq_true rfl) rfl ?_
  refine aw_bipush dX9_readsShift_0 (by decide) ?_
  refine aw_iconst dX9_readsShift_2 (by decide) ?_
  refine a_al0 (by decide) dX9_readsShift_3 ?_
  refine aw_getR (r := 141) 0 rfl dX9_readsShift_4 fl_X9_7 at_140 rfl rfl ?_
  refine aw_bipush dX9_readsShift_7 (by decide) ?_
  refine aw_iald dX9_readsShift_9 ar_141 (by omega) ?_
  refine aw_imulR (by omega) dX9_readsShift_10 ?_
  refine aw_iaddR (by omega) dX9_readsShift_11 ?_
  refine a_is1 rfl rfl dX9_readsShift_12 ?_
  refine a_al0 (by decide) dX9_readsShift_13 ?_
  refine aw_getR (r := 141) 0 rfl dX9_readsShift_14 fl_X9_7 at_140 rfl rfl ?_
  refine aw_bipush dX9_readsShift_17 (by decide) ?_
  refine aw_iald dX9_readsShift_19 ar_141 (by omega) ?_
  refine aw_bipush dX9_readsShift_20 (by decide) ?_
  refine aw_icmp_ne 31 dX9_readsShift_22 (by decide) (fun c22 => ?_) (fun c22 => ?_)
  · skip
    refine J h (PFr_refl h) ?_
    rw [if_neg (by omega)]
    exact hs
  · refine a_al0 (by decide) dX9_readsShift_25 ?_
    refine aw_bipush dX9_readsShift_26 (by decide) ?_
    refine aw_callV 1 0 0 dX9_readsShift_28 yw_X9_fails ml_X9_126 in_X9_fails se_X9_fails (ci := 8) rfl at_140 (as := [_]) rfl rfl ⟨by decide, by decide, by decide, Nat.le_of_ble_eq_true rfl⟩ ?_
    refine ac_fails hs (by decide) (fun g pf hs1 => ?_)
    refine am_cv ?_
    refine J g pf ?_
    rw [if_pos (by omega)]
    exact hs1
