/-! the class: tokens of its text -/
def cTx (S : Int → Int) (L : Int) (h : AH) : Prop := h 2 1 = L ∧ ∀ k, 0 ≤ k → k < L → h 3 k = S k
/-- what tokens may change -/
def cTF (h g : AH) : Prop := ∀ k x, ¬ (k = 2 ∧ 4 ≤ x ∧ x ≤ 7) → g k x = h k x
/-- .. and errors -/
def cEF (h g : AH) : Prop := ∀ k x, ¬ (k = 2 ∧ 2 ≤ x ∧ x ≤ 7) → g k x = h k x
theorem cTF_refl (h : AH) : cTF h h := fun _ _ _ => rfl
theorem cTF_up {h g : AH} {f v : Int} (hf : 4 ≤ f ∧ f ≤ 7) (p : cTF h g) : cTF h (up g 2 f v) := fun k x a => by rw [up_ne (by omega), p k x a]
theorem cTF_trans {h g f : AH} (a : cTF h g) (b : cTF g f) : cTF h f := fun k x p => by rw [b k x p, a k x p]
theorem cTF_E {h g : AH} (p : cTF h g) : cEF h g := fun k x a => p k x (by omega)
theorem cEF_up {h g : AH} {f v : Int} (hf : 2 ≤ f ∧ f ≤ 7) (p : cEF h g) : cEF h (up g 2 f v) := fun k x a => by rw [up_ne (by omega), p k x a]
theorem cEF_trans {h g f : AH} (a : cEF h g) (b : cEF g f) : cEF h f := fun k x p => by rw [b k x p, a k x p]
theorem cTx_E {S : Int → Int} {L : Int} {h g : AH} (p : cEF h g) (hx : cTx S L h) : cTx S L g := ⟨by rw [p _ _ (by omega)]; exact hx.1, fun k a b => by rw [p _ _ (by omega)]; exact hx.2 k a b⟩
theorem cTx_T {S : Int → Int} {L : Int} {h g : AH} (p : cTF h g) (hx : cTx S L h) : cTx S L g := cTx_E (cTF_E p) hx
/-- the end of the word at p -/
def wE (S : Int → Int) (p : Int) : Int := rnF (isLe S) 700 (aP S p)
theorem wE_rg {S : Int → Int} {L p : Int} (hT : TxS S L) (hp : 0 ≤ p ∧ p ≤ L) : aP S p ≤ wE S p ∧ wE S p ≤ L ∧ isLe S (wE S p) = false ∧ ∀ j, aP S p ≤ j → j < wE S p → isLe S j = true := rnF_sp _ (isLe_L hT) 700 (aP S p) (aP_rg hT hp).2.1 (by have := hT.1; have := (aP_rg hT hp).1; omega)
theorem ac_skipSpaces {S : Int → Int} {L p : Int} {h : AH} {K : AO → Nat → AH → Prop} (hT : TxS S L) (hx : cTx S L h) (hp : 0 ≤ p ∧ p ≤ L) (h5 : h 2 5 = p) (kk : ∀ h', cTF h h' → h' 2 4 = aP S p → h' 2 5 = aP S p → K (.inl none) 159 h') : AC mX5_skipSpaces 1 0 0 159 [(2, 2)] h K := by
  obtain ⟨a1, a2, a3, a4⟩ := aP_rg hT hp
  have hLL := hT.1
  refine ac_of (ls := [(2, 2)]) pn_X5 rfl (Nat.le_of_ble_eq_true rfl) rfl ?_
  refine a_al0 (by decide) dX5_skipSpaces_0 ?_
  refine a_al0 (by decide) dX5_skipSpaces_1 ?_
  refine aw_get 5 dX5_skipSpaces_2 fl_X5_25 at_2 rfl ?_
  refine aw_put 4 dX5_skipSpaces_5 fp_X5_22 at_2 rfl ?_
  rw [h5]
  refine aw_loop (fun q : Int × AH => p ≤ q.1 ∧ q.1 ≤ L ∧ cTF h q.2 ∧ q.2 2 4 = q.1 ∧ ∀ j, p ≤ j → j < q.1 → isSp S j = true) (fun q => (L - q.1).toNat) (fun q => AW mX5_skipSpaces 1 0 0 K 159 8 [(2, 2)] [] q.2) (fun q hq ih => ?_) (p, up h 2 4 p) ⟨by dsimp only; omega, hp.2, cTF_up (by decide) (cTF_refl h), by dsimp only; exact up_at _ _ _ _, fun j x y => by dsimp only at y; omega⟩
  obtain ⟨q, g⟩ := q
  obtain ⟨q1, q2, pf, e4, ed⟩ := hq
  dsimp only at q1 q2 pf e4 ed ih ⊢
  have gx := cTx_T pf hx
  have J46 : isSp S q = false → AW mX5_skipSpaces 1 0 0 K 159 46 [(2, 2)] [] g := fun c => by
    have eq9 : aP S p = q := rnF_eq _ 700 _ _ q1 (by omega) ed c
    refine a_al0 (by decide) dX5_skipSpaces_46 ?_
    refine a_al0 (by decide) dX5_skipSpaces_47 ?_
    refine aw_get 4 dX5_skipSpaces_48 fl_X5_22 at_2 rfl ?_
    refine aw_put 5 dX5_skipSpaces_51 fp_X5_25 at_2 rfl ?_
    refine aw_vret dX5_skipSpaces_54 rfl ?_
    refine kk _ (cTF_up (by decide) pf) ?_ ?_
    · rw [up_ne (by omega), e4, eq9]
    · rw [up_at, e4, eq9]
  refine a_al0 (by decide) dX5_skipSpaces_8 ?_
  refine aw_get 4 dX5_skipSpaces_9 fl_X5_22 at_2 rfl ?_
  refine a_al0 (by decide) dX5_skipSpaces_12 ?_
  refine aw_get 1 dX5_skipSpaces_13 fl_X5_19 at_2 rfl ?_
  refine aw_icmp_ge 46 dX5_skipSpaces_16 (by decide) (fun c16 => ?_) (fun c16 => ?_)
  · skip
    exact J46 (isSp_L hT q (by have := gx.1; omega))
  · have hqL : q < L := by have := gx.1; omega
    have eb : g 3 q = S q := gx.2 q (by omega) hqL
    refine a_al0 (by decide) dX5_skipSpaces_19 ?_
    refine aw_getR (r := 3) 0 rfl dX5_skipSpaces_20 fl_X5_9 at_2 rfl rfl ?_
    refine a_al0 (by decide) dX5_skipSpaces_23 ?_
    refine aw_get 4 dX5_skipSpaces_24 fl_X5_22 at_2 rfl ?_
    refine aw_iald dX5_skipSpaces_27 ar_3 (by omega) ?_
    refine aw_bipush dX5_skipSpaces_28 (by decide) ?_
    refine aw_icmp_ne 46 dX5_skipSpaces_30 (by decide) (fun c30 => ?_) (fun c30 => ?_)
    · skip
      refine J46 (decide_eq_false ?_)
      rw [← eb, ← e4]
      assumption
    · have c : S q = 32 := by
        rw [← eb, ← e4]
        assumption
      refine a_al0 (by decide) dX5_skipSpaces_33 ?_
      refine aw_dup dX5_skipSpaces_34 rfl ?_
      refine aw_get 4 dX5_skipSpaces_35 fl_X5_22 at_2 rfl ?_
      refine aw_iconst dX5_skipSpaces_38 (by decide) ?_
      refine aw_iaddR (by omega) dX5_skipSpaces_39 ?_
      refine aw_put 4 dX5_skipSpaces_40 fp_X5_22 at_2 rfl ?_
      refine aw_goto 8 dX5_skipSpaces_43 (by decide) ?_
      rw [e4]
      refine ih (q + 1, up g 2 4 (q + 1)) ⟨by dsimp only; omega, by dsimp only; omega, cTF_up (by decide) pf, by dsimp only; exact up_at _ _ _ _, fun j x y => ?_⟩ (by dsimp only; omega)
      dsimp only at y
      by_cases z : j = q
      · rw [z]; exact decide_eq_true c
      · exact ed j x (by omega)
theorem ac_nextWord {S : Int → Int} {L p : Int} {h : AH} {K : AO → Nat → AH → Prop} (hT : TxS S L) (hx : cTx S L h) (hp : 0 ≤ p ∧ p ≤ L) (h5 : h 2 5 = p) (kk : ∀ h', cTF h h' → h' 2 4 = aP S p → h' 2 5 = wE S p → K (.inl none) 159 h') : AC mX5_nextWord 2 0 0 159 [(2, 2)] h K := by
  obtain ⟨a1, a2, a3, a4⟩ := aP_rg hT hp
  have hLL := hT.1
  refine ac_of (ls := [(2, 2)]) pn_X5 rfl (Nat.le_of_ble_eq_true rfl) rfl ?_
  refine a_al0 (by decide) dX5_nextWord_0 ?_
  refine aw_callV 1 0 0 dX5_nextWord_1 yw_X5_skipSpaces ml_X5_31 in_X5_skipSpaces se_X5_skipSpaces (ci := 4) rfl at_2 (as := []) rfl rfl ⟨by decide, by decide, by decide, Nat.le_of_ble_eq_true rfl⟩ ?_
  refine ac_skipSpaces hT hx hp h5 (fun h1 f1 e4 e5 => ?_)
  refine am_cv ?_
  refine aw_loop (fun q : Int × AH => aP S p ≤ q.1 ∧ q.1 ≤ L ∧ cTF h q.2 ∧ q.2 2 4 = aP S p ∧ q.2 2 5 = q.1 ∧ ∀ j, aP S p ≤ j → j < q.1 → isLe S j = true) (fun q => (L - q.1).toNat) (fun q => AW mX5_nextWord 2 0 0 K 159 4 [(2, 2)] [] q.2) (fun q hq ih => ?_) (aP S p, h1) ⟨by dsimp only; omega, a2, f1, e4, e5, fun j x y => by dsimp only at y; omega⟩
  obtain ⟨q, g⟩ := q
  obtain ⟨q1, q2, pf, e4, e5, ed⟩ := hq
  dsimp only at q1 q2 pf e4 e5 ed ih ⊢
  have gx := cTx_T pf hx
  have J56 : isLe S q = false → AW mX5_nextWord 2 0 0 K 159 56 [(2, 2)] [] g := fun c => by
    have eq9 : wE S p = q := rnF_eq _ 700 _ _ q1 (by omega) ed c
    refine aw_vret dX5_nextWord_56 rfl ?_
    exact kk _ pf e4 (by rw [e5, eq9])
  refine a_al0 (by decide) dX5_nextWord_4 ?_
  refine aw_get 5 dX5_nextWord_5 fl_X5_25 at_2 rfl ?_
  refine a_al0 (by decide) dX5_nextWord_8 ?_
  refine aw_get 1 dX5_nextWord_9 fl_X5_19 at_2 rfl ?_
  refine aw_icmp_ge 56 dX5_nextWord_12 (by decide) (fun c12 => ?_) (fun c12 => ?_)
  · skip
    exact J56 (isLe_L hT q (by have := gx.1; omega))
  · have hqL : q < L := by have := gx.1; omega
    have eb : g 3 (g 2 5) = S q := by rw [e5]; exact gx.2 q (by omega) hqL
    refine a_al0 (by decide) dX5_nextWord_15 ?_
    refine aw_getR (r := 3) 0 rfl dX5_nextWord_16 fl_X5_9 at_2 rfl rfl ?_
    refine a_al0 (by decide) dX5_nextWord_19 ?_
    refine aw_get 5 dX5_nextWord_20 fl_X5_25 at_2 rfl ?_
    refine aw_iald dX5_nextWord_23 ar_3 (by omega) ?_
    refine aw_bipush dX5_nextWord_24 (by decide) ?_
    refine aw_icmp_lt 56 dX5_nextWord_26 (by decide) (fun c26 => ?_) (fun c26 => ?_)
    · skip
      exact J56 (decide_eq_false (by omega))
    · refine a_al0 (by decide) dX5_nextWord_29 ?_
      refine aw_getR (r := 3) 0 rfl dX5_nextWord_30 fl_X5_9 at_2 rfl rfl ?_
      refine a_al0 (by decide) dX5_nextWord_33 ?_
      refine aw_get 5 dX5_nextWord_34 fl_X5_25 at_2 rfl ?_
      refine aw_iald dX5_nextWord_37 ar_3 (by omega) ?_
      refine aw_bipush dX5_nextWord_38 (by decide) ?_
      refine aw_icmp_gt 56 dX5_nextWord_40 (by decide) (fun c40 => ?_) (fun c40 => ?_)
      · skip
        exact J56 (decide_eq_false (by omega))
      · have c : isLe S q = true := decide_eq_true (by omega)
        refine a_al0 (by decide) dX5_nextWord_43 ?_
        refine aw_dup dX5_nextWord_44 rfl ?_
        refine aw_get 5 dX5_nextWord_45 fl_X5_25 at_2 rfl ?_
        refine aw_iconst dX5_nextWord_48 (by decide) ?_
        refine aw_iaddR (by omega) dX5_nextWord_49 ?_
        refine aw_put 5 dX5_nextWord_50 fp_X5_25 at_2 rfl ?_
        refine aw_goto 4 dX5_nextWord_53 (by decide) ?_
        rw [e5]
        refine ih (q + 1, up g 2 5 (q + 1)) ⟨by dsimp only; omega, by dsimp only; omega, cTF_up (by decide) pf, by dsimp only; rw [up_ne (by omega)]; exact e4, by dsimp only; exact up_at _ _ _ _, fun j x y => ?_⟩ (by dsimp only; omega)
        dsimp only at y
        by_cases z : j = q
        · rw [z]; exact c
        · exact ed j x (by omega)
theorem ac_isEmpty {h : AH} {K : AO → Nat → AH → Prop} (k1 : h 2 5 = h 2 4 → K (.inl (some (0, 1))) 159 h) (k0 : ¬ h 2 5 = h 2 4 → K (.inl (some (0, 0))) 159 h) : AC mX5_isEmpty 1 0 0 159 [(2, 2)] h K := by
  refine ac_of (ls := [(2, 2)]) pn_X5 rfl (Nat.le_of_ble_eq_true rfl) rfl ?_
  refine a_al0 (by decide) dX5_isEmpty_0 ?_
  refine aw_get 5 dX5_isEmpty_1 fl_X5_25 at_2 rfl ?_
  refine a_al0 (by decide) dX5_isEmpty_4 ?_
  refine aw_get 4 dX5_isEmpty_5 fl_X5_22 at_2 rfl ?_
  refine aw_icmp_ne 15 dX5_isEmpty_8 (by decide) (fun c8 => ?_) (fun c8 => ?_)
  · refine aw_iconst dX5_isEmpty_15 (by decide) ?_
    refine aw_zret dX5_isEmpty_16 rfl (by omega) ?_
    exact k0 (by assumption)
  · refine aw_iconst dX5_isEmpty_11 (by decide) ?_
    refine aw_goto 16 dX5_isEmpty_12 (by decide) ?_
    refine aw_zret dX5_isEmpty_16 rfl (by omega) ?_
    exact k1 (by omega)
theorem ac_isAtEnd {h : AH} {K : AO → Nat → AH → Prop} (k1 : h 2 1 ≤ h 2 4 → K (.inl (some (0, 1))) 159 h) (k0 : ¬ h 2 1 ≤ h 2 4 → K (.inl (some (0, 0))) 159 h) : AC mX5_isAtEnd 1 0 0 159 [(2, 2)] h K := by
  refine ac_of (ls := [(2, 2)]) pn_X5 rfl (Nat.le_of_ble_eq_true rfl) rfl ?_
  refine a_al0 (by decide) dX5_isAtEnd_0 ?_
  refine aw_get 4 dX5_isAtEnd_1 fl_X5_22 at_2 rfl ?_
  refine a_al0 (by decide) dX5_isAtEnd_4 ?_
  refine aw_get 1 dX5_isAtEnd_5 fl_X5_19 at_2 rfl ?_
  refine aw_icmp_lt 15 dX5_isAtEnd_8 (by decide) (fun c8 => ?_) (fun c8 => ?_)
  · refine aw_iconst dX5_isAtEnd_15 (by decide) ?_
    refine aw_zret dX5_isAtEnd_16 rfl (by omega) ?_
    exact k0 (by omega)
  · refine aw_iconst dX5_isAtEnd_11 (by decide) ?_
    refine aw_goto 16 dX5_isAtEnd_12 (by decide) ?_
    refine aw_zret dX5_isAtEnd_16 rfl (by omega) ?_
    exact k1 (by omega)
theorem ac_failHere {c : Int} {h : AH} {K : AO → Nat → AH → Prop} (k : K (.inl (some (0, 0))) 159 (up (up h 2 2 c) 2 3 (h 2 4))) : AC mX5_failHere 1 0 0 159 [(2, 2), (0, c)] h K := by
  refine ac_of (ls := [(2, 2), (0, c)]) pn_X5 rfl (Nat.le_of_ble_eq_true rfl) rfl ?_
  refine a_al0 (by decide) dX5_failHere_0 ?_
  refine a_il1 dX5_failHere_1 ?_
  refine aw_put 2 dX5_failHere_2 fp_X5_28 at_2 rfl ?_
  refine a_al0 (by decide) dX5_failHere_5 ?_
  refine a_al0 (by decide) dX5_failHere_6 ?_
  refine aw_get 4 dX5_failHere_7 fl_X5_22 at_2 rfl ?_
  try simp (disch := omega) only [up_at, up_ne]
  refine aw_put 3 dX5_failHere_10 fp_X5_15 at_2 rfl ?_
  refine aw_iconst dX5_failHere_13 (by decide) ?_
  refine aw_zret dX5_failHere_14 rfl (by omega) ?_
  exact k
theorem ac_failT {c p : Int} {h : AH} {K : AO → Nat → AH → Prop} (k : K (.inl (some (0, 0))) 159 (up (up h 2 2 c) 2 3 p)) : AC mX5_fail 1 0 0 159 [(2, 2), (0, c), (0, p)] h K := by
  refine ac_of (ls := [(2, 2), (0, c), (0, p)]) pn_X5 rfl (Nat.le_of_ble_eq_true rfl) rfl ?_
  refine a_al0 (by decide) dX5_fail_0 ?_
  refine a_il1 dX5_fail_1 ?_
  refine aw_put 2 dX5_fail_2 fp_X5_28 at_2 rfl ?_
  refine a_al0 (by decide) dX5_fail_5 ?_
  refine a_il2 dX5_fail_6 ?_
  refine aw_put 3 dX5_fail_7 fp_X5_15 at_2 rfl ?_
  refine aw_iconst dX5_fail_10 (by decide) ?_
  refine aw_zret dX5_fail_11 rfl (by omega) ?_
  exact k
theorem ac_beginT {h : AH} {K : AO → Nat → AH → Prop} (k : K (.inl none) 159 (up (up (up (up h 2 4 0) 2 5 0) 2 2 0) 2 3 (-1))) : AC mX5_begin 1 0 0 159 [(2, 2)] h K := by
  refine ac_of (ls := [(2, 2)]) pn_X5 rfl (Nat.le_of_ble_eq_true rfl) rfl ?_
  refine a_al0 (by decide) dX5_begin_0 ?_
  refine aw_iconst dX5_begin_1 (by decide) ?_
  refine aw_put 4 dX5_begin_2 fp_X5_22 at_2 rfl ?_
  refine a_al0 (by decide) dX5_begin_5 ?_
  refine aw_iconst dX5_begin_6 (by decide) ?_
  refine aw_put 5 dX5_begin_7 fp_X5_25 at_2 rfl ?_
  refine a_al0 (by decide) dX5_begin_10 ?_
  refine aw_iconst dX5_begin_11 (by decide) ?_
  refine aw_put 2 dX5_begin_12 fp_X5_28 at_2 rfl ?_
  refine a_al0 (by decide) dX5_begin_15 ?_
  refine aw_iconst dX5_begin_16 (by decide) ?_
  refine aw_put 3 dX5_begin_17 fp_X5_15 at_2 rfl ?_
  refine aw_vret dX5_begin_20 rfl ?_
  exact k
theorem ac_byteAt {S : Int → Int} {L p : Int} {h : AH} {K : AO → Nat → AH → Prop} (hT : TxS S L) (hx : cTx S L h) (hp : 0 ≤ p) (k : K (.inl (some (0, if p < L then S p else 0))) 159 h) : AC mX5_byteAt 1 0 0 159 [(2, 2), (0, p)] h K := by
  have hLL := hT.1
  obtain ⟨x1, x2⟩ := hx
  refine ac_of (ls := [(2, 2), (0, p)]) pn_X5 rfl (Nat.le_of_ble_eq_true rfl) rfl ?_
  refine a_il1 dX5_byteAt_0 ?_
  refine aw_if_lt 28 dX5_byteAt_1 (by decide) (fun c1 => ?_) (fun c1 => ?_)
  · exfalso; omega
  · refine a_il1 dX5_byteAt_4 ?_
    refine a_al0 (by decide) dX5_byteAt_5 ?_
    refine aw_get 1 dX5_byteAt_6 fl_X5_19 at_2 rfl ?_
    refine aw_icmp_ge 28 dX5_byteAt_9 (by decide) (fun c9 => ?_) (fun c9 => ?_)
    · rw [if_neg (by omega)] at k
      refine aw_iconst dX5_byteAt_28 (by decide) ?_
      refine aw_iret dX5_byteAt_29 rfl ?_
      exact k
    · rw [if_pos (by omega), ← x2 p hp (by omega)] at k
      refine a_il1 dX5_byteAt_12 ?_
      refine aw_sipush dX5_byteAt_13 (by decide) ?_
      refine aw_icmp_ge 28 dX5_byteAt_16 (by decide) (fun c16 => ?_) (fun c16 => ?_)
      · exfalso; omega
      · refine a_al0 (by decide) dX5_byteAt_19 ?_
        refine aw_getR (r := 3) 0 rfl dX5_byteAt_20 fl_X5_9 at_2 rfl rfl ?_
        refine a_il1 dX5_byteAt_23 ?_
        refine aw_iald dX5_byteAt_24 ar_3 (by omega) ?_
        refine aw_goto 29 dX5_byteAt_25 (by decide) ?_
        refine aw_iret dX5_byteAt_29 rfl ?_
        exact k
theorem ac_takeSemicolon {S : Int → Int} {L p : Int} {h : AH} {K : AO → Nat → AH → Prop} (hT : TxS S L) (hx : cTx S L h) (hp : 0 ≤ p ∧ p ≤ L) (h5 : h 2 5 = p) (k1 : S (aP S p) = 59 → ∀ h', cTF h h' → h' 2 5 = aP S p + 1 → K (.inl (some (0, 1))) 159 h') (k0 : ¬ S (aP S p) = 59 → ∀ h', cEF h h' → h' 2 2 = -2 → h' 2 3 = aP S p → K (.inl (some (0, 0))) 159 h') : AC mX5_takeSemicolon 2 0 0 159 [(2, 2)] h K := by
  obtain ⟨a1, a2, a3, a4⟩ := aP_rg hT hp
  have hLL := hT.1
  refine ac_of (ls := [(2, 2)]) pn_X5 rfl (Nat.le_of_ble_eq_true rfl) rfl ?_
  refine a_al0 (by decide) dX5_takeSemicolon_0 ?_
  refine aw_callV 1 0 0 dX5_takeSemicolon_1 yw_X5_skipSpaces ml_X5_31 in_X5_skipSpaces se_X5_skipSpaces (ci := 4) rfl at_2 (as := []) rfl rfl ⟨by decide, by decide, by decide, Nat.le_of_ble_eq_true rfl⟩ ?_
  refine ac_skipSpaces hT hx hp h5 (fun h1 f1 e4 e5 => ?_)
  refine am_cv ?_
  refine a_al0 (by decide) dX5_takeSemicolon_4 ?_
  refine a_al0 (by decide) dX5_takeSemicolon_5 ?_
  refine aw_get 4 dX5_takeSemicolon_6 fl_X5_22 at_2 rfl ?_
  try simp (disch := omega) only [up_at, up_ne]
  refine aw_callV 1 0 0 dX5_takeSemicolon_9 yw_X5_byteAt ml_X5_67 in_X5_byteAt se_X5_byteAt (ci := 4) rfl at_2 (as := [_]) rfl rfl ⟨by decide, by decide, by decide, Nat.le_of_ble_eq_true rfl⟩ ?_
  rw [e4]
  refine ac_byteAt hT (cTx_T f1 hx) (by omega) ?_
  have e : (if aP S p < L then S (aP S p) else 0) = 59 ↔ S (aP S p) = 59 := by
    by_cases z : aP S p < L
    · rw [if_pos z]
    · rw [if_neg z, hT.2.2 (aP S p) (by omega)]
      decide
  refine am_ci ?_
  try simp (disch := omega) only [up_at, up_ne]
  refine aw_bipush dX5_takeSemicolon_12 (by decide) ?_
  refine aw_icmp_eq 24 dX5_takeSemicolon_14 (by decide) (fun c14 => ?_) (fun c14 => ?_)
  · refine a_al0 (by decide) dX5_takeSemicolon_24 ?_
    refine a_al0 (by decide) dX5_takeSemicolon_25 ?_
    refine aw_get 4 dX5_takeSemicolon_26 fl_X5_22 at_2 rfl ?_
    try simp (disch := omega) only [up_at, up_ne]
    refine aw_iconst dX5_takeSemicolon_29 (by decide) ?_
    refine aw_iaddR (by omega) dX5_takeSemicolon_30 ?_
    refine aw_put 5 dX5_takeSemicolon_31 fp_X5_25 at_2 rfl ?_
    refine aw_iconst dX5_takeSemicolon_34 (by decide) ?_
    refine aw_zret dX5_takeSemicolon_35 rfl (by omega) ?_
    rw [e4]
    exact k1 (e.mp (by assumption)) _ (cTF_up (by decide) f1) (up_at _ _ _ _)
  · refine a_al0 (by decide) dX5_takeSemicolon_17 ?_
    refine aw_bipush dX5_takeSemicolon_18 (by decide) ?_
    refine aw_callV 1 0 0 dX5_takeSemicolon_20 yw_X5_failHere ml_X5_50 in_X5_failHere se_X5_failHere (ci := 4) rfl at_2 (as := [_]) rfl rfl ⟨by decide, by decide, by decide, Nat.le_of_ble_eq_true rfl⟩ ?_
    refine ac_failHere ?_
    rw [e4]
    refine am_ci ?_
    try simp (disch := omega) only [up_at, up_ne]
    refine aw_zret dX5_takeSemicolon_23 rfl (by omega) ?_
    exact k0 (fun q => absurd (e.mpr q) (by assumption)) _ (cEF_up (by decide) (cEF_up (by decide) (cTF_E f1))) (by rw [up_ne (by omega), up_at]) (up_at _ _ _ _)
