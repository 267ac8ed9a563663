/-! reading: words and names -/
def wdQ (S : Int → Int) (p : Int) (w : List Int) : Prop := kP S p = 0 ∧ bP S p - aP S p = w.length ∧ ∀ j : Nat, j < w.length → S (aP S p + j) = w.getD j 0
def wdS (S : Int → Int) (st : PS) (w : List Int) : Prop := st.2.1 = 0 ∧ wdQ S st.1 w
abbrev wO (i : Nat) : List Int := am_by.getD i []
theorem ac_isWord {S : Int → Int} {L : Int} {st : PS} {i : Nat} {q : String × Nat × String} {h : AH} {K : AO → Nat → AH → Prop} (hT : TxS S L) (hs : Sts S L st h) (hq : am_st[i]? = some q) (k1 : wdS S st (wO i) → K (.inl (some (0, 1))) 159 h) (k0 : ¬ wdS S st (wO i) → K (.inl (some (0, 0))) 159 h) : AC mX9_isWord 5 0 0 159 [(2, 140), (2, 2000 + (i : Int))] h K := by
  have hi := am_st44 hq
  have hlb := (am_byl ⟨i, hi⟩).1
  dsimp only at hlb
  obtain ⟨x1, ⟨a1, a2, a3, a4⟩, c1, c2, c3⟩ := hs
  have hb := bP_rg hT c3
  have ha := aP_rg hT c3
  have hL := hT.1
  have hkr := kP_rg S st.1
  have J : ¬ wdS S st (wO i) → AW mX9_isWord 5 0 0 K 159 30 [(2, 140), (2, 2000 + (i : Int)), (9, 0)] [] h := fun q => by
    refine aw_iconst dX9_isWord_30 (by decide) ?_
    refine aw_zret dX9_isWord_31 rfl (by omega) ?_
    exact k0 q
  refine ac_of (ls := [(2, 140), (2, 2000 + (i : Int)), (9, 0)]) pn_X9 rfl (Nat.le_of_ble_eq_true rfl) rfl ?_
  refine a_al0 (by decide) dX9_isWord_0 ?_
  refine aw_get 14 dX9_isWord_1 fl_X9_120 at_140 rfl ?_
  refine aw_if_ne 30 dX9_isWord_4 (by decide) (fun c4 => ?_) (fun c4 => ?_)
  · skip
    exact J (fun x => by have := x.1; omega)
  · refine a_al0 (by decide) dX9_isWord_7 ?_
    refine aw_get 12 dX9_isWord_8 fl_X9_104 at_140 rfl ?_
    refine aw_if_ne 30 dX9_isWord_11 (by decide) (fun c11 => ?_) (fun c11 => ?_)
    · skip
      exact J (fun x => by have := x.2.1; omega)
    · refine a_al0 (by decide) dX9_isWord_14 ?_
      refine aw_get 11 dX9_isWord_15 fl_X9_95 at_140 rfl ?_
      refine a_al0 (by decide) dX9_isWord_18 ?_
      refine aw_get 10 dX9_isWord_19 fl_X9_98 at_140 rfl ?_
      refine aw_isubR (by omega) dX9_isWord_22 ?_
      rw [a1, a2]
      refine a_alX1 (am_orS hi) dX9_isWord_23 ?_
      refine aw_callStr 2 0 0 dX9_isWord_24 yw_J0_length_8abf5 ml_X9_133 in_J0_length_8abf5 se_J0_length_8abf5 rfl hq rfl (as := []) rfl rfl ⟨by decide, by decide, by decide, Nat.le_of_ble_eq_true rfl⟩ ?_
      refine ac_slength hq ?_
      refine am_ci ?_
      refine aw_icmp_eq 32 dX9_isWord_27 (by decide) (fun c27 => ?_) (fun c27 => ?_)
      · refine aw_iconst dX9_isWord_32 (by decide) ?_
        refine a_is2 rfl rfl dX9_isWord_33 ?_
        have hlen : bP S st.1 - aP S st.1 = (wO i).length := by omega
        refine aw_loop (fun j : Int => 0 ≤ j ∧ j ≤ (wO i).length ∧ ∀ x : Nat, (x : Int) < j → S (aP S st.1 + x) = (wO i).getD x 0) (fun j => ((wO i).length - j).toNat) (fun j => AW mX9_isWord 5 0 0 K 159 34 [(2, 140), (2, 2000 + (i : Int)), (0, j)] [] h) (fun j hj ih => ?_) 0 ⟨by omega, by omega, fun x hx => by omega⟩
        obtain ⟨j0, j1, hj⟩ := hj
        refine a_il2 dX9_isWord_34 ?_
        refine a_alX1 (am_orS hi) dX9_isWord_35 ?_
        refine aw_callStr 2 0 0 dX9_isWord_36 yw_J0_length_8abf5 ml_X9_133 in_J0_length_8abf5 se_J0_length_8abf5 rfl hq rfl (as := []) rfl rfl ⟨by decide, by decide, by decide, Nat.le_of_ble_eq_true rfl⟩ ?_
        refine ac_slength hq ?_
        refine am_ci ?_
        refine aw_icmp_ge 69 dX9_isWord_39 (by decide) (fun c39 => ?_) (fun c39 => ?_)
        · refine aw_iconst dX9_isWord_69 (by decide) ?_
          refine aw_zret dX9_isWord_70 rfl (by omega) ?_
          exact k1 ⟨by omega, by omega, hlen, fun x hx => hj x (by omega)⟩
        · refine a_al0 (by decide) dX9_isWord_42 ?_
          refine aw_getR (r := 147) 8 rfl dX9_isWord_43 fl_X9_29 at_140 rfl rfl ?_
          refine a_al0 (by decide) dX9_isWord_46 ?_
          refine aw_get 10 dX9_isWord_47 fl_X9_98 at_140 rfl ?_
          refine a_il2 dX9_isWord_50 ?_
          refine aw_iaddR (by omega) dX9_isWord_51 ?_
          refine aw_iald dX9_isWord_52 ar_147 (by omega) ?_
          rw [a1, x1.2 (aP S st.1 + j) (by omega) (by omega)]
          refine a_alX1 (am_orS hi) dX9_isWord_53 ?_
          refine a_il2 dX9_isWord_54 ?_
          refine aw_callStr 4 0 0 dX9_isWord_55 yw_J0_charAt_5068e ml_X9_139 in_J0_charAt_5068e se_J0_charAt_5068e rfl hq rfl (as := [_]) rfl rfl ⟨by decide, by decide, by decide, Nat.le_of_ble_eq_true rfl⟩ ?_
          refine ac_charAt hq ⟨by omega, by omega⟩ ?_
          refine am_ci ?_
          refine aw_icmp_eq 63 dX9_isWord_58 (by decide) (fun c58 => ?_) (fun c58 => ?_)
          · refine a_iiR2 (by omega) rfl rfl dX9_isWord_63 ?_
            refine aw_goto 34 dX9_isWord_66 (by decide) ?_
            refine ih (j + 1) ⟨by omega, by omega, fun x hx => ?_⟩ (by omega)
            by_cases e : (x : Int) = j
            · rw [e, show x = j.toNat by omega]
              assumption
            · exact hj x (by omega)
          · refine aw_iconst dX9_isWord_61 (by decide) ?_
            refine aw_zret dX9_isWord_62 rfl (by omega) ?_
            refine k0 (fun x => ?_)
            have := x.2.2.2 j.toNat (by omega)
            rw [Int.toNat_of_nonneg j0] at this
            exact absurd this (by assumption)
      · skip
        exact J (fun x => by
          have h2 : bP S st.1 - aP S st.1 = ((am_by.getD i []).length : Int) := x.2.2.1
          omega)
/-- letter k of the name that stands at p -/
def nmv (S : Int → Int) (p k : Int) : Int := if aP S p + k < bP S p then S (aP S p + k) else 0
def nmQ (S : Int → Int) (p : Int) (r : Int → Int) (x : Int) : Prop := ∀ k, 0 ≤ k → k < 8 → r (x + k) = nmv S p k
theorem ac_isName {S : Int → Int} {L r x : Int} {lr : Nat} {st : PS} {h : AH} {K : AO → Nat → AH → Prop} (hT : TxS S L) (hs : Sts S L st h) (hr : am_ar 159 r 100 lr) (hx : 0 ≤ x ∧ x + 8 ≤ lr) (hlr : lr ≤ 20000) (k1 : nmQ S st.1 (h r) x → K (.inl (some (0, 1))) 159 h) (k0 : ¬ nmQ S st.1 (h r) x → K (.inl (some (0, 0))) 159 h) : AC mX9_isName 1 0 0 159 [(2, 140), (2, r), (0, x)] h K := by
  obtain ⟨x1, ⟨a1, a2, a3, a4⟩, c1, c2, c3⟩ := hs
  have hb := bP_rg hT c3
  have ha := aP_rg hT c3
  have hL := hT.1
  refine ac_of (ls := [(2, 140), (2, r), (0, x), (9, 0)]) pn_X9 rfl (Nat.le_of_ble_eq_true rfl) rfl ?_
  refine aw_iconst dX9_isName_0 (by decide) ?_
  refine a_is3 rfl rfl dX9_isName_1 ?_
  refine aw_loop (fun j : Int => 0 ≤ j ∧ j ≤ 8 ∧ ∀ k, 0 ≤ k → k < j → h r (x + k) = nmv S st.1 k) (fun j => (8 - j).toNat) (fun j => AW mX9_isName 1 0 0 K 159 2 [(2, 140), (2, r), (0, x), (0, j)] [] h) (fun j hj ih => ?_) 0 ⟨by omega, by omega, fun k a b => by omega⟩
  obtain ⟨j0, j1, hj⟩ := hj
  have J : ∀ v, j < 8 → v = nmv S st.1 j → AW mX9_isName 1 0 0 K 159 41 [(2, 140), (2, r), (0, x), (0, j)] [(0, v), (0, h r (x + j))] h := fun v j8 hv => by
    refine aw_icmp_eq 46 dX9_isName_41 (by decide) (fun c41 => ?_) (fun c41 => ?_)
    · refine a_iiR3 (by omega) rfl rfl dX9_isName_46 ?_
      refine aw_goto 2 dX9_isName_49 (by decide) ?_
      refine ih (j + 1) ⟨by omega, by omega, fun k a b => ?_⟩ (by omega)
      by_cases e : k = j
      · rw [e, ← hv]; assumption
      · exact hj k a (by omega)
    · refine aw_iconst dX9_isName_44 (by decide) ?_
      refine aw_zret dX9_isName_45 rfl (by omega) ?_
      refine k0 (fun y => ?_)
      have := y j j0 j8
      rw [← hv] at this
      exact absurd this (by assumption)
  refine a_il3 dX9_isName_2 ?_
  refine aw_bipush dX9_isName_3 (by decide) ?_
  refine aw_icmp_ge 52 dX9_isName_5 (by decide) (fun c5 => ?_) (fun c5 => ?_)
  · refine aw_iconst dX9_isName_52 (by decide) ?_
    refine aw_zret dX9_isName_53 rfl (by omega) ?_
    exact k1 (fun k a b => hj k a (by omega))
  · have j8 : j < 8 := by omega
    refine a_al1 (am_sa_rg hr) dX9_isName_8 ?_
    refine a_il2 dX9_isName_9 ?_
    refine a_il3 dX9_isName_10 ?_
    refine aw_iaddR (by omega) dX9_isName_11 ?_
    refine aw_iald dX9_isName_12 hr (by omega) ?_
    refine a_al0 (by decide) dX9_isName_13 ?_
    refine aw_get 10 dX9_isName_14 fl_X9_98 at_140 rfl ?_
    refine a_il3 dX9_isName_17 ?_
    refine aw_iaddR (by omega) dX9_isName_18 ?_
    refine a_al0 (by decide) dX9_isName_19 ?_
    refine aw_get 11 dX9_isName_20 fl_X9_95 at_140 rfl ?_
    refine aw_icmp_ge 40 dX9_isName_23 (by decide) (fun c23 => ?_) (fun c23 => ?_)
    · have ev : nmv S st.1 j = 0 := if_neg (by rw [a1, a2] at *; omega)
      refine aw_iconst dX9_isName_40 (by decide) ?_
      exact J 0 j8 ev.symm
    · refine a_al0 (by decide) dX9_isName_26 ?_
      refine aw_getR (r := 147) 8 rfl dX9_isName_27 fl_X9_29 at_140 rfl rfl ?_
      refine a_al0 (by decide) dX9_isName_30 ?_
      refine aw_get 10 dX9_isName_31 fl_X9_98 at_140 rfl ?_
      refine a_il3 dX9_isName_34 ?_
      refine aw_iaddR (by omega) dX9_isName_35 ?_
      refine aw_iald dX9_isName_36 ar_147 (by omega) ?_
      refine aw_goto 41 dX9_isName_37 (by decide) ?_
      have ev : nmv S st.1 j = S (aP S st.1 + j) := if_pos (by omega)
      rw [a1, x1.2 (aP S st.1 + j) (by omega) (by omega)]
      exact J _ j8 ev.symm
/-- the name that stands at p is put into cell r from x on -/
def Put (S : Int → Int) (p r x : Int) (h h' : AH) : Prop := (∀ k y, ¬ (k = r ∧ x ≤ y ∧ y < x + 8) → h' k y = h k y) ∧ ∀ k, 0 ≤ k → k < 8 → h' r (x + k) = nmv S p k
theorem ac_putsName {S : Int → Int} {L r x : Int} {lr : Nat} {st : PS} {h : AH} {K : AO → Nat → AH → Prop} (hT : TxS S L) (hs : Sts S L st h) (hr : am_ar 159 r 100 lr) (hx : 0 ≤ x ∧ x + 8 ≤ lr) (hlr : lr ≤ 20000) (hne : r ≠ 140 ∧ r ≠ 147) (kk : ∀ h', Put S st.1 r x h h' → K (.inl none) 159 h') : AC mX9_putsName 1 0 0 159 [(2, 140), (2, r), (0, x)] h K := by
  obtain ⟨x1, ⟨a1, a2, a3, a4⟩, c1, c2, c3⟩ := hs
  have hb := bP_rg hT c3
  have ha := aP_rg hT c3
  have hL := hT.1
  refine ac_of (ls := [(2, 140), (2, r), (0, x), (9, 0)]) pn_X9 rfl (Nat.le_of_ble_eq_true rfl) rfl ?_
  refine aw_iconst dX9_putsName_0 (by decide) ?_
  refine a_is3 rfl rfl dX9_putsName_1 ?_
  refine aw_loop (fun q : Int × AH => 0 ≤ q.1 ∧ q.1 ≤ 8 ∧ (∀ k y, ¬ (k = r ∧ x ≤ y ∧ y < x + q.1) → q.2 k y = h k y) ∧ ∀ k, 0 ≤ k → k < q.1 → q.2 r (x + k) = nmv S st.1 k) (fun q => (8 - q.1).toNat) (fun q => AW mX9_putsName 1 0 0 K 159 2 [(2, 140), (2, r), (0, x), (0, q.1)] [] q.2) (fun q hq ih => ?_) (0, h) ⟨by dsimp only; omega, by dsimp only; omega, fun _ _ _ => rfl, fun k a b => by dsimp only at b; omega⟩
  obtain ⟨j, g⟩ := q
  obtain ⟨j0, j1, fr, hj⟩ := hq
  dsimp only at j0 j1 fr hj ih ⊢
  have g10 : g 140 10 = aP S st.1 := by rw [fr _ _ (by omega), a1]
  have g11 : g 140 11 = bP S st.1 := by rw [fr _ _ (by omega), a2]
  have J : ∀ v, j < 8 → v = nmv S st.1 j → AW mX9_putsName 1 0 0 K 159 40 [(2, 140), (2, r), (0, x), (0, j)] [(0, v), (0, x + j), (2, r)] g := fun v j8 hv => by
    refine aw_iast dX9_putsName_40 hr (by omega) ?_
    refine a_iiR3 (by omega) rfl rfl dX9_putsName_41 ?_
    refine aw_goto 2 dX9_putsName_44 (by decide) ?_
    refine ih (j + 1, up g r (x + j) v) ⟨by dsimp only; omega, by dsimp only; omega, fun k y c => ?_, fun k a b => ?_⟩ (by dsimp only; omega)
    · dsimp only at c ⊢
      rw [up_ne (by omega), fr k y (by omega)]
    · dsimp only at b ⊢
      by_cases e : k = j
      · rw [e, up_at, hv]
      · rw [up_ne (by omega)]
        exact hj k a (by omega)
  refine a_il3 dX9_putsName_2 ?_
  refine aw_bipush dX9_putsName_3 (by decide) ?_
  refine aw_icmp_ge 47 dX9_putsName_5 (by decide) (fun c5 => ?_) (fun c5 => ?_)
  · refine aw_vret dX9_putsName_47 rfl ?_
    rw [show j = 8 by omega] at fr hj
    exact kk g ⟨fr, hj⟩
  · have j8 : j < 8 := by omega
    refine a_al1 (am_sa_rg hr) dX9_putsName_8 ?_
    refine a_il2 dX9_putsName_9 ?_
    refine a_il3 dX9_putsName_10 ?_
    refine aw_iaddR (by omega) dX9_putsName_11 ?_
    refine a_al0 (by decide) dX9_putsName_12 ?_
    refine aw_get 10 dX9_putsName_13 fl_X9_98 at_140 rfl ?_
    try simp (disch := omega) only [up_at, up_ne]
    refine a_il3 dX9_putsName_16 ?_
    refine aw_iaddR (by omega) dX9_putsName_17 ?_
    refine a_al0 (by decide) dX9_putsName_18 ?_
    refine aw_get 11 dX9_putsName_19 fl_X9_95 at_140 rfl ?_
    try simp (disch := omega) only [up_at, up_ne]
    refine aw_icmp_ge 39 dX9_putsName_22 (by decide) (fun c22 => ?_) (fun c22 => ?_)
    · have ev : nmv S st.1 j = 0 := if_neg (by omega)
      refine aw_iconst dX9_putsName_39 (by decide) ?_
      exact J 0 j8 ev.symm
    · refine a_al0 (by decide) dX9_putsName_25 ?_
      refine aw_getR (r := 147) 8 rfl dX9_putsName_26 fl_X9_29 at_140 rfl rfl ?_
      try simp (disch := omega) only [up_at, up_ne]
      refine a_al0 (by decide) dX9_putsName_29 ?_
      refine aw_get 10 dX9_putsName_30 fl_X9_98 at_140 rfl ?_
      try simp (disch := omega) only [up_at, up_ne]
      refine a_il3 dX9_putsName_33 ?_
      refine aw_iaddR (by omega) dX9_putsName_34 ?_
      refine aw_iald dX9_putsName_35 ar_147 (by omega) ?_
      try simp (disch := omega) only [up_at, up_ne]
      refine aw_goto 40 dX9_putsName_36 (by decide) ?_
      have ev : nmv S st.1 j = S (aP S st.1 + j) := if_pos (by omega)
      rw [g10, fr _ _ (by omega), x1.2 (aP S st.1 + j) (by omega) (by omega)]
      exact J _ j8 ev.symm
