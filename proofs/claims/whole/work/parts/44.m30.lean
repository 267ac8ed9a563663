/-! reading: what must stand there -/
abbrev PS : Type := Int × Int × Int
def failS (S : Int → Int) (code : Int) (st : PS) : PS := if st.2.1 = 0 then (st.1, code, aP S st.1) else st
def nextS (S : Int → Int) (st : PS) : PS := if st.2.1 = 0 then (bP S st.1, 0, st.2.2) else st
def mustS (S : Int → Int) (b : Int) (st : PS) : PS := nextS S (if b = 0 then failS S (-2) st else st)
def endS (S : Int → Int) (st : PS) : PS := mustS S (if kP S st.1 = 2 ∧ S (aP S st.1) = 59 then 1 else 0) st
def standS (S : Int → Int) (lo hi : Int) (st : PS) : PS := if lo ≤ nP S st.1 ∧ nP S st.1 ≤ hi then (if kP S st.1 = 1 then st else failS S (-2) st) else failS S (-3) (if kP S st.1 = 1 then st else failS S (-2) st)
def standV (S : Int → Int) (lo hi : Int) (st : PS) : Int := if (standS S lo hi st).2.1 = 0 then nP S st.1 else 0
def takeS (S : Int → Int) (lo hi : Int) (st : PS) : PS := nextS S (standS S lo hi st)
def nameS (S : Int → Int) (st : PS) : PS := if kP S st.1 = 0 ∧ bP S st.1 - aP S st.1 ≤ 8 then st else failS S (-2) st
def Sts (S : Int → Int) (L : Int) (st : PS) (h : AH) : Prop := Tx S L h ∧ At S st.1 h ∧ h 140 14 = st.2.1 ∧ (¬ st.2.1 = 0 → h 140 15 = st.2.2) ∧ (0 ≤ st.1 ∧ st.1 ≤ L)
def PFr (h g : AH) : Prop := ∀ k x, ¬ (k = 140 ∧ 10 ≤ x ∧ x ≤ 15) → g k x = h k x
theorem PFr_refl (h : AH) : PFr h h := fun _ _ _ => rfl
theorem PFr_trans {h g f : AH} (a : PFr h g) (b : PFr g f) : PFr h f := fun k x c => by rw [b k x c, a k x c]
theorem PFr_TF {h g : AH} (a : TF h g) : PFr h g := fun k x c => a k x (by omega)
theorem failS_1 (S : Int → Int) (code : Int) (st : PS) : (failS S code st).1 = st.1 := by unfold failS; split <;> rfl
theorem failS_W {S : Int → Int} {code : Int} {st : PS} (h : ¬ st.2.1 = 0) : failS S code st = st := if_neg h
theorem nextS_W {S : Int → Int} {st : PS} (h : ¬ st.2.1 = 0) : nextS S st = st := if_neg h
theorem failS_n {S : Int → Int} {code : Int} {st : PS} (hc : code ≠ 0) : ¬ (failS S code st).2.1 = 0 := by
  unfold failS
  split
  · exact hc
  · assumption
theorem failS_c {S : Int → Int} {code : Int} {st : PS} : (failS S code st).2.1 = 0 → st.2.1 = 0 := fun h => by
  unfold failS at h
  split at h
  · assumption
  · exact h
theorem nextS_c {S : Int → Int} {st : PS} : (nextS S st).2.1 = st.2.1 := by
  unfold nextS
  split
  · rename_i h; exact h.symm
  · rfl
theorem kP_rg (S : Int → Int) (p : Int) : 0 ≤ kP S p ∧ kP S p ≤ 3 := by
  unfold kP
  split
  · decide
  · split
    · decide
    · split <;> decide
theorem kP_0 {S : Int → Int} {p : Int} (hk : kP S p = 0) : isLe S (aP S p) = true ∧ bP S p = rnF (isLe S) 700 (aP S p) := by
  unfold kP at hk
  split at hk
  · omega
  · rename_i h1
    split at hk
    · rename_i h2
      refine ⟨h2, ?_⟩
      unfold bP
      rw [if_neg h1, if_pos h2]
    · split at hk <;> omega
theorem kP_1 {S : Int → Int} {p : Int} (hk : kP S p = 1) : isDi S (aP S p) = true ∧ bP S p = rnF (isDi S) 700 (aP S p) := by
  unfold kP at hk
  split at hk
  · omega
  · rename_i h1
    split at hk
    · omega
    · rename_i h2
      split at hk
      · rename_i h3
        refine ⟨h3, ?_⟩
        unfold bP
        rw [if_neg h1, if_neg h2, if_pos h3]
      · omega
theorem nP_rg {S : Int → Int} {L p : Int} (hT : TxS S L) (hp : 0 ≤ p ∧ p ≤ L) : 0 ≤ nP S p ∧ nP S p ≤ 10000 := by
  obtain ⟨a1, a2, a3, a4⟩ := aP_rg hT hp
  unfold nP
  split
  · rename_i h
    obtain ⟨h1, h2⟩ := kP_1 h
    have h3 := rnF_sp _ (isDi_L hT) 700 (aP S p) a2 (by have := hT.1; omega)
    refine dvF_rg (by decide) _ (fun j x y => ?_)
    rw [h2] at y
    exact h3.2.2.2 j x (by omega)
  · decide
theorem ac_fails {S : Int → Int} {L code : Int} {st : PS} {h : AH} {K : AO → Nat → AH → Prop} (hs : Sts S L st h) (hc : code ≠ 0) (kk : ∀ h', PFr h h' → Sts S L (failS S code st) h' → K (.inl none) 159 h') : AC mX9_fails 1 0 0 159 [(2, 140), (0, code)] h K := by
  have hs2 := hs
  obtain ⟨x1, ⟨a1, a2, a3, a4⟩, c1, c2, c3⟩ := hs2
  refine ac_of (ls := [(2, 140), (0, code)]) pn_X9 rfl (Nat.le_of_ble_eq_true rfl) rfl ?_
  refine a_al0 (by decide) dX9_fails_0 ?_
  refine aw_get 14 dX9_fails_1 fl_X9_120 at_140 rfl ?_
  refine aw_if_eq 8 dX9_fails_4 (by decide) (fun c4 => ?_) (fun c4 => ?_)
  · have e : st.2.1 = 0 := by omega
    refine a_al0 (by decide) dX9_fails_8 ?_
    refine a_il1 dX9_fails_9 ?_
    refine aw_put 14 dX9_fails_10 fp_X9_120 at_140 rfl ?_
    refine a_al0 (by decide) dX9_fails_13 ?_
    refine a_al0 (by decide) dX9_fails_14 ?_
    refine aw_get 10 dX9_fails_15 fl_X9_98 at_140 rfl ?_
    try simp (disch := omega) only [up_at, up_ne]
    refine aw_put 15 dX9_fails_18 fp_X9_130 at_140 rfl ?_
    refine aw_vret dX9_fails_21 rfl ?_
    refine kk _ (fun k x a => by rw [up_ne (by omega), up_ne (by omega)]) ?_
    unfold failS
    rw [if_pos e]
    refine ⟨⟨?_, fun k b c => ?_⟩, ⟨?_, ?_, ?_, ?_⟩, ?_, fun _ => ?_, c3⟩
    · rw [up_ne (by omega), up_ne (by omega)]; exact x1.1
    · rw [up_ne (by omega), up_ne (by omega)]; exact x1.2 k b c
    · rw [up_ne (by omega), up_ne (by omega)]; exact a1
    · rw [up_ne (by omega), up_ne (by omega)]; exact a2
    · rw [up_ne (by omega), up_ne (by omega)]; exact a3
    · rw [up_ne (by omega), up_ne (by omega)]; exact a4
    · rw [up_ne (by omega), up_at]
    · rw [up_at, a1]
  · have e : ¬ st.2.1 = 0 := by omega
    refine aw_vret dX9_fails_7 rfl ?_
    refine kk _ (PFr_refl h) ?_
    rw [failS_W e]
    exact hs
theorem ac_nextS {S : Int → Int} {L : Int} {st : PS} {h : AH} {K : AO → Nat → AH → Prop} (hT : TxS S L) (hs : Sts S L st h) (hc : st.2.1 = 0) (kk : ∀ h', PFr h h' → Sts S L (nextS S st) h' → K (.inl none) 159 h') : AC mX9_next 3 0 0 159 [(2, 140)] h K := by
  obtain ⟨x1, ⟨a1, a2, a3, a4⟩, c1, c2, c3⟩ := hs
  have hb := bP_rg hT c3
  have ha := aP_rg hT c3
  refine ac_next hT x1 (p := bP S st.1) (by omega) a2 (fun h' tf hat => ?_)
  refine kk h' (PFr_TF tf) ?_
  unfold nextS
  rw [if_pos hc]
  exact ⟨Tx_TF tf x1, hat, by rw [tf _ _ (by omega), c1]; exact hc, fun q => absurd rfl q, by show 0 ≤ bP S st.1 ∧ bP S st.1 ≤ L; omega⟩
theorem ac_must {S : Int → Int} {L b : Int} {st : PS} {h : AH} {K : AO → Nat → AH → Prop} (hT : TxS S L) (hs : Sts S L st h) (kk : ∀ h', PFr h h' → Sts S L (mustS S b st) h' → K (.inl none) 159 h') : AC mX9_must 4 0 0 159 [(2, 140), (0, b)] h K := by
  have J : ∀ g st1, PFr h g → Sts S L st1 g → nextS S st1 = mustS S b st → AW mX9_must 4 0 0 K 159 10 [(2, 140), (0, b)] [] g := fun g st1 pf hs1 e => by
    have c1 := hs1.2.2.1
    refine a_al0 (by decide) dX9_must_10 ?_
    refine aw_get 14 dX9_must_11 fl_X9_120 at_140 rfl ?_
    refine aw_if_ne 21 dX9_must_14 (by decide) (fun c14 => ?_) (fun c14 => ?_)
    · refine aw_vret dX9_must_21 rfl ?_
      refine kk g pf ?_
      rw [← e, nextS_W (by omega)]
      exact hs1
    · refine a_al0 (by decide) dX9_must_17 ?_
      refine aw_callV 3 0 0 dX9_must_18 yw_X9_next ml_X9_123 in_X9_next se_X9_next (ci := 8) rfl at_140 (as := []) rfl rfl ⟨by decide, by decide, by decide, Nat.le_of_ble_eq_true rfl⟩ ?_
      refine ac_nextS hT hs1 (by omega) (fun h' pf2 hs2 => ?_)
      refine am_cv ?_
      refine aw_vret dX9_must_21 rfl ?_
      exact kk h' (PFr_trans pf pf2) (e ▸ hs2)
  refine ac_of (ls := [(2, 140), (0, b)]) pn_X9 rfl (Nat.le_of_ble_eq_true rfl) rfl ?_
  refine a_il1 dX9_must_0 ?_
  refine aw_if_ne 10 dX9_must_1 (by decide) (fun c1 => ?_) (fun c1 => ?_)
  · skip
    refine J h st (PFr_refl h) hs ?_
    unfold mustS
    rw [if_neg (by omega)]
  · refine a_al0 (by decide) dX9_must_4 ?_
    refine aw_bipush dX9_must_5 (by decide) ?_
    refine aw_callV 1 0 0 dX9_must_7 yw_X9_fails ml_X9_126 in_X9_fails se_X9_fails (ci := 8) rfl at_140 (as := [_]) rfl rfl ⟨by decide, by decide, by decide, Nat.le_of_ble_eq_true rfl⟩ ?_
    refine ac_fails hs (by decide) (fun h' pf hs2 => ?_)
    refine am_cv ?_
    refine J h' _ pf hs2 ?_
    unfold mustS
    rw [if_pos (by omega)]
theorem ac_mustEnd {S : Int → Int} {L : Int} {st : PS} {h : AH} {K : AO → Nat → AH → Prop} (hT : TxS S L) (hs : Sts S L st h) (kk : ∀ h', PFr h h' → Sts S L (endS S st) h' → K (.inl none) 159 h') : AC mX9_mustEnd 5 0 0 159 [(2, 140)] h K := by
  have hs2 := hs
  obtain ⟨x1, ⟨a1, a2, a3, a4⟩, c1, c2, c3⟩ := hs2
  have ha := aP_rg hT c3
  refine ac_of (ls := [(2, 140)]) pn_X9 rfl (Nat.le_of_ble_eq_true rfl) rfl ?_
  refine a_al0 (by decide) dX9_mustEnd_0 ?_
  refine a_al0 (by decide) dX9_mustEnd_1 ?_
  refine aw_get 12 dX9_mustEnd_2 fl_X9_104 at_140 rfl ?_
  refine aw_iconst dX9_mustEnd_5 (by decide) ?_
  refine aw_icmp_ne 26 dX9_mustEnd_6 (by decide) (fun c6 => ?_) (fun c6 => ?_)
  · refine aw_iconst dX9_mustEnd_26 (by decide) ?_
    refine aw_callV 4 0 0 dX9_mustEnd_27 yw_X9_must ml_X9_143 in_X9_must se_X9_must (ci := 8) rfl at_140 (as := [_]) rfl rfl ⟨by decide, by decide, by decide, Nat.le_of_ble_eq_true rfl⟩ ?_
    refine ac_must hT hs (fun h' pf hs3 => ?_)
    refine am_cv ?_
    refine aw_vret dX9_mustEnd_30 rfl ?_
    refine kk h' pf ?_
    unfold endS
    rw [if_neg (by omega)]
    exact hs3
  · refine a_al0 (by decide) dX9_mustEnd_9 ?_
    refine a_al0 (by decide) dX9_mustEnd_10 ?_
    refine aw_get 10 dX9_mustEnd_11 fl_X9_98 at_140 rfl ?_
    refine aw_callV 1 0 0 dX9_mustEnd_14 yw_X9_see ml_X9_91 in_X9_see se_X9_see (ci := 8) rfl at_140 (as := [_]) rfl rfl ⟨by decide, by decide, by decide, Nat.le_of_ble_eq_true rfl⟩ ?_
    rw [a1]
    refine ac_see hT x1 (by omega) ?_
    refine am_ci ?_
    refine aw_bipush dX9_mustEnd_17 (by decide) ?_
    refine aw_icmp_ne 26 dX9_mustEnd_19 (by decide) (fun c19 => ?_) (fun c19 => ?_)
    · refine aw_iconst dX9_mustEnd_26 (by decide) ?_
      refine aw_callV 4 0 0 dX9_mustEnd_27 yw_X9_must ml_X9_143 in_X9_must se_X9_must (ci := 8) rfl at_140 (as := [_]) rfl rfl ⟨by decide, by decide, by decide, Nat.le_of_ble_eq_true rfl⟩ ?_
      refine ac_must hT hs (fun h' pf hs3 => ?_)
      refine am_cv ?_
      refine aw_vret dX9_mustEnd_30 rfl ?_
      refine kk h' pf ?_
      unfold endS
      rw [if_neg (by omega)]
      exact hs3
    · refine aw_iconst dX9_mustEnd_22 (by decide) ?_
      refine aw_goto 27 dX9_mustEnd_23 (by decide) ?_
      refine aw_callV 4 0 0 dX9_mustEnd_27 yw_X9_must ml_X9_143 in_X9_must se_X9_must (ci := 8) rfl at_140 (as := [_]) rfl rfl ⟨by decide, by decide, by decide, Nat.le_of_ble_eq_true rfl⟩ ?_
      refine ac_must hT hs (fun h' pf hs3 => ?_)
      refine am_cv ?_
      refine aw_vret dX9_mustEnd_30 rfl ?_
      refine kk h' pf ?_
      unfold endS
      rw [if_pos (by omega)]
      exact hs3
theorem sd46 {S : Int → Int} {L lo hi : Int} {p : Int} {st1 : PS} {g : AH} {K : AO → Nat → AH → Prop} (hs : Sts S L st1 g) (hp : st1.1 = p) (k0 : st1.2.1 = 0 → K (.inl (some (0, nP S p))) 159 g) (k1 : ¬ st1.2.1 = 0 → K (.inl (some (0, 0))) 159 g) : AW mX9_stands 2 0 0 K 159 46 [(2, 140), (0, lo), (0, hi)] [] g := by
  obtain ⟨x1, ⟨a1, a2, a3, a4⟩, c1, c2, c3⟩ := hs
  refine a_al0 (by decide) dX9_stands_46 ?_
  refine aw_get 14 dX9_stands_47 fl_X9_120 at_140 rfl ?_
  refine aw_if_ne 60 dX9_stands_50 (by decide) (fun c50 => ?_) (fun c50 => ?_)
  · refine aw_iconst dX9_stands_60 (by decide) ?_
    refine aw_iret dX9_stands_61 rfl ?_
    exact k1 (by omega)
  · refine a_al0 (by decide) dX9_stands_53 ?_
    refine aw_get 13 dX9_stands_54 fl_X9_101 at_140 rfl ?_
    refine aw_goto 61 dX9_stands_57 (by decide) ?_
    refine aw_iret dX9_stands_61 rfl ?_
    rw [a4, hp]
    exact k0 (by omega)
theorem ac_stands {S : Int → Int} {L lo hi : Int} {st : PS} {h : AH} {K : AO → Nat → AH → Prop} (hs : Sts S L st h) (kk : ∀ h', PFr h h' → Sts S L (standS S lo hi st) h' → K (.inl (some (0, standV S lo hi st))) 159 h') : AC mX9_stands 2 0 0 159 [(2, 140), (0, lo), (0, hi)] h K := by
  have J2 : ∀ g, PFr h g → Sts S L (standS S lo hi st) g → AW mX9_stands 2 0 0 K 159 46 [(2, 140), (0, lo), (0, hi)] [] g := fun g pf hs1 => by
    have k9 := kk g pf hs1
    unfold standV at k9
    refine sd46 (p := st.1) hs1 ?_ (fun q => ?_) (fun q => ?_)
    · unfold standS
      split
      · split
        · rfl
        · rw [failS_1]
      · rw [failS_1]
        split
        · rfl
        · rw [failS_1]
    · rw [if_pos q] at k9
      exact k9
    · rw [if_neg q] at k9
      exact k9
  have J : ∀ g st1, PFr h g → Sts S L st1 g → st1 = (if kP S st.1 = 1 then st else failS S (-2) st) → AW mX9_stands 2 0 0 K 159 21 [(2, 140), (0, lo), (0, hi)] [] g := fun g st1 pf hs1 e => by
    have e1 : st1.1 = st.1 := by
      rw [e]
      split
      · rfl
      · rw [failS_1]
    have hs1' := hs1
    obtain ⟨x1, ⟨a1, a2, a3, a4⟩, c1, c2, c3⟩ := hs1'
    have eS : standS S lo hi st = if lo ≤ nP S st.1 ∧ nP S st.1 ≤ hi then st1 else failS S (-3) st1 := by
      unfold standS
      rw [← e]
    refine a_al0 (by decide) dX9_stands_21 ?_
    refine aw_get 14 dX9_stands_22 fl_X9_120 at_140 rfl ?_
    refine aw_if_ne 46 dX9_stands_25 (by decide) (fun c25 => ?_) (fun c25 => ?_)
    · skip
      refine J2 g pf ?_
      rw [eS, failS_W (by omega)]
      split <;> exact hs1
    · refine a_al0 (by decide) dX9_stands_28 ?_
      refine aw_get 13 dX9_stands_29 fl_X9_101 at_140 rfl ?_
      refine a_il1 dX9_stands_32 ?_
      refine a_il2 dX9_stands_33 ?_
      refine aw_callS 1 0 0 dX9_stands_34 yw_X9_isIn ml_X9_76 sm_X9_isIn (as := [_, _, _]) rfl rfl ⟨by decide, by decide, by decide, Nat.le_of_ble_eq_true rfl⟩ ?_
      rw [a4, e1]
      refine ac_isIn (fun q => ?_) (fun q => ?_)
      · refine am_ci ?_
        refine aw_if_ne_y 46 dX9_stands_37 (by decide) (by decide) ?_
        refine J2 g pf ?_
        rw [eS, if_pos q]
        exact hs1
      · refine am_ci ?_
        refine aw_if_ne_n 46 dX9_stands_37 (by decide) (by decide) ?_
        refine a_al0 (by decide) dX9_stands_40 ?_
        refine aw_bipush dX9_stands_41 (by decide) ?_
        refine aw_callV 1 0 0 dX9_stands_43 yw_X9_fails ml_X9_126 in_X9_fails se_X9_fails (ci := 8) rfl at_140 (as := [_]) rfl rfl ⟨by decide, by decide, by decide, Nat.le_of_ble_eq_true rfl⟩ ?_
        refine ac_fails hs1 (by decide) (fun g' pf2 hs2 => ?_)
        refine am_cv ?_
        refine J2 g' (PFr_trans pf pf2) ?_
        rw [eS, if_neg q]
        exact hs2
  have hs2 := hs
  obtain ⟨x1, ⟨a1, a2, a3, a4⟩, c1, c2, c3⟩ := hs2
  refine ac_of (ls := [(2, 140), (0, lo), (0, hi)]) pn_X9 rfl (Nat.le_of_ble_eq_true rfl) rfl ?_
  refine a_al0 (by decide) dX9_stands_0 ?_
  refine aw_get 14 dX9_stands_1 fl_X9_120 at_140 rfl ?_
  refine aw_if_ne 21 dX9_stands_4 (by decide) (fun c4 => ?_) (fun c4 => ?_)
  · skip
    refine J h st (PFr_refl h) hs ?_
    rw [failS_W (by omega)]
    split <;> rfl
  · refine a_al0 (by decide) dX9_stands_7 ?_
    refine aw_get 12 dX9_stands_8 fl_X9_104 at_140 rfl ?_
    refine aw_iconst dX9_stands_11 (by decide) ?_
    refine aw_icmp_eq 21 dX9_stands_12 (by decide) (fun c12 => ?_) (fun c12 => ?_)
    · skip
      refine J h st (PFr_refl h) hs ?_
      rw [if_pos (by omega)]
    · refine a_al0 (by decide) dX9_stands_15 ?_
      refine aw_bipush dX9_stands_16 (by decide) ?_
      refine aw_callV 1 0 0 dX9_stands_18 yw_X9_fails ml_X9_126 in_X9_fails se_X9_fails (ci := 8) rfl at_140 (as := [_]) rfl rfl ⟨by decide, by decide, by decide, Nat.le_of_ble_eq_true rfl⟩ ?_
      refine ac_fails hs (by decide) (fun h' pf hs2 => ?_)
      refine am_cv ?_
      refine J h' _ pf hs2 ?_
      rw [if_neg (by omega)]
theorem ac_takes {S : Int → Int} {L lo hi : Int} {st : PS} {h : AH} {K : AO → Nat → AH → Prop} (hT : TxS S L) (hs : Sts S L st h) (kk : ∀ h', PFr h h' → Sts S L (takeS S lo hi st) h' → K (.inl (some (0, standV S lo hi st))) 159 h') : AC mX9_takes 4 0 0 159 [(2, 140), (0, lo), (0, hi)] h K := by
  refine ac_of (ls := [(2, 140), (0, lo), (0, hi), (9, 0)]) pn_X9 rfl (Nat.le_of_ble_eq_true rfl) rfl ?_
  refine a_al0 (by decide) dX9_takes_0 ?_
  refine a_il1 dX9_takes_1 ?_
  refine a_il2 dX9_takes_2 ?_
  refine aw_callV 2 0 0 dX9_takes_3 yw_X9_stands ml_X9_147 in_X9_stands se_X9_stands (ci := 8) rfl at_140 (as := [_, _]) rfl rfl ⟨by decide, by decide, by decide, Nat.le_of_ble_eq_true rfl⟩ ?_
  refine ac_stands hs (fun h1 pf hs1 => ?_)
  have c1 := hs1.2.2.1
  refine am_ci ?_
  refine a_is3 rfl rfl dX9_takes_6 ?_
  refine a_al0 (by decide) dX9_takes_7 ?_
  refine aw_get 14 dX9_takes_8 fl_X9_120 at_140 rfl ?_
  refine aw_if_ne 18 dX9_takes_11 (by decide) (fun c11 => ?_) (fun c11 => ?_)
  · refine a_il3 dX9_takes_18 ?_
    refine aw_iret dX9_takes_19 rfl ?_
    refine kk h1 pf ?_
    unfold takeS
    rw [nextS_W (by omega)]
    exact hs1
  · refine a_al0 (by decide) dX9_takes_14 ?_
    refine aw_callV 3 0 0 dX9_takes_15 yw_X9_next ml_X9_123 in_X9_next se_X9_next (ci := 8) rfl at_140 (as := []) rfl rfl ⟨by decide, by decide, by decide, Nat.le_of_ble_eq_true rfl⟩ ?_
    refine ac_nextS hT hs1 (by omega) (fun h' pf2 hs2 => ?_)
    refine am_cv ?_
    refine a_il3 dX9_takes_18 ?_
    refine aw_iret dX9_takes_19 rfl ?_
    exact kk h' (PFr_trans pf pf2) hs2
theorem ac_mustName {S : Int → Int} {L : Int} {st : PS} {h : AH} {K : AO → Nat → AH → Prop} (hT : TxS S L) (hs : Sts S L st h) (kk : ∀ h', PFr h h' → Sts S L (nameS S st) h' → K (.inl none) 159 h') : AC mX9_mustName 2 0 0 159 [(2, 140)] h K := by
  have hs2 := hs
  obtain ⟨x1, ⟨a1, a2, a3, a4⟩, c1, c2, c3⟩ := hs2
  have hb := bP_rg hT c3
  have ha := aP_rg hT c3
  have hL := hT.1
  have J : ¬ (kP S st.1 = 0 ∧ bP S st.1 - aP S st.1 ≤ 8) → AW mX9_mustName 2 0 0 K 159 28 [(2, 140)] [] h := fun q => by
    refine a_al0 (by decide) dX9_mustName_28 ?_
    refine aw_bipush dX9_mustName_29 (by decide) ?_
    refine aw_callV 1 0 0 dX9_mustName_31 yw_X9_fails ml_X9_126 in_X9_fails se_X9_fails (ci := 8) rfl at_140 (as := [_]) rfl rfl ⟨by decide, by decide, by decide, Nat.le_of_ble_eq_true rfl⟩ ?_
    refine ac_fails hs (by decide) (fun h' pf hs3 => ?_)
    refine am_cv ?_
    refine aw_vret dX9_mustName_34 rfl ?_
    refine kk h' pf ?_
    unfold nameS
    rw [if_neg q]
    exact hs3
  refine ac_of (ls := [(2, 140)]) pn_X9 rfl (Nat.le_of_ble_eq_true rfl) rfl ?_
  refine a_al0 (by decide) dX9_mustName_0 ?_
  refine aw_get 14 dX9_mustName_1 fl_X9_120 at_140 rfl ?_
  refine aw_if_ne 34 dX9_mustName_4 (by decide) (fun c4 => ?_) (fun c4 => ?_)
  · refine aw_vret dX9_mustName_34 rfl ?_
    refine kk h (PFr_refl h) ?_
    unfold nameS
    rw [failS_W (by omega)]
    split <;> exact hs
  · refine a_al0 (by decide) dX9_mustName_7 ?_
    refine aw_get 12 dX9_mustName_8 fl_X9_104 at_140 rfl ?_
    refine aw_if_ne 28 dX9_mustName_11 (by decide) (fun c11 => ?_) (fun c11 => ?_)
    · skip
      exact J (by omega)
    · refine a_al0 (by decide) dX9_mustName_14 ?_
      refine aw_get 11 dX9_mustName_15 fl_X9_95 at_140 rfl ?_
      refine a_al0 (by decide) dX9_mustName_18 ?_
      refine aw_get 10 dX9_mustName_19 fl_X9_98 at_140 rfl ?_
      refine aw_isubR (by omega) dX9_mustName_22 ?_
      refine aw_bipush dX9_mustName_23 (by decide) ?_
      refine aw_icmp_le 34 dX9_mustName_25 (by decide) (fun c25 => ?_) (fun c25 => ?_)
      · refine aw_vret dX9_mustName_34 rfl ?_
        refine kk h (PFr_refl h) ?_
        unfold nameS
        rw [if_pos (by omega)]
        exact hs
      · skip
        exact J (by omega)
