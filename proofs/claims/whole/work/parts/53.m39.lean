/-! reading: orders -/
def lt (c : Int) : Int := if c = 97 then 1 else if c = 108 then 2 else if c = 114 then 3 else if c = 104 then 4 else 0
theorem lt_rg (c : Int) : 0 ≤ lt c ∧ lt c ≤ 4 := by
  unfold lt
  split
  · decide
  · split
    · decide
    · split
      · decide
      · split <;> decide
theorem ac_letterOf {c : Int} {h : AH} {K : AO → Nat → AH → Prop} (k : K (.inl (some (0, lt c))) 159 h) : AC mX9_letterOf 1 0 0 159 [(0, c)] h K := by
  unfold lt at k
  refine ac_of (ls := [(0, c)]) pn_X9 rfl (Nat.le_of_ble_eq_true rfl) rfl ?_
  refine a_il0 dX9_letterOf_0 ?_
  refine aw_bipush dX9_letterOf_1 (by decide) ?_
  refine aw_icmp_ne 10 dX9_letterOf_3 (by decide) (fun c3 => ?_) (fun c3 => ?_)
  · rw [if_neg (by omega)] at k
    refine a_il0 dX9_letterOf_10 ?_
    refine aw_bipush dX9_letterOf_11 (by decide) ?_
    refine aw_icmp_ne 20 dX9_letterOf_13 (by decide) (fun c13 => ?_) (fun c13 => ?_)
    · rw [if_neg (by omega)] at k
      refine a_il0 dX9_letterOf_20 ?_
      refine aw_bipush dX9_letterOf_21 (by decide) ?_
      refine aw_icmp_ne 30 dX9_letterOf_23 (by decide) (fun c23 => ?_) (fun c23 => ?_)
      · rw [if_neg (by omega)] at k
        refine a_il0 dX9_letterOf_30 ?_
        refine aw_bipush dX9_letterOf_31 (by decide) ?_
        refine aw_icmp_ne 40 dX9_letterOf_33 (by decide) (fun c33 => ?_) (fun c33 => ?_)
        · rw [if_neg (by omega)] at k
          refine aw_iconst dX9_letterOf_40 (by decide) ?_
          refine aw_iret dX9_letterOf_41 rfl ?_
          exact k
        · rw [if_pos (by omega)] at k
          refine aw_iconst dX9_letterOf_36 (by decide) ?_
          refine aw_goto 41 dX9_letterOf_37 (by decide) ?_
          refine aw_iret dX9_letterOf_41 rfl ?_
          exact k
      · rw [if_pos (by omega)] at k
        refine aw_iconst dX9_letterOf_26 (by decide) ?_
        refine aw_goto 41 dX9_letterOf_27 (by decide) ?_
        refine aw_iret dX9_letterOf_41 rfl ?_
        exact k
    · rw [if_pos (by omega)] at k
      refine aw_iconst dX9_letterOf_16 (by decide) ?_
      refine aw_goto 41 dX9_letterOf_17 (by decide) ?_
      refine aw_iret dX9_letterOf_41 rfl ?_
      exact k
  · rw [if_pos (by omega)] at k
    refine aw_iconst dX9_letterOf_6 (by decide) ?_
    refine aw_goto 41 dX9_letterOf_7 (by decide) ?_
    refine aw_iret dX9_letterOf_41 rfl ?_
    exact k
/-- the first that has P -/
noncomputable def fstX (P : Int → Prop) (n : Int) : Int := @Classical.epsilon Int ⟨0⟩ (fun x => isFst P n x)
theorem fstX_eq {P : Int → Prop} {n x : Int} (h : isFst P n x) : fstX P n = x := by
  have h2 : isFst P n (fstX P n) := Classical.epsilon_spec (p := fun x => isFst P n x) ⟨x, h⟩
  exact isFst_one (fun _ _ _ => Iff.rfl) h2 h
def nmP (S : Int → Int) (p : Int) (r : Int → Int) (f i : Int) : Prop := (r (46 + 25 * i + 10) = -1 ∧ r (46 + 25 * i + 0) = f) ∧ nmQ S p r (46 + 25 * i + 17)
theorem ac_namedOf {S : Int → Int} {L f : Int} {st : PS} {h : AH} {K : AO → Nat → AH → Prop} (hT : TxS S L) (hs : Sts S L st h) (hn : 0 ≤ h 141 3 ∧ h 141 3 ≤ 12) (kk : ∀ x, isFst (nmP S st.1 (h 141) f) (h 141 3) x → K (.inl (some (0, x))) 159 h) : AC mX9_namedOf 4 0 0 159 [(2, 140), (0, f)] h K := by
  refine ac_of (ls := [(2, 140), (0, f), (9, 0)]) pn_X9 rfl (Nat.le_of_ble_eq_true rfl) rfl ?_
  refine aw_iconst dX9_namedOf_0 (by decide) ?_
  refine a_is2 rfl rfl dX9_namedOf_1 ?_
  refine aw_loop (fun i : Int => 0 ≤ i ∧ i ≤ h 141 3 ∧ ∀ j, 0 ≤ j → j < i → ¬ nmP S st.1 (h 141) f j) (fun i => (h 141 3 - i).toNat) (fun i => AW mX9_namedOf 4 0 0 K 159 2 [(2, 140), (0, f), (0, i)] [] h) (fun i hi ih => ?_) 0 ⟨by omega, by omega, fun j _ _ => by omega⟩
  obtain ⟨h0, h1, hno⟩ := hi
  refine a_il2 dX9_namedOf_2 ?_
  refine a_al0 (by decide) dX9_namedOf_3 ?_
  refine aw_getR (r := 141) 0 rfl dX9_namedOf_4 fl_X9_7 at_140 rfl rfl ?_
  refine aw_iconst dX9_namedOf_7 (by decide) ?_
  refine aw_iald dX9_namedOf_8 ar_141 (by omega) ?_
  refine aw_icmp_ge 50 dX9_namedOf_9 (by decide) (fun c9 => ?_) (fun c9 => ?_)
  · refine aw_iconst dX9_namedOf_50 (by decide) ?_
    refine aw_iret dX9_namedOf_51 rfl ?_
    exact kk _ (fst_no hno (by omega))
  · refine a_al0 (by decide) dX9_namedOf_12 ?_
    refine a_il2 dX9_namedOf_13 ?_
    refine a_il1 dX9_namedOf_14 ?_
    refine aw_callV 3 0 0 dX9_namedOf_15 yw_X9_sailsFor ml_X9_299 in_X9_sailsFor se_X9_sailsFor (ci := 8) rfl at_140 (as := [_, _]) rfl rfl ⟨by decide, by decide, by decide, Nat.le_of_ble_eq_true rfl⟩ ?_
    refine ac_sailsFor (by omega) (fun q1 => ?_) (fun q1 => ?_)
    · refine am_ci ?_
      refine aw_if_eq_n 44 dX9_namedOf_18 (by decide) (by decide) ?_
      refine a_al0 (by decide) dX9_namedOf_21 ?_
      refine a_al0 (by decide) dX9_namedOf_22 ?_
      refine aw_getR (r := 141) 0 rfl dX9_namedOf_23 fl_X9_7 at_140 rfl rfl ?_
      refine aw_bipush dX9_namedOf_26 (by decide) ?_
      refine aw_bipush dX9_namedOf_28 (by decide) ?_
      refine a_il2 dX9_namedOf_30 ?_
      refine aw_imulR (by omega) dX9_namedOf_31 ?_
      refine aw_iaddR (by omega) dX9_namedOf_32 ?_
      refine aw_bipush dX9_namedOf_33 (by decide) ?_
      refine aw_iaddR (by omega) dX9_namedOf_35 ?_
      refine aw_callV 1 0 0 dX9_namedOf_36 yw_X9_isName ml_X9_162 in_X9_isName se_X9_isName (ci := 8) rfl at_140 (as := [_, _]) rfl rfl ⟨by decide, by decide, by decide, Nat.le_of_ble_eq_true rfl⟩ ?_
      refine ac_isName hT hs ar_141 (by omega) (by decide) (fun q => ?_) (fun q => ?_)
      · refine am_ci ?_
        refine aw_if_eq_n 44 dX9_namedOf_39 (by decide) (by decide) ?_
        refine a_il2 dX9_namedOf_42 ?_
        refine aw_iret dX9_namedOf_43 rfl ?_
        exact kk _ (fst_yes hno h0 (by omega) ⟨q1, q⟩)
      · refine am_ci ?_
        refine aw_if_eq_y 44 dX9_namedOf_39 (by decide) (by decide) ?_
        refine a_iiR2 (by omega) rfl rfl dX9_namedOf_44 ?_
        refine aw_goto 2 dX9_namedOf_47 (by decide) ?_
        exact ih (i + 1) ⟨by omega, by omega, fst_nxt hno (fun x => q x.2)⟩ (by omega)
    · refine am_ci ?_
      refine aw_if_eq_y 44 dX9_namedOf_18 (by decide) (by decide) ?_
      refine a_iiR2 (by omega) rfl rfl dX9_namedOf_44 ?_
      refine aw_goto 2 dX9_namedOf_47 (by decide) ?_
      exact ih (i + 1) ⟨by omega, by omega, fst_nxt hno (fun x => q1 x.1)⟩ (by omega)
def badL (S : Int → Int) (p k : Int) : Prop := 6 ≤ k ∨ lt (S (aP S p + k)) = 0
noncomputable def ltX (S : Int → Int) (p : Int) : Int := fstX (badL S p) (bP S p - aP S p)
noncomputable def ltS (S : Int → Int) (st : PS) : PS := mustS S 1 (if kP S st.1 = 0 then (if ltX S st.1 = -1 then st else if st.2.1 = 0 then (st.1, -3, aP S st.1 + ltX S st.1) else st) else failS S (-2) st)
noncomputable def ltR (S : Int → Int) (p i : Int) (T : Int → Int) : Int → Int := fun y => if 6 * i ≤ y ∧ y < 6 * i + 6 ∧ y - 6 * i < bP S p - aP S p then lt (S (aP S p + (y - 6 * i))) else T y
/-- the letters and what is read may be others -/
def LFr (h g : AH) : Prop := ∀ k x, k ≠ 155 → ¬ (k = 140 ∧ 10 ≤ x ∧ x ≤ 15) → g k x = h k x
theorem LFr_of {h g : AH} (a : PFr h g) : LFr h g := fun k x _ c => a k x c
theorem LFr_trans {h g f : AH} (a : LFr h g) (b : LFr g f) : LFr h f := fun k x c d => by rw [b k x c d, a k x c d]
theorem Sts_c {S : Int → Int} {L k x v : Int} {st : PS} {g : AH} (hne : k ≠ 140 ∧ k ≠ 147) (hs : Sts S L st g) : Sts S L st (up g k x v) := by
  obtain ⟨⟨x1, x2⟩, ⟨a1, a2, a3, a4⟩, c1, c2, c3⟩ := hs
  refine ⟨⟨?_, fun k a b => ?_⟩, ⟨?_, ?_, ?_, ?_⟩, ?_, fun q => ?_, c3⟩
  · rw [up_ne (by omega)]; exact x1
  · rw [up_ne (by omega)]; exact x2 k a b
  · rw [up_ne (by omega)]; exact a1
  · rw [up_ne (by omega)]; exact a2
  · rw [up_ne (by omega)]; exact a3
  · rw [up_ne (by omega)]; exact a4
  · rw [up_ne (by omega)]; exact c1
  · rw [up_ne (by omega)]; exact c2 q
theorem rl15 {S : Int → Int} {L i : Int} {st : PS} {h g0 : AH} {T : Int → Int} {K : AO → Nat → AH → Prop} (hT : TxS S L) (hi : 0 ≤ i ∧ i ≤ 11) (hk : kP S st.1 = 0) (hc : st.2.1 = 0) (hs0 : Sts S L st g0) (f0 : LFr h g0) (hR : g0 155 = T) (kk : ∀ h', LFr h h' → Sts S L (ltS S st) h' → ((ltS S st).2.1 = 0 → h' 155 = ltR S st.1 i T) → K (.inl none) 159 h') : AW mX9_readsLetters 5 0 0 K 159 15 [(2, 140), (0, i), (0, 0), (9, 0)] [] g0 := by
  have hst := hs0.2.2.2.2
  have hb := bP_rg hT hst
  have ha := aP_rg hT hst
  have hL := hT.1
  refine aw_loop (fun q : Int × AH × AV => 0 ≤ q.1 ∧ q.1 ≤ bP S st.1 - aP S st.1 ∧ LFr h q.2.1 ∧ Sts S L st q.2.1 ∧ (∀ j, 0 ≤ j → j < q.1 → ¬ badL S st.1 j) ∧ (∀ y, ¬ (6 * i ≤ y ∧ y < 6 * i + q.1) → q.2.1 155 y = T y) ∧ (∀ j, 0 ≤ j → j < q.1 → q.2.1 155 (6 * i + j) = lt (S (aP S st.1 + j))) ∧ am_n2 q.2.2 = true) (fun q => (bP S st.1 - aP S st.1 - q.1).toNat) (fun q => AW mX9_readsLetters 5 0 0 K 159 15 [(2, 140), (0, i), (0, q.1), q.2.2] [] q.2.1) (fun q hq ih => ?_) (0, g0, (9, 0)) ⟨by dsimp only; omega, by dsimp only; omega, f0, hs0, fun j a b => by dsimp only at b; omega, fun y _ => by dsimp only; rw [hR], fun j a b => by dsimp only at b; omega, rfl⟩
  obtain ⟨k, g, v⟩ := q
  obtain ⟨k0, k1, fr, hs, hb0, hT1, hT2, hv⟩ := hq
  dsimp only at k0 k1 fr hs hb0 hT1 hT2 hv ih ⊢
  have hs2 := hs
  obtain ⟨x1, ⟨a1, a2, a3, a4⟩, c1, c2, c3⟩ := hs2
  have k6 : k ≤ 6 := by
    by_cases q : k ≤ 6
    · exact q
    · exact absurd (Or.inl (by decide)) (hb0 6 (by decide) (by omega))
  have bad : k < bP S st.1 - aP S st.1 → badL S st.1 k → ∀ w, am_n2 w = true → AW mX9_readsLetters 5 0 0 K 159 64 [(2, 140), (0, i), (0, k), w] [] g := fun kb b w hw => by
    have ex : ltX S st.1 = k := fstX_eq (fst_yes hb0 k0 kb b)
    refine a_al0 (by decide) dX9_readsLetters_64 ?_
    refine aw_bipush dX9_readsLetters_65 (by decide) ?_
    refine aw_put 14 dX9_readsLetters_67 fp_X9_120 at_140 rfl ?_
    refine a_al0 (by decide) dX9_readsLetters_70 ?_
    refine a_al0 (by decide) dX9_readsLetters_71 ?_
    refine aw_get 10 dX9_readsLetters_72 fl_X9_98 at_140 rfl ?_
    try simp (disch := omega) only [up_at, up_ne]
    refine a_il2 dX9_readsLetters_75 ?_
    refine aw_iaddR (by omega) dX9_readsLetters_76 ?_
    refine aw_put 15 dX9_readsLetters_77 fp_X9_130 at_140 rfl ?_
    refine aw_goto 95 dX9_readsLetters_80 (by decide) ?_
    refine a_iiR2 (by omega) rfl rfl dX9_readsLetters_95 ?_
    refine aw_goto 15 dX9_readsLetters_98 (by decide) ?_
    have c9 : ¬ up (up g 140 14 (-3)) 140 15 (aP S st.1 + k) 140 14 = 0 := by rw [up_ne (by omega), up_at]; decide
    rw [show g 140 10 = aP S st.1 from a1]
    refine a_al0 (by decide) dX9_readsLetters_15 ?_
    refine aw_get 14 dX9_readsLetters_16 fl_X9_120 at_140 rfl ?_
    try simp (disch := omega) only [up_at, up_ne]
    refine aw_if_ne 101 dX9_readsLetters_19 (by decide) (fun c19 => ?_) (fun c19 => ?_)
    · refine a_al0 (by decide) dX9_readsLetters_101 ?_
      refine aw_iconst dX9_readsLetters_102 (by decide) ?_
      refine aw_callV 4 0 0 dX9_readsLetters_103 yw_X9_must ml_X9_143 in_X9_must se_X9_must (ci := 8) rfl at_140 (as := [_]) rfl rfl ⟨by decide, by decide, by decide, Nat.le_of_ble_eq_true rfl⟩ ?_
      have hs3 : Sts S L (st.1, -3, aP S st.1 + k) (up (up g 140 14 (-3)) 140 15 (aP S st.1 + k)) := by
        refine ⟨⟨?_, fun k a b => ?_⟩, ⟨?_, ?_, ?_, ?_⟩, ?_, fun q => ?_, c3⟩
        · rw [up_ne (by omega), up_ne (by omega)]; exact x1.1
        · rw [up_ne (by omega), up_ne (by omega)]; exact x1.2 k a b
        · rw [up_ne (by omega), up_ne (by omega)]; exact a1
        · rw [up_ne (by omega), up_ne (by omega)]; exact a2
        · rw [up_ne (by omega), up_ne (by omega)]; exact a3
        · rw [up_ne (by omega), up_ne (by omega)]; exact a4
        · rw [up_ne (by omega), up_at]
        · rw [up_at]
      refine ac_must hT hs3 (fun g3 pf3 hs4 => ?_)
      have e : mustS S 1 (st.1, -3, aP S st.1 + k) = ltS S st := by
        unfold ltS
        rw [if_pos hk, ex, if_neg (by omega), if_pos hc]
      have cn : ¬ (ltS S st).2.1 = 0 := by
        rw [← e, mustS_W (show ¬ (-3 : Int) = 0 by decide)]
        show ¬ (-3 : Int) = 0
        decide
      rw [e] at hs4
      refine am_cv ?_
      refine aw_vret dX9_readsLetters_106 rfl ?_
      exact kk g3 (LFr_trans fr (LFr_trans (fun k x c d => by rw [up_ne (by omega), up_ne (by omega)]) (LFr_of pf3))) hs4 (fun c => absurd c cn)
    · exfalso; omega
  have nxt : k < bP S st.1 - aP S st.1 → k < 6 → ¬ lt (S (aP S st.1 + k)) = 0 → AW mX9_readsLetters 5 0 0 K 159 83 [(2, 140), (0, i), (0, k), (0, lt (S (aP S st.1 + k)))] [] g := fun kb k5 hl => by
    refine a_al0 (by decide) dX9_readsLetters_83 ?_
    refine aw_getR (r := 155) 25 rfl dX9_readsLetters_84 fl_X9_57 at_140 rfl rfl ?_
    try simp (disch := omega) only [up_at, up_ne]
    refine aw_bipush dX9_readsLetters_87 (by decide) ?_
    refine a_il1 dX9_readsLetters_89 ?_
    refine aw_imulR (by omega) dX9_readsLetters_90 ?_
    refine a_il2 dX9_readsLetters_91 ?_
    refine aw_iaddR (by omega) dX9_readsLetters_92 ?_
    refine a_il3 dX9_readsLetters_93 ?_
    refine aw_iast dX9_readsLetters_94 ar_155 (by omega) ?_
    refine a_iiR2 (by omega) rfl rfl dX9_readsLetters_95 ?_
    refine aw_goto 15 dX9_readsLetters_98 (by decide) ?_
    refine ih (k + 1, up g 155 (6 * i + k) (lt (S (aP S st.1 + k))), (0, lt (S (aP S st.1 + k)))) ⟨by dsimp only; omega, by dsimp only; omega, LFr_trans fr (fun k x c d => by dsimp only; rw [up_ne (by omega)]), Sts_c (by decide) hs, ?_, ?_, ?_, rfl⟩ (by dsimp only; omega)
    · exact fun j a b => by
        dsimp only at b
        by_cases e : j = k
        · rw [e]; exact fun x => x.elim (by omega) hl
        · exact hb0 j a (by omega)
    · intro y hy
      dsimp only at hy ⊢
      rw [up_ne (by omega), hT1 y (by omega)]
    · intro j a b
      dsimp only at b ⊢
      by_cases e : j = k
      · rw [e, up_at]
      · rw [up_ne (by omega), hT2 j a (by omega)]
  refine a_al0 (by decide) dX9_readsLetters_15 ?_
  refine aw_get 14 dX9_readsLetters_16 fl_X9_120 at_140 rfl ?_
  try simp (disch := omega) only [up_at, up_ne]
  refine aw_if_ne 101 dX9_readsLetters_19 (by decide) (fun c19 => ?_) (fun c19 => ?_)
  · exfalso; omega
  · refine a_al0 (by decide) dX9_readsLetters_22 ?_
    refine aw_get 10 dX9_readsLetters_23 fl_X9_98 at_140 rfl ?_
    try simp (disch := omega) only [up_at, up_ne]
    refine a_il2 dX9_readsLetters_26 ?_
    refine aw_iaddR (by omega) dX9_readsLetters_27 ?_
    refine a_al0 (by decide) dX9_readsLetters_28 ?_
    refine aw_get 11 dX9_readsLetters_29 fl_X9_95 at_140 rfl ?_
    try simp (disch := omega) only [up_at, up_ne]
    refine aw_icmp_ge 101 dX9_readsLetters_32 (by decide) (fun c32 => ?_) (fun c32 => ?_)
    · have ek : k = bP S st.1 - aP S st.1 := by omega
      have ex : ltX S st.1 = -1 := fstX_eq (fst_no hb0 (by omega))
      refine a_al0 (by decide) dX9_readsLetters_101 ?_
      refine aw_iconst dX9_readsLetters_102 (by decide) ?_
      refine aw_callV 4 0 0 dX9_readsLetters_103 yw_X9_must ml_X9_143 in_X9_must se_X9_must (ci := 8) rfl at_140 (as := [_]) rfl rfl ⟨by decide, by decide, by decide, Nat.le_of_ble_eq_true rfl⟩ ?_
      refine ac_must hT hs (fun g3 pf3 hs4 => ?_)
      have e : mustS S 1 st = ltS S st := by
        unfold ltS
        rw [if_pos hk, ex, if_pos rfl]
      rw [e] at hs4
      refine am_cv ?_
      refine aw_vret dX9_readsLetters_106 rfl ?_
      refine kk g3 (LFr_trans fr (LFr_of pf3)) hs4 (fun _ => ?_)
      funext y
      rw [pf3 _ _ (by omega)]
      unfold ltR
      by_cases z : 6 * i ≤ y ∧ y < 6 * i + k
      · rw [if_pos (by omega)]
        have := hT2 (y - 6 * i) (by omega) (by omega)
        rw [← this]
        congr 1
        omega
      · rw [if_neg (by omega), hT1 y z]
    · have kb : k < bP S st.1 - aP S st.1 := by omega
      refine a_il2 dX9_readsLetters_35 ?_
      refine aw_bipush dX9_readsLetters_36 (by decide) ?_
      refine aw_icmp_ge 58 dX9_readsLetters_38 (by decide) (fun c38 => ?_) (fun c38 => ?_)
      · refine aw_iconst dX9_readsLetters_58 (by decide) ?_
        refine a_is3 rfl rfl dX9_readsLetters_59 ?_
        refine a_il3 dX9_readsLetters_60 ?_
        refine aw_if_ne 83 dX9_readsLetters_61 (by decide) (fun c61 => ?_) (fun c61 => ?_)
        · exfalso; omega
        · skip
          exact bad kb (Or.inl (by omega)) _ rfl
      · refine a_al0 (by decide) dX9_readsLetters_41 ?_
        refine aw_getR (r := 147) 8 rfl dX9_readsLetters_42 fl_X9_29 at_140 rfl rfl ?_
        try simp (disch := omega) only [up_at, up_ne]
        refine a_al0 (by decide) dX9_readsLetters_45 ?_
        refine aw_get 10 dX9_readsLetters_46 fl_X9_98 at_140 rfl ?_
        try simp (disch := omega) only [up_at, up_ne]
        refine a_il2 dX9_readsLetters_49 ?_
        refine aw_iaddR (by omega) dX9_readsLetters_50 ?_
        refine aw_iald dX9_readsLetters_51 ar_147 (by omega) ?_
        try simp (disch := omega) only [up_at, up_ne]
        refine aw_callS 1 0 0 dX9_readsLetters_52 yw_X9_letterOf ml_X9_334 sm_X9_letterOf (as := [_]) rfl rfl ⟨by decide, by decide, by decide, Nat.le_of_ble_eq_true rfl⟩ ?_
        rw [a1, x1.2 (aP S st.1 + k) (by omega) (by omega)]
        refine ac_letterOf ?_
        refine am_ci ?_
        try simp (disch := omega) only [up_at, up_ne]
        refine aw_goto 59 dX9_readsLetters_55 (by decide) ?_
        refine a_is3 rfl rfl dX9_readsLetters_59 ?_
        refine a_il3 dX9_readsLetters_60 ?_
        refine aw_if_ne 83 dX9_readsLetters_61 (by decide) (fun c61 => ?_) (fun c61 => ?_)
        · skip
          exact nxt kb (by omega) (by assumption)
        · skip
          exact bad kb (Or.inr (by assumption)) _ rfl
theorem ac_readsLetters {S : Int → Int} {L i : Int} {st : PS} {h : AH} {T : Int → Int} {K : AO → Nat → AH → Prop} (hT : TxS S L) (hi : 0 ≤ i ∧ i ≤ 11) (hs : Sts S L st h) (hc : st.2.1 = 0) (hR : h 155 = T) (kk : ∀ h', LFr h h' → Sts S L (ltS S st) h' → ((ltS S st).2.1 = 0 → h' 155 = ltR S st.1 i T) → K (.inl none) 159 h') : AC mX9_readsLetters 5 0 0 159 [(2, 140), (0, i)] h K := by
  have hs2 := hs
  obtain ⟨x1, ⟨a1, a2, a3, a4⟩, c1, c2, c3⟩ := hs2
  refine ac_of (ls := [(2, 140), (0, i), (9, 0), (9, 0)]) pn_X9 rfl (Nat.le_of_ble_eq_true rfl) rfl ?_
  refine a_al0 (by decide) dX9_readsLetters_0 ?_
  refine aw_get 12 dX9_readsLetters_1 fl_X9_104 at_140 rfl ?_
  refine aw_if_eq 13 dX9_readsLetters_4 (by decide) (fun c4 => ?_) (fun c4 => ?_)
  · refine aw_iconst dX9_readsLetters_13 (by decide) ?_
    refine a_is2 rfl rfl dX9_readsLetters_14 ?_
    exact rl15 hT hi (by omega) hc hs (fun _ _ _ _ => rfl) hR kk
  · have hk : ¬ kP S st.1 = 0 := by omega
    refine a_al0 (by decide) dX9_readsLetters_7 ?_
    refine aw_bipush dX9_readsLetters_8 (by decide) ?_
    refine aw_callV 1 0 0 dX9_readsLetters_10 yw_X9_fails ml_X9_126 in_X9_fails se_X9_fails (ci := 8) rfl at_140 (as := [_]) rfl rfl ⟨by decide, by decide, by decide, Nat.le_of_ble_eq_true rfl⟩ ?_
    refine ac_fails hs (by decide) (fun g pf hs1 => ?_)
    have cn := hs1.2.2.1
    have cn2 : ¬ (failS S (-2) st).2.1 = 0 := failS_n (by decide)
    refine am_cv ?_
    refine aw_iconst dX9_readsLetters_13 (by decide) ?_
    refine a_is2 rfl rfl dX9_readsLetters_14 ?_
    refine a_al0 (by decide) dX9_readsLetters_15 ?_
    refine aw_get 14 dX9_readsLetters_16 fl_X9_120 at_140 rfl ?_
    try simp (disch := omega) only [up_at, up_ne]
    refine aw_if_ne 101 dX9_readsLetters_19 (by decide) (fun c19 => ?_) (fun c19 => ?_)
    · refine a_al0 (by decide) dX9_readsLetters_101 ?_
      refine aw_iconst dX9_readsLetters_102 (by decide) ?_
      refine aw_callV 4 0 0 dX9_readsLetters_103 yw_X9_must ml_X9_143 in_X9_must se_X9_must (ci := 8) rfl at_140 (as := [_]) rfl rfl ⟨by decide, by decide, by decide, Nat.le_of_ble_eq_true rfl⟩ ?_
      refine ac_must hT hs1 (fun g3 pf3 hs4 => ?_)
      have e : mustS S 1 (failS S (-2) st) = ltS S st := by
        unfold ltS
        rw [if_neg hk]
      have cn3 : ¬ (ltS S st).2.1 = 0 := by rw [← e, mustS_W cn2]; exact cn2
      rw [e] at hs4
      refine am_cv ?_
      refine aw_vret dX9_readsLetters_106 rfl ?_
      exact kk g3 (LFr_of (PFr_trans pf pf3)) hs4 (fun c => absurd c cn3)
    · exfalso; omega
noncomputable def wrI (S : Int → Int) (r : Int → Int) (f : Int) (st : PS) : Int := if (nameS S st).2.1 = 0 then fstX (nmP S st.1 r f) (r 3) else -1
noncomputable def wr2 (S : Int → Int) (r : Int → Int) (f : Int) (st : PS) : PS := if wrI S r f st = -1 then failS S (-7) (nameS S st) else nameS S st
noncomputable def wr4 (S : Int → Int) (r : Int → Int) (f nd : Int) (st : PS) : PS := mustS S 1 (if i_and (i_shr nd (wrI S r f st)) 1 = 1 then failS S (-4) (wr2 S r f st) else wr2 S r f st)
noncomputable def wr6 (S : Int → Int) (r : Int → Int) (f nd : Int) (st : PS) : PS := endS S (ltS S (wr4 S r f nd st))
noncomputable def wrN (S : Int → Int) (r : Int → Int) (f : Int) : Nat → Int → Int → (Int → Int) → PS → Int × (Int → Int) × PS
  | 0, _, n, T, st => (n, T, st)
  | m + 1, nd, n, T, st => cif (st.2.1 = 0 ∧ kP S st.1 = 0) (cif ((wr4 S r f nd st).2.1 = 0) (wrN S r f m (i_or nd (i_shl 1 (wrI S r f st))) (n + 1) (ltR S (wr4 S r f nd st).1 (wrI S r f st) T) (wr6 S r f nd st)) (n, T, wr4 S r f nd st)) (n, T, st)
