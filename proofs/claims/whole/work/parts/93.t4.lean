/-! the class: names and numbers of its text -/
theorem nF_s {S : Int → Int} {a j : Int} (hj : a ≤ j) : nF S a (j + 1 - a).toNat = nF S a (j - a).toNat * 32 + S j - 97 + 1 := by
  rw [show (j + 1 - a).toNat = (j - a).toNat + 1 by omega]
  show nF S a (j - a).toNat * 32 + S (a + ((j - a).toNat : Nat)) - 97 + 1 = _
  rw [show a + (((j - a).toNat : Nat) : Int) = j by omega]
theorem nF_b {S : Int → Int} {a : Int} {n : Nat} (hn : n ≤ 8) (h : ∀ j : Int, a ≤ j → j < a + n → isLe S j = true) : 0 ≤ nF S a n ∧ nF S a n ≤ 1099511627776 := by
  obtain ⟨i1, i2⟩ := nF_rg n hn h
  have e : (32 : Int) ^ n ≤ 32 ^ 8 := by
    have : ∀ m : Fin 9, (32 : Int) ^ m.val ≤ 32 ^ 8 := by decide
    exact this ⟨n, by omega⟩
  have e8 : (32 : Int) ^ 8 = 1099511627776 := by decide
  omega
theorem ac_isNameC {S : Int → Int} {L p : Int} {h : AH} {K : AO → Nat → AH → Prop} (hT : TxS S L) (hx : cTx S L h) (hp : 0 ≤ p ∧ p ≤ L) (h4 : h 2 4 = aP S p) (h5 : h 2 5 = wE S p) (k1 : kP S p = 0 ∧ bP S p - aP S p ≤ 8 → ∀ h', cTF h h' → h' 2 4 = aP S p → h' 2 5 = wE S p → h' 2 7 = encN (nmv S p) 8 → K (.inl (some (0, 1))) 159 h') (k0 : ¬ (kP S p = 0 ∧ bP S p - aP S p ≤ 8) → K (.inl (some (0, 0))) 159 h) : AC mX5_isName 2 0 0 159 [(2, 2)] h K := by
  obtain ⟨a1, a2, a3, a4⟩ := aP_rg hT hp
  obtain ⟨w1, w2, w3, w4⟩ := wE_rg hT hp
  obtain ⟨e1, e2⟩ := wE_0 hT hp
  have hLL := hT.1
  refine ac_of (ls := [(2, 2), (9, 0)]) pn_X5 rfl (Nat.le_of_ble_eq_true rfl) rfl ?_
  refine a_al0 (by decide) dX5_isName_0 ?_
  refine aw_callV 1 0 0 dX5_isName_1 yw_X5_isEmpty ml_X5_58 in_X5_isEmpty se_X5_isEmpty (ci := 4) rfl at_2 (as := []) rfl rfl ⟨by decide, by decide, by decide, Nat.le_of_ble_eq_true rfl⟩ ?_
  refine ac_isEmpty (fun q => ?_) (fun q => ?_)
  · have kz : ¬ kP S p = 0 := fun z => by have := e1 z; omega
    refine am_ci ?_
    refine aw_if_ne_y 21 dX5_isName_4 (by decide) (by decide) ?_
    refine aw_iconst dX5_isName_21 (by decide) ?_
    refine aw_zret dX5_isName_22 rfl (by omega) ?_
    exact k0 (fun x => kz x.1)
  · have kz : kP S p = 0 := Classical.byContradiction (fun z => by have := e2 z; omega)
    obtain ⟨b0, b1⟩ := e1 kz
    refine am_ci ?_
    refine aw_if_ne_n 21 dX5_isName_4 (by decide) (by decide) ?_
    refine a_al0 (by decide) dX5_isName_7 ?_
    refine aw_get 5 dX5_isName_8 fl_X5_25 at_2 rfl ?_
    refine a_al0 (by decide) dX5_isName_11 ?_
    refine aw_get 4 dX5_isName_12 fl_X5_22 at_2 rfl ?_
    refine aw_isubR (by omega) dX5_isName_15 ?_
    refine aw_bipush dX5_isName_16 (by decide) ?_
    refine aw_icmp_le 23 dX5_isName_18 (by decide) (fun c18 => ?_) (fun c18 => ?_)
    · have h8 : bP S p - aP S p ≤ 8 := by omega
      have ew := encN_w hT hp kz h8
      refine a_al0 (by decide) dX5_isName_23 ?_
      refine aw_lconst (x := 0) dX5_isName_24 (by decide) ?_
      refine aw_putl 7 dX5_isName_25 fp_X5_61 at_2 rfl ?_
      refine a_al0 (by decide) dX5_isName_28 ?_
      refine aw_get 4 dX5_isName_29 fl_X5_22 at_2 rfl ?_
      try simp (disch := omega) only [up_at, up_ne]
      refine a_is1 rfl rfl dX5_isName_32 ?_
      rw [h4]
      refine aw_loop (fun q : Int × AH => aP S p ≤ q.1 ∧ q.1 ≤ wE S p ∧ cTF h q.2 ∧ q.2 2 4 = aP S p ∧ q.2 2 5 = wE S p ∧ q.2 2 7 = nF S (aP S p) (q.1 - aP S p).toNat) (fun q => (wE S p - q.1).toNat) (fun q => AW mX5_isName 2 0 0 K 159 33 [(2, 2), (0, q.1)] [] q.2) (fun q hq ih => ?_) (aP S p, up h 2 7 0) ⟨by dsimp only; omega, w1, cTF_up (by decide) (cTF_refl h), by dsimp only; rw [up_ne (by omega)]; exact h4, by dsimp only; rw [up_ne (by omega)]; exact h5, by dsimp only; rw [up_at, Int.sub_self]; rfl⟩
      obtain ⟨q, g⟩ := q
      obtain ⟨q1, q2, pf, e4, e5, e7⟩ := hq
      dsimp only at q1 q2 pf e4 e5 e7 ih ⊢
      have nb := nF_b (S := S) (a := aP S p) (n := (q - aP S p).toNat) (by omega) (fun j x y => w4 j x (by omega))
      refine a_il1 dX5_isName_33 ?_
      refine a_al0 (by decide) dX5_isName_34 ?_
      refine aw_get 5 dX5_isName_35 fl_X5_25 at_2 rfl ?_
      refine aw_icmp_ge 72 dX5_isName_38 (by decide) (fun c38 => ?_) (fun c38 => ?_)
      · refine aw_iconst dX5_isName_72 (by decide) ?_
        refine aw_zret dX5_isName_73 rfl (by omega) ?_
        refine k1 ⟨kz, h8⟩ g pf e4 e5 ?_
        rw [e7, ew, b0, show q = wE S p by omega]
      · have hle := of_decide_eq_true (w4 q q1 (by omega))
        refine a_al0 (by decide) dX5_isName_41 ?_
        refine a_al0 (by decide) dX5_isName_42 ?_
        refine aw_get 7 dX5_isName_43 fl_X5_61 at_2 rfl ?_
        refine aw_ldc2 dX5_isName_46 kl_X5_65 (by decide) ?_
        refine aw_lmulR (by omega) dX5_isName_49 ?_
        refine a_al0 (by decide) dX5_isName_50 ?_
        refine a_il1 dX5_isName_51 ?_
        refine aw_callV 1 0 0 dX5_isName_52 yw_X5_byteAt ml_X5_67 in_X5_byteAt se_X5_byteAt (ci := 4) rfl at_2 (as := [_]) rfl rfl ⟨by decide, by decide, by decide, Nat.le_of_ble_eq_true rfl⟩ ?_
        refine ac_byteAt hT (cTx_T pf hx) (by omega) ?_
        rw [if_pos (by omega)]
        refine am_ci ?_
        rw [e7]
        refine aw_i2l dX5_isName_55 ?_
        refine aw_laddR (by omega) dX5_isName_56 ?_
        refine aw_ldc2 dX5_isName_57 kl_X5_71 (by decide) ?_
        refine aw_lsubR (by omega) dX5_isName_60 ?_
        refine aw_lconst (x := 1) dX5_isName_61 (by decide) ?_
        refine aw_laddR (by omega) dX5_isName_62 ?_
        refine aw_putl 7 dX5_isName_63 fp_X5_61 at_2 rfl ?_
        refine a_iiR1 (by omega) rfl rfl dX5_isName_66 ?_
        refine aw_goto 33 dX5_isName_69 (by decide) ?_
        rw [← nF_s q1]
        refine ih (q + 1, up g 2 7 (nF S (aP S p) (q + 1 - aP S p).toNat)) ⟨by dsimp only; omega, by dsimp only; omega, cTF_up (by decide) pf, by dsimp only; rw [up_ne (by omega)]; exact e4, by dsimp only; rw [up_ne (by omega)]; exact e5, by dsimp only; exact up_at _ _ _ _⟩ (by dsimp only; omega)
    · refine aw_iconst dX5_isName_21 (by decide) ?_
      refine aw_zret dX5_isName_22 rfl (by omega) ?_
      exact k0 (fun x => by have := x.2; omega)
theorem ac_nameHere {S : Int → Int} {L p : Int} {h : AH} {K : AO → Nat → AH → Prop} (hT : TxS S L) (hx : cTx S L h) (hp : 0 ≤ p ∧ p ≤ L) (h4 : h 2 4 = aP S p) (h5 : h 2 5 = wE S p) (k1 : kP S p = 0 ∧ bP S p - aP S p ≤ 8 → ∀ h', cTF h h' → h' 2 4 = aP S p → h' 2 5 = wE S p → h' 2 7 = encN (nmv S p) 8 → K (.inl (some (0, 1))) 159 h') (k0 : ¬ (kP S p = 0 ∧ bP S p - aP S p ≤ 8) → ∀ h', cEF h h' → h' 2 2 = -2 → h' 2 3 = aP S p → K (.inl (some (0, 0))) 159 h') : AC mX5_nameHere 3 0 0 159 [(2, 2)] h K := by
  refine ac_of (ls := [(2, 2)]) pn_X5 rfl (Nat.le_of_ble_eq_true rfl) rfl ?_
  refine a_al0 (by decide) dX5_nameHere_0 ?_
  refine aw_callV 2 0 0 dX5_nameHere_1 yw_X5_isName ml_X5_54 in_X5_isName se_X5_isName (ci := 4) rfl at_2 (as := []) rfl rfl ⟨by decide, by decide, by decide, Nat.le_of_ble_eq_true rfl⟩ ?_
  refine ac_isNameC hT hx hp h4 h5 (fun q h' f e4 e5 e7 => ?_) (fun q => ?_)
  · skip
    refine am_ci ?_
    refine aw_if_ne_y 16 dX5_nameHere_4 (by decide) (by decide) ?_
    refine aw_iconst dX5_nameHere_16 (by decide) ?_
    refine aw_goto 21 dX5_nameHere_17 (by decide) ?_
    refine aw_zret dX5_nameHere_21 rfl (by omega) ?_
    exact k1 q h' f e4 e5 e7
  · skip
    refine am_ci ?_
    refine aw_if_ne_n 16 dX5_nameHere_4 (by decide) (by decide) ?_
    refine a_al0 (by decide) dX5_nameHere_7 ?_
    refine aw_bipush dX5_nameHere_8 (by decide) ?_
    refine aw_callV 1 0 0 dX5_nameHere_10 yw_X5_failHere ml_X5_50 in_X5_failHere se_X5_failHere (ci := 4) rfl at_2 (as := [_]) rfl rfl ⟨by decide, by decide, by decide, Nat.le_of_ble_eq_true rfl⟩ ?_
    refine ac_failHere ?_
    refine am_ci ?_
    refine aw_if_eq_y 20 dX5_nameHere_13 (by decide) (by decide) ?_
    refine aw_iconst dX5_nameHere_20 (by decide) ?_
    refine aw_zret dX5_nameHere_21 rfl (by omega) ?_
    refine k0 q _ (cEF_up (by decide) (cEF_up (by decide) (cTF_E (cTF_refl h)))) (by rw [up_ne (by omega), up_at]) ?_
    rw [up_at, h4]
theorem ac_takeName {S : Int → Int} {L p : Int} {h : AH} {K : AO → Nat → AH → Prop} (hT : TxS S L) (hx : cTx S L h) (hp : 0 ≤ p ∧ p ≤ L) (h5 : h 2 5 = p) (k1 : kP S p = 0 ∧ bP S p - aP S p ≤ 8 → ∀ h', cTF h h' → h' 2 4 = aP S p → h' 2 5 = wE S p → h' 2 7 = encN (nmv S p) 8 → K (.inl (some (0, 1))) 159 h') (k0 : ¬ (kP S p = 0 ∧ bP S p - aP S p ≤ 8) → ∀ h', cEF h h' → h' 2 2 = -2 → h' 2 3 = aP S p → K (.inl (some (0, 0))) 159 h') : AC mX5_takeName 3 0 0 159 [(2, 2)] h K := by
  refine ac_of (ls := [(2, 2)]) pn_X5 rfl (Nat.le_of_ble_eq_true rfl) rfl ?_
  refine a_al0 (by decide) dX5_takeName_0 ?_
  refine aw_callV 2 0 0 dX5_takeName_1 yw_X5_nextWord ml_X5_43 in_X5_nextWord se_X5_nextWord (ci := 4) rfl at_2 (as := []) rfl rfl ⟨by decide, by decide, by decide, Nat.le_of_ble_eq_true rfl⟩ ?_
  refine ac_nextWord hT hx hp h5 (fun h1 f1 e4 e5 => ?_)
  refine am_cv ?_
  refine a_al0 (by decide) dX5_takeName_4 ?_
  refine aw_callV 2 0 0 dX5_takeName_5 yw_X5_isName ml_X5_54 in_X5_isName se_X5_isName (ci := 4) rfl at_2 (as := []) rfl rfl ⟨by decide, by decide, by decide, Nat.le_of_ble_eq_true rfl⟩ ?_
  refine ac_isNameC hT (cTx_T f1 hx) hp e4 e5 (fun q h' f e4' e5' e7 => ?_) (fun q => ?_)
  · skip
    refine am_ci ?_
    refine aw_if_ne_y 20 dX5_takeName_8 (by decide) (by decide) ?_
    refine aw_iconst dX5_takeName_20 (by decide) ?_
    refine aw_goto 25 dX5_takeName_21 (by decide) ?_
    refine aw_zret dX5_takeName_25 rfl (by omega) ?_
    exact k1 q h' (cTF_trans f1 f) e4' e5' e7
  · skip
    refine am_ci ?_
    refine aw_if_ne_n 20 dX5_takeName_8 (by decide) (by decide) ?_
    refine a_al0 (by decide) dX5_takeName_11 ?_
    refine aw_bipush dX5_takeName_12 (by decide) ?_
    refine aw_callV 1 0 0 dX5_takeName_14 yw_X5_failHere ml_X5_50 in_X5_failHere se_X5_failHere (ci := 4) rfl at_2 (as := [_]) rfl rfl ⟨by decide, by decide, by decide, Nat.le_of_ble_eq_true rfl⟩ ?_
    refine ac_failHere ?_
    refine am_ci ?_
    refine aw_if_eq_y 24 dX5_takeName_17 (by decide) (by decide) ?_
    refine aw_iconst dX5_takeName_24 (by decide) ?_
    refine aw_zret dX5_takeName_25 rfl (by omega) ?_
    refine k0 q _ (cEF_up (by decide) (cEF_up (by decide) (cTF_E f1))) (by rw [up_ne (by omega), up_at]) ?_
    rw [up_at, e4]
theorem ac_takeWordC {S : Int → Int} {L p : Int} {i : Nat} {q : String × Nat × String} {h : AH} {K : AO → Nat → AH → Prop} (hT : TxS S L) (hx : cTx S L h) (hp : 0 ≤ p ∧ p ≤ L) (h5 : h 2 5 = p) (hq : am_st[i]? = some q) (hn : 1 ≤ (wO i).length) (k1 : wdQ S p (wO i) → ∀ h', cTF h h' → h' 2 5 = wE S p → K (.inl (some (0, 1))) 159 h') (k0 : ¬ wdQ S p (wO i) → ∀ h', cEF h h' → h' 2 2 = -2 → h' 2 3 = aP S p → K (.inl (some (0, 0))) 159 h') : AC mX5_takeWord 6 0 0 159 [(2, 2), (2, 2000 + (i : Int))] h K := by
  have hi := am_st44 hq
  refine ac_of (ls := [(2, 2), (2, 2000 + (i : Int))]) pn_X5 rfl (Nat.le_of_ble_eq_true rfl) rfl ?_
  refine a_al0 (by decide) dX5_takeWord_0 ?_
  refine aw_callV 2 0 0 dX5_takeWord_1 yw_X5_nextWord ml_X5_43 in_X5_nextWord se_X5_nextWord (ci := 4) rfl at_2 (as := []) rfl rfl ⟨by decide, by decide, by decide, Nat.le_of_ble_eq_true rfl⟩ ?_
  refine ac_nextWord hT hx hp h5 (fun h1 f1 e4 e5 => ?_)
  refine am_cv ?_
  refine a_al0 (by decide) dX5_takeWord_4 ?_
  refine a_alX1 (am_orS hi) dX5_takeWord_5 ?_
  refine aw_callV 5 0 0 dX5_takeWord_6 yw_X5_isWord ml_X5_46 in_X5_isWord se_X5_isWord (ci := 4) rfl at_2 (as := [_]) rfl rfl ⟨by decide, by decide, by decide, Nat.le_of_ble_eq_true rfl⟩ ?_
  refine ac_isWordC hT (cTx_T f1 hx) hp e4 e5 hq hn (fun q2 => ?_) (fun q2 => ?_)
  · skip
    refine am_ci ?_
    refine aw_if_ne_y 21 dX5_takeWord_9 (by decide) (by decide) ?_
    refine aw_iconst dX5_takeWord_21 (by decide) ?_
    refine aw_goto 26 dX5_takeWord_22 (by decide) ?_
    refine aw_zret dX5_takeWord_26 rfl (by omega) ?_
    exact k1 q2 h1 f1 e5
  · skip
    refine am_ci ?_
    refine aw_if_ne_n 21 dX5_takeWord_9 (by decide) (by decide) ?_
    refine a_al0 (by decide) dX5_takeWord_12 ?_
    refine aw_bipush dX5_takeWord_13 (by decide) ?_
    refine aw_callV 1 0 0 dX5_takeWord_15 yw_X5_failHere ml_X5_50 in_X5_failHere se_X5_failHere (ci := 4) rfl at_2 (as := [_]) rfl rfl ⟨by decide, by decide, by decide, Nat.le_of_ble_eq_true rfl⟩ ?_
    refine ac_failHere ?_
    refine am_ci ?_
    refine aw_if_eq_y 25 dX5_takeWord_18 (by decide) (by decide) ?_
    refine aw_iconst dX5_takeWord_25 (by decide) ?_
    refine aw_zret dX5_takeWord_26 rfl (by omega) ?_
    refine k0 q2 _ (cEF_up (by decide) (cEF_up (by decide) (cTF_E f1))) (by rw [up_ne (by omega), up_at]) ?_
    rw [up_at, e4]
