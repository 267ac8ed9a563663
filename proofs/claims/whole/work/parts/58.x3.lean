/-! the class: the log, copies, shelves -/
theorem cLt_rg (o p : Int) : 0 ≤ cLt o p ∧ cLt o p ≤ 7 := by
  unfold cLt i_and
  obtain ⟨X, hX⟩ : ∃ X : BitVec 32, X = (Int32.ofInt (i_shr o (3 * p))).toBitVec := ⟨_, rfl⟩
  have e : (Int32.ofInt (i_shr o (3 * p)) &&& Int32.ofInt 7).toBitVec = X &&& 7#32 := by rw [hX]; rfl
  have l : (X &&& 7#32).toNat ≤ 7 := by
    rw [BitVec.toNat_and]
    exact Nat.and_le_right
  show 0 ≤ (Int32.ofInt (i_shr o (3 * p)) &&& Int32.ofInt 7).toBitVec.toInt ∧ (Int32.ofInt (i_shr o (3 * p)) &&& Int32.ofInt 7).toBitVec.toInt ≤ 7
  rw [e, bv_toI (by omega)]
  omega
theorem tm10 {t : Int} (ht : 0 ≤ t) : t.tmod 10 = t % 10 := Int.tmod_eq_emod_of_nonneg ht
def cOrI (h : AH) (b t i : Int) : Int := if cLg h b t then h (b + 8) (t % 10 * 12 + i) else if h (b + 2) (i * 11 + 1) = -1 then 0 else h (b + 3) i
theorem ac_ordersIn {b t i : Int} {h : AH} {K : AO → Nat → AH → Prop} (hB : b = 5 ∨ b = 15) (hi : 0 ≤ i ∧ i ≤ 11) (h4 : 0 ≤ h b 4 ∧ h b 4 ≤ 100000) (k : K (.inl (some (0, cOrI h b t i))) 159 h) : AC mX3_ordersIn 3 0 0 159 [(2, b), (0, t), (0, i)] h K := by
  have hb := sh_ab hB
  unfold cOrI at k
  refine ac_of (ls := [(2, b), (0, t), (0, i)]) pn_X3 rfl (Nat.le_of_ble_eq_true rfl) rfl ?_
  refine a_al0 (am_sh_rg hb) dX3_ordersIn_0 ?_
  refine a_il1 dX3_ordersIn_1 ?_
  refine aw_callV 1 0 0 dX3_ordersIn_2 yw_X3_isLogged ml_X3_148 in_X3_isLogged se_X3_isLogged (ci := 2) rfl (am_sh_at hb) (as := [_]) rfl rfl ⟨by decide, by decide, by decide, Nat.le_of_ble_eq_true rfl⟩ ?_
  refine ac_isLogged hB h4 (fun q => ?_) (fun q => ?_)
  · have e := tm10 q.1
    rw [if_pos q] at k
    refine am_ci ?_
    refine aw_if_eq_n 23 dX3_ordersIn_5 (by decide) (by decide) ?_
    refine a_al0 (am_sh_rg hb) dX3_ordersIn_8 ?_
    refine aw_shR 16 8 hb dX3_ordersIn_9 fl_X3_34 (by decide) ?_
    refine a_il1 dX3_ordersIn_12 ?_
    refine aw_bipush dX3_ordersIn_13 (by decide) ?_
    refine aw_irem dX3_ordersIn_15 (by omega) ?_
    rw [e]
    refine aw_bipush dX3_ordersIn_16 (by decide) ?_
    refine aw_imulR (by omega) dX3_ordersIn_18 ?_
    refine a_il2 dX3_ordersIn_19 ?_
    refine aw_iaddR (by omega) dX3_ordersIn_20 ?_
    refine aw_iald dX3_ordersIn_21 (am_sa_8 hb) (by omega) ?_
    refine aw_iret dX3_ordersIn_22 rfl ?_
    exact k
  · rw [if_neg q] at k
    refine am_ci ?_
    refine aw_if_eq_y 23 dX3_ordersIn_5 (by decide) (by decide) ?_
    refine a_al0 (am_sh_rg hb) dX3_ordersIn_23 ?_
    refine a_il2 dX3_ordersIn_24 ?_
    refine aw_callV 2 0 0 dX3_ordersIn_25 yw_X3_floats ml_X3_103 in_X3_floats se_X3_floats (ci := 2) rfl (am_sh_at hb) (as := [_]) rfl rfl ⟨by decide, by decide, by decide, Nat.le_of_ble_eq_true rfl⟩ ?_
    refine ac_floats hB hi (fun q2 => ?_) (fun q2 => ?_)
    · rw [if_neg q2] at k
      refine am_ci ?_
      refine aw_if_eq_n 40 dX3_ordersIn_28 (by decide) (by decide) ?_
      refine a_al0 (am_sh_rg hb) dX3_ordersIn_31 ?_
      refine aw_shR 11 3 hb dX3_ordersIn_32 fl_X3_19 (by decide) ?_
      refine a_il2 dX3_ordersIn_35 ?_
      refine aw_iald dX3_ordersIn_36 (am_sa_3 hb) (by omega) ?_
      refine aw_goto 41 dX3_ordersIn_37 (by decide) ?_
      refine aw_iret dX3_ordersIn_41 rfl ?_
      exact k
    · rw [if_pos q2] at k
      refine am_ci ?_
      refine aw_if_eq_y 40 dX3_ordersIn_28 (by decide) (by decide) ?_
      refine aw_iconst dX3_ordersIn_40 (by decide) ?_
      refine aw_iret dX3_ordersIn_41 rfl ?_
      exact k
def cSeI (h : AH) (b t f : Int) : Int := if cLg h b t then h (b + 9) (t % 10 * 4 + f) else h (b + 7) f
theorem ac_sealIn {b t f : Int} {h : AH} {K : AO → Nat → AH → Prop} (hB : b = 5 ∨ b = 15) (hf : 0 ≤ f ∧ f ≤ 3) (h4 : 0 ≤ h b 4 ∧ h b 4 ≤ 100000) (k : K (.inl (some (0, cSeI h b t f))) 159 h) : AC mX3_sealIn 2 0 0 159 [(2, b), (0, t), (0, f)] h K := by
  have hb := sh_ab hB
  unfold cSeI at k
  refine ac_of (ls := [(2, b), (0, t), (0, f)]) pn_X3 rfl (Nat.le_of_ble_eq_true rfl) rfl ?_
  refine a_al0 (am_sh_rg hb) dX3_sealIn_0 ?_
  refine a_il1 dX3_sealIn_1 ?_
  refine aw_callV 1 0 0 dX3_sealIn_2 yw_X3_isLogged ml_X3_148 in_X3_isLogged se_X3_isLogged (ci := 2) rfl (am_sh_at hb) (as := [_]) rfl rfl ⟨by decide, by decide, by decide, Nat.le_of_ble_eq_true rfl⟩ ?_
  refine ac_isLogged hB h4 (fun q => ?_) (fun q => ?_)
  · have e := tm10 q.1
    rw [if_pos q] at k
    refine am_ci ?_
    refine aw_if_eq_n 24 dX3_sealIn_5 (by decide) (by decide) ?_
    refine a_al0 (am_sh_rg hb) dX3_sealIn_8 ?_
    refine aw_shR 17 9 hb dX3_sealIn_9 fl_X3_37 (by decide) ?_
    refine a_il1 dX3_sealIn_12 ?_
    refine aw_bipush dX3_sealIn_13 (by decide) ?_
    refine aw_irem dX3_sealIn_15 (by omega) ?_
    rw [e]
    refine aw_iconst dX3_sealIn_16 (by decide) ?_
    refine aw_imulR (by omega) dX3_sealIn_17 ?_
    refine a_il2 dX3_sealIn_18 ?_
    refine aw_iaddR (by omega) dX3_sealIn_19 ?_
    refine aw_iald dX3_sealIn_20 (am_sa_9 hb) (by omega) ?_
    refine aw_goto 30 dX3_sealIn_21 (by decide) ?_
    refine aw_iret dX3_sealIn_30 rfl ?_
    exact k
  · rw [if_neg q] at k
    refine am_ci ?_
    refine aw_if_eq_y 24 dX3_sealIn_5 (by decide) (by decide) ?_
    refine a_al0 (am_sh_rg hb) dX3_sealIn_24 ?_
    refine aw_shR 15 7 hb dX3_sealIn_25 fl_X3_31 (by decide) ?_
    refine a_il2 dX3_sealIn_28 ?_
    refine aw_iald dX3_sealIn_29 (am_sa_7 hb) (by omega) ?_
    refine aw_iret dX3_sealIn_30 rfl ?_
    exact k
def csP (o : Int) : Nat → Int → Int
  | 0, s => s
  | p + 1, s => mixI (csP o p s) (cLt o p)
def csN (h : AH) (b t f : Int) : Nat → Int → Int
  | 0, s => s
  | i + 1, s => if ¬ cOrI h b t i = 0 ∧ h (b + 2) ((i : Int) * 11 + 0) = f then csP (cOrI h b t i) 6 (csN h b t f i s) else csN h b t f i s
theorem csP_s (o s : Int) {p : Int} (hp : 0 ≤ p) : csP o (p + 1).toNat s = mixI (csP o p.toNat s) (cLt o p) := by
  rw [show (p + 1).toNat = p.toNat + 1 by omega]
  show mixI (csP o p.toNat s) (cLt o (p.toNat : Int)) = _
  rw [Int.toNat_of_nonneg hp]
theorem csN_s (h : AH) (b t f s : Int) {i : Int} (hi : 0 ≤ i) : csN h b t f (i + 1).toNat s = if ¬ cOrI h b t i = 0 ∧ h (b + 2) (i * 11 + 0) = f then csP (cOrI h b t i) 6 (csN h b t f i.toNat s) else csN h b t f i.toNat s := by
  rw [show (i + 1).toNat = i.toNat + 1 by omega]
  show (if ¬ cOrI h b t (i.toNat : Int) = 0 ∧ h (b + 2) ((i.toNat : Int) * 11 + 0) = f then csP (cOrI h b t (i.toNat : Int)) 6 (csN h b t f i.toNat s) else csN h b t f i.toNat s) = _
  rw [Int.toNat_of_nonneg hi]
theorem csP_rg {o s : Int} (hs : 0 ≤ s ∧ s ≤ 1000002) : ∀ p : Nat, 0 ≤ csP o p s ∧ csP o p s ≤ 1000002
  | 0 => hs
  | p + 1 => mixI_rg (csP_rg hs p).1 (cLt_rg o p).1
theorem csN_rg {h : AH} {b t f s : Int} (hs : 0 ≤ s ∧ s ≤ 1000002) : ∀ i : Nat, 0 ≤ csN h b t f i s ∧ csN h b t f i s ≤ 1000002
  | 0 => hs
  | i + 1 => by
    show 0 ≤ (if ¬ cOrI h b t i = 0 ∧ h (b + 2) ((i : Int) * 11 + 0) = f then csP (cOrI h b t i) 6 (csN h b t f i s) else csN h b t f i s) ∧ (if ¬ cOrI h b t i = 0 ∧ h (b + 2) ((i : Int) * 11 + 0) = f then csP (cOrI h b t i) 6 (csN h b t f i s) else csN h b t f i s) ≤ 1000002
    split
    · exact csP_rg (csN_rg hs i) 6
    · exact csN_rg hs i
theorem ac_sealBy {b t f y : Int} {h : AH} {K : AO → Nat → AH → Prop} (hB : b = 5 ∨ b = 15) (hn : 0 ≤ h b 3 ∧ h b 3 ≤ 12) (h4 : 0 ≤ h b 4 ∧ h b 4 ≤ 100000) (hy : 0 ≤ y ∧ y ≤ 999999) (k : K (.inl (some (0, csN h b t f (h b 3).toNat y))) 159 h) : AC mX3_sealBy 4 0 0 159 [(2, b), (0, t), (0, f), (0, y)] h K := by
  have hb := sh_ab hB
  refine ac_of (ls := [(2, b), (0, t), (0, f), (0, y), (9, 0), (9, 0), (9, 0), (9, 0)]) pn_X3 rfl (Nat.le_of_ble_eq_true rfl) rfl ?_
  refine a_il3 dX3_sealBy_0 ?_
  refine a_is4 rfl rfl dX3_sealBy_1 ?_
  refine aw_iconst dX3_sealBy_3 (by decide) ?_
  refine a_is5 rfl rfl dX3_sealBy_4 ?_
  refine aw_loop (fun q : Int × Int × AV × AV => 0 ≤ q.1 ∧ q.1 ≤ h b 3 ∧ q.2.1 = csN h b t f q.1.toNat y ∧ am_n2 q.2.2.1 = true ∧ am_n2 q.2.2.2 = true) (fun q => (h b 3 - q.1).toNat) (fun q => AW mX3_sealBy 4 0 0 K 159 6 [(2, b), (0, t), (0, f), (0, y), (0, q.2.1), (0, q.1), q.2.2.1, q.2.2.2] [] h) (fun q hq ih => ?_) (0, y, (9, 0), (9, 0)) ⟨by dsimp only; omega, hn.1, rfl, rfl, rfl⟩
  obtain ⟨i, s, v6, v7⟩ := q
  obtain ⟨i0, i1, es, hv6, hv7⟩ := hq
  dsimp only at i0 i1 es hv6 hv7 ih ⊢
  have rs : 0 ≤ s ∧ s ≤ 1000002 := by
    rw [es]
    exact csN_rg (by omega) _
  have e2 := csN_s h b t f y i0
  refine a_il5 dX3_sealBy_6 ?_
  refine a_al0 (am_sh_rg hb) dX3_sealBy_8 ?_
  refine aw_get 3 dX3_sealBy_9 fl_X3_50 (am_sh_at hb) rfl ?_
  refine aw_icmp_ge 80 dX3_sealBy_12 (by decide) (fun c12 => ?_) (fun c12 => ?_)
  · refine a_il4 dX3_sealBy_80 ?_
    refine aw_iret dX3_sealBy_82 rfl ?_
    rw [es, show i = h b 3 by omega]
    exact k
  · refine a_al0 (am_sh_rg hb) dX3_sealBy_15 ?_
    refine a_il1 dX3_sealBy_16 ?_
    refine a_il5 dX3_sealBy_17 ?_
    refine aw_callV 3 0 0 dX3_sealBy_19 yw_X3_ordersIn ml_X3_151 in_X3_ordersIn se_X3_ordersIn (ci := 2) rfl (am_sh_at hb) (as := [_, _]) rfl rfl ⟨by decide, by decide, by decide, Nat.le_of_ble_eq_true rfl⟩ ?_
    refine ac_ordersIn hB (by omega) h4 ?_
    obtain ⟨o, ho⟩ : ∃ o, o = cOrI h b t i := ⟨_, rfl⟩
    rw [← ho] at e2 ⊢
    refine am_ci ?_
    refine a_is6 rfl rfl dX3_sealBy_22 ?_
    refine a_il6 dX3_sealBy_24 ?_
    refine aw_if_eq 74 dX3_sealBy_26 (by decide) (fun c26 => ?_) (fun c26 => ?_)
    · rw [if_neg (fun q => q.1 (by assumption))] at e2
      refine a_iiR5 (by omega) rfl rfl dX3_sealBy_74 ?_
      refine aw_goto 6 dX3_sealBy_77 (by decide) ?_
      exact ih (i + 1, s, (0, o), v7) ⟨by dsimp only; omega, by dsimp only; omega, by dsimp only; rw [e2, es], rfl, hv7⟩ (by dsimp only; omega)
    · have on : ¬ o = 0 := by assumption
      refine a_al0 (am_sh_rg hb) dX3_sealBy_29 ?_
      refine a_il5 dX3_sealBy_30 ?_
      refine aw_iconst dX3_sealBy_32 (by decide) ?_
      refine aw_callV 1 0 0 dX3_sealBy_33 yw_X3_get ml_X3_100 in_X3_get se_X3_get (ci := 2) rfl (am_sh_at hb) (as := [_, _]) rfl rfl ⟨by decide, by decide, by decide, Nat.le_of_ble_eq_true rfl⟩ ?_
      refine ac_get hB (by omega) (by decide) ?_
      refine am_ci ?_
      refine a_il2 dX3_sealBy_36 ?_
      refine aw_icmp_ne 74 dX3_sealBy_37 (by decide) (fun c37 => ?_) (fun c37 => ?_)
      · have nf : ¬ h (b + 2) (i * 11 + 0) = f := by assumption
        rw [if_neg (fun q => nf q.2)] at e2
        refine a_iiR5 (by omega) rfl rfl dX3_sealBy_74 ?_
        refine aw_goto 6 dX3_sealBy_77 (by decide) ?_
        exact ih (i + 1, s, (0, o), v7) ⟨by dsimp only; omega, by dsimp only; omega, by dsimp only; rw [e2, es], rfl, hv7⟩ (by dsimp only; omega)
      · have nf : h (b + 2) (i * 11 + 0) = f := by assumption
        rw [if_pos ⟨on, nf⟩] at e2
        refine aw_iconst dX3_sealBy_40 (by decide) ?_
        refine a_is7 rfl rfl dX3_sealBy_41 ?_
        refine aw_loop (fun q : Int × Int => 0 ≤ q.1 ∧ q.1 ≤ 6 ∧ q.2 = csP o q.1.toNat s) (fun q => (6 - q.1).toNat) (fun q => AW mX3_sealBy 4 0 0 K 159 43 [(2, b), (0, t), (0, f), (0, y), (0, q.2), (0, i), (0, o), (0, q.1)] [] h) (fun q hq ih2 => ?_) (0, s) ⟨by dsimp only; omega, by dsimp only; omega, rfl⟩
        obtain ⟨p, c⟩ := q
        obtain ⟨p0, p1, ec⟩ := hq
        dsimp only at p0 p1 ec ih2 ⊢
        have rc : 0 ≤ c ∧ c ≤ 1000002 := by
          rw [ec]
          exact csP_rg rs _
        have e4 := csP_s o s p0
        have rl := cLt_rg o p
        refine a_il7 dX3_sealBy_43 ?_
        refine aw_bipush dX3_sealBy_45 (by decide) ?_
        refine aw_icmp_ge 74 dX3_sealBy_47 (by decide) (fun c47 => ?_) (fun c47 => ?_)
        · refine a_iiR5 (by omega) rfl rfl dX3_sealBy_74 ?_
          refine aw_goto 6 dX3_sealBy_77 (by decide) ?_
          refine ih (i + 1, c, (0, o), (0, p)) ⟨by dsimp only; omega, by dsimp only; omega, ?_, rfl, rfl⟩ (by dsimp only; omega)
          dsimp only
          rw [e2, ec, show p = 6 by omega, es]
          rfl
        · refine aw_bipush dX3_sealBy_50 (by decide) ?_
          refine a_il4 dX3_sealBy_52 ?_
          refine aw_imulR (by omega) dX3_sealBy_54 ?_
          refine a_il6 dX3_sealBy_55 ?_
          refine a_il7 dX3_sealBy_57 ?_
          refine aw_callS 1 0 0 dX3_sealBy_59 yw_X2_letter ml_X3_124 sm_X2_letter (as := [_, _]) rfl rfl ⟨by decide, by decide, by decide, Nat.le_of_ble_eq_true rfl⟩ ?_
          refine ac_letter (by omega) ?_
          refine am_ci ?_
          refine aw_iaddR (by omega) dX3_sealBy_62 ?_
          refine aw_ldc dX3_sealBy_63 kc_X3_154 (by decide) ?_
          refine aw_irem dX3_sealBy_65 (by omega) ?_
          refine a_is4 rfl rfl dX3_sealBy_66 ?_
          refine a_iiR7 (by omega) rfl rfl dX3_sealBy_68 ?_
          refine aw_goto 43 dX3_sealBy_71 (by decide) ?_
          refine ih2 (p + 1, mixI c (cLt o p)) ⟨by dsimp only; omega, by dsimp only; omega, ?_⟩ (by dsimp only; omega)
          dsimp only
          rw [e4, ← ec]
def cLogT (h : AH) (b : Int) (h' : AH) : Prop := (∀ k x, ¬ (k = b + 8 ∧ h b 4 % 10 * 12 ≤ x ∧ x < h b 4 % 10 * 12 + h b 3) → ¬ (k = b + 9 ∧ h b 4 % 10 * 4 ≤ x ∧ x < h b 4 % 10 * 4 + h b 2) → h' k x = h k x) ∧ (∀ i, 0 ≤ i → i < h b 3 → h' (b + 8) (h b 4 % 10 * 12 + i) = if h (b + 2) (i * 11 + 1) = -1 then 0 else h (b + 3) i) ∧ ∀ f, 0 ≤ f → f < h b 2 → h' (b + 9) (h b 4 % 10 * 4 + f) = h (b + 7) f
theorem ac_logTurn {b : Int} {h : AH} {K : AO → Nat → AH → Prop} (hB : b = 5 ∨ b = 15) (hn : 0 ≤ h b 3 ∧ h b 3 ≤ 12) (hf : 0 ≤ h b 2 ∧ h b 2 ≤ 4) (h4 : 0 ≤ h b 4 ∧ h b 4 ≤ 100000) (kk : ∀ h', cLogT h b h' → K (.inl none) 159 h') : AC mX3_logTurn 3 0 0 159 [(2, b)] h K := by
  have hb := sh_ab hB
  have e := tm10 h4.1
  obtain ⟨t, ht⟩ : ∃ t, t = h b 4 % 10 := ⟨_, rfl⟩
  have rt : 0 ≤ t ∧ t ≤ 9 := by omega
  unfold cLogT at kk
  rw [← ht] at e kk
  have mxe : (if (0 : Int) < h b 4 then h b 4 else 0) = h b 4 := by split <;> omega
  refine ac_of (ls := [(2, b), (9, 0), (9, 0)]) pn_X3 rfl (Nat.le_of_ble_eq_true rfl) rfl ?_
  refine aw_iconst dX3_logTurn_0 (by decide) ?_
  refine a_al0 (am_sh_rg hb) dX3_logTurn_1 ?_
  refine aw_get 4 dX3_logTurn_2 fl_X3_53 (am_sh_at hb) rfl ?_
  refine aw_mmax dX3_logTurn_5 ⟨ml_X3_155, mw_max⟩ ⟨by decide, Nat.le_of_ble_eq_true rfl⟩ ?_
  rw [mxe]
  refine aw_bipush dX3_logTurn_8 (by decide) ?_
  refine aw_irem dX3_logTurn_10 (by omega) ?_
  refine a_is1 rfl rfl dX3_logTurn_11 ?_
  refine aw_iconst dX3_logTurn_12 (by decide) ?_
  refine a_is2 rfl rfl dX3_logTurn_13 ?_
  rw [e]
  refine aw_loop (fun q : Int × AH => 0 ≤ q.1 ∧ q.1 ≤ h b 3 ∧ (∀ k x, ¬ (k = b + 8 ∧ t * 12 ≤ x ∧ x < t * 12 + q.1) → q.2 k x = h k x) ∧ (∀ i, 0 ≤ i → i < q.1 → q.2 (b + 8) (t * 12 + i) = if h (b + 2) (i * 11 + 1) = -1 then 0 else h (b + 3) i)) (fun q => (h b 3 - q.1).toNat) (fun q => AW mX3_logTurn 3 0 0 K 159 14 [(2, b), (0, t), (0, q.1)] [] q.2) (fun q hq ih => ?_) (0, h) ⟨by dsimp only; omega, hn.1, fun _ _ _ => rfl, fun j a b => by dsimp only at b; omega⟩
  obtain ⟨i, g⟩ := q
  obtain ⟨i0, i1, fr, hj⟩ := hq
  dsimp only at i0 i1 fr hj ih ⊢
  have g3 : g b 3 = h b 3 := fr _ _ (by omega)
  refine a_il2 dX3_logTurn_14 ?_
  refine a_al0 (am_sh_rg hb) dX3_logTurn_15 ?_
  refine aw_get 3 dX3_logTurn_16 fl_X3_50 (am_sh_at hb) rfl ?_
  refine aw_icmp_ge 57 dX3_logTurn_19 (by decide) (fun c19 => ?_) (fun c19 => ?_)
  · have ei : i = h b 3 := by omega
    refine aw_iconst dX3_logTurn_57 (by decide) ?_
    refine a_is2 rfl rfl dX3_logTurn_58 ?_
    rw [ei] at fr hj
    refine aw_loop (fun q : Int × AH => 0 ≤ q.1 ∧ q.1 ≤ h b 2 ∧ (∀ k x, ¬ (k = b + 9 ∧ t * 4 ≤ x ∧ x < t * 4 + q.1) → q.2 k x = g k x) ∧ (∀ i, 0 ≤ i → i < q.1 → q.2 (b + 9) (t * 4 + i) = h (b + 7) i)) (fun q => (h b 2 - q.1).toNat) (fun q => AW mX3_logTurn 3 0 0 K 159 59 [(2, b), (0, t), (0, q.1)] [] q.2) (fun q hq ih2 => ?_) (0, g) ⟨by dsimp only; omega, hf.1, fun _ _ _ => rfl, fun j a b => by dsimp only at b; omega⟩
    obtain ⟨f, g2⟩ := q
    obtain ⟨f0, f1, fr2, hj2⟩ := hq
    dsimp only at f0 f1 fr2 hj2 ih2 ⊢
    have g4 : g2 b 2 = h b 2 := by rw [fr2 _ _ (by omega), fr _ _ (by omega)]
    refine a_il2 dX3_logTurn_59 ?_
    refine a_al0 (am_sh_rg hb) dX3_logTurn_60 ?_
    refine aw_get 2 dX3_logTurn_61 fl_X3_47 (am_sh_at hb) rfl ?_
    refine aw_icmp_ge 89 dX3_logTurn_64 (by decide) (fun c64 => ?_) (fun c64 => ?_)
    · have ef : f = h b 2 := by omega
      refine aw_vret dX3_logTurn_89 rfl ?_
      rw [ef] at fr2 hj2
      refine kk g2 ⟨fun k x c1 c2 => by rw [fr2 k x c2, fr k x c1], fun i a c => ?_, hj2⟩
      rw [fr2 _ _ (by omega)]
      exact hj i a c
    · have g7 : g2 (b + 7) f = h (b + 7) f := by rw [fr2 _ _ (by omega), fr _ _ (by omega)]
      refine a_al0 (am_sh_rg hb) dX3_logTurn_67 ?_
      refine aw_shR 17 9 hb dX3_logTurn_68 fl_X3_37 (by decide) ?_
      refine a_il1 dX3_logTurn_71 ?_
      refine aw_iconst dX3_logTurn_72 (by decide) ?_
      refine aw_imulR (by omega) dX3_logTurn_73 ?_
      refine a_il2 dX3_logTurn_74 ?_
      refine aw_iaddR (by omega) dX3_logTurn_75 ?_
      refine a_al0 (am_sh_rg hb) dX3_logTurn_76 ?_
      refine aw_shR 15 7 hb dX3_logTurn_77 fl_X3_31 (by decide) ?_
      refine a_il2 dX3_logTurn_80 ?_
      refine aw_iald dX3_logTurn_81 (am_sa_7 hb) (by omega) ?_
      refine aw_iast dX3_logTurn_82 (am_sa_9 hb) (by omega) ?_
      refine a_iiR2 (by omega) rfl rfl dX3_logTurn_83 ?_
      refine aw_goto 59 dX3_logTurn_86 (by decide) ?_
      rw [g7]
      refine ih2 (f + 1, up g2 (b + 9) (t * 4 + f) (h (b + 7) f)) ⟨by dsimp only; omega, by dsimp only; omega, fun k x c => ?_, fun j a c => ?_⟩ (by dsimp only; omega)
      · dsimp only at c ⊢
        rw [up_ne (by omega), fr2 k x (by omega)]
      · dsimp only at c ⊢
        by_cases z : j = f
        · rw [z, up_at]
        · rw [up_ne (by omega), hj2 j a (by omega)]
  · have g2 : g (b + 2) (i * 11 + 1) = h (b + 2) (i * 11 + 1) := fr _ _ (by omega)
    have g9 : g (b + 3) i = h (b + 3) i := fr _ _ (by omega)
    have nx : ∀ v, v = (if h (b + 2) (i * 11 + 1) = -1 then 0 else h (b + 3) i) → i < h b 3 → AW mX3_logTurn 3 0 0 K 159 14 [(2, b), (0, t), (0, i + 1)] [] (up g (b + 8) (t * 12 + i) v) := fun v hv il => by
      refine ih (i + 1, up g (b + 8) (t * 12 + i) v) ⟨by dsimp only; omega, by dsimp only; omega, fun k x c => ?_, fun j a c => ?_⟩ (by dsimp only; omega)
      · dsimp only at c ⊢
        rw [up_ne (by omega), fr k x (by omega)]
      · dsimp only at c ⊢
        by_cases z : j = i
        · rw [z, up_at, hv]
        · rw [up_ne (by omega), hj j a (by omega)]
    refine a_al0 (am_sh_rg hb) dX3_logTurn_22 ?_
    refine aw_shR 16 8 hb dX3_logTurn_23 fl_X3_34 (by decide) ?_
    refine a_il1 dX3_logTurn_26 ?_
    refine aw_bipush dX3_logTurn_27 (by decide) ?_
    refine aw_imulR (by omega) dX3_logTurn_29 ?_
    refine a_il2 dX3_logTurn_30 ?_
    refine aw_iaddR (by omega) dX3_logTurn_31 ?_
    refine a_al0 (am_sh_rg hb) dX3_logTurn_32 ?_
    refine a_il2 dX3_logTurn_33 ?_
    refine aw_callV 2 0 0 dX3_logTurn_34 yw_X3_floats ml_X3_103 in_X3_floats se_X3_floats (ci := 2) rfl (am_sh_at hb) (as := [_]) rfl rfl ⟨by decide, by decide, by decide, Nat.le_of_ble_eq_true rfl⟩ ?_
    refine ac_floats hB (by omega) (fun q => ?_) (fun q => ?_)
    · rw [g2] at q
      refine am_ci ?_
      refine aw_if_eq_n 49 dX3_logTurn_37 (by decide) (by decide) ?_
      refine a_al0 (am_sh_rg hb) dX3_logTurn_40 ?_
      refine aw_shR 11 3 hb dX3_logTurn_41 fl_X3_19 (by decide) ?_
      refine a_il2 dX3_logTurn_44 ?_
      refine aw_iald dX3_logTurn_45 (am_sa_3 hb) (by omega) ?_
      refine aw_goto 50 dX3_logTurn_46 (by decide) ?_
      refine aw_iast dX3_logTurn_50 (am_sa_8 hb) (by omega) ?_
      refine a_iiR2 (by omega) rfl rfl dX3_logTurn_51 ?_
      refine aw_goto 14 dX3_logTurn_54 (by decide) ?_
      rw [g9]
      exact nx _ (if_neg q).symm (by omega)
    · rw [g2] at q
      refine am_ci ?_
      refine aw_if_eq_y 49 dX3_logTurn_37 (by decide) (by decide) ?_
      refine aw_iconst dX3_logTurn_49 (by decide) ?_
      refine aw_iast dX3_logTurn_50 (am_sa_8 hb) (by omega) ?_
      refine a_iiR2 (by omega) rfl rfl dX3_logTurn_51 ?_
      refine aw_goto 14 dX3_logTurn_54 (by decide) ?_
      exact nx 0 (if_pos q).symm (by omega)
def ckR (h : AH) (b p i j li lj : Int) : AH := if 30 ≤ h b 8 then h else up (up (up (up (up (up h (b + 5) (h b 8 * 5) p) (b + 5) (h b 8 * 5 + 1) i) (b + 5) (h b 8 * 5 + 2) j) (b + 5) (h b 8 * 5 + 3) li) (b + 5) (h b 8 * 5 + 4) lj) b 8 (h b 8 + 1)
theorem ac_keepRam {b p i j li lj : Int} {h : AH} {K : AO → Nat → AH → Prop} (hB : b = 5 ∨ b = 15) (h8 : 0 ≤ h b 8 ∧ h b 8 ≤ 30) (k : K (.inl none) 159 (ckR h b p i j li lj)) : AC mX3_keepRam 1 0 0 159 [(2, b), (0, p), (0, i), (0, j), (0, li), (0, lj)] h K := by
  have hb := sh_ab hB
  unfold ckR at k
  refine ac_of (ls := [(2, b), (0, p), (0, i), (0, j), (0, li), (0, lj), (9, 0)]) pn_X3 rfl (Nat.le_of_ble_eq_true rfl) rfl ?_
  refine a_al0 (am_sh_rg hb) dX3_keepRam_0 ?_
  refine aw_get 8 dX3_keepRam_1 fl_X3_65 (am_sh_at hb) rfl ?_
  refine aw_bipush dX3_keepRam_4 (by decide) ?_
  refine aw_icmp_lt 10 dX3_keepRam_6 (by decide) (fun c6 => ?_) (fun c6 => ?_)
  · rw [if_neg (by omega)] at k
    refine a_al0 (am_sh_rg hb) dX3_keepRam_10 ?_
    refine aw_get 8 dX3_keepRam_11 fl_X3_65 (am_sh_at hb) rfl ?_
    refine aw_iconst dX3_keepRam_14 (by decide) ?_
    refine aw_imulR (by omega) dX3_keepRam_15 ?_
    refine a_is6 rfl rfl dX3_keepRam_16 ?_
    refine a_al0 (am_sh_rg hb) dX3_keepRam_18 ?_
    refine aw_shR 13 5 hb dX3_keepRam_19 fl_X3_25 (by decide) ?_
    refine a_il6 dX3_keepRam_22 ?_
    refine a_il1 dX3_keepRam_24 ?_
    refine aw_iast dX3_keepRam_25 (am_sa_5 hb) (by omega) ?_
    refine a_al0 (am_sh_rg hb) dX3_keepRam_26 ?_
    refine aw_shR 13 5 hb dX3_keepRam_27 fl_X3_25 (by decide) ?_
    try simp (disch := omega) only [up_at, up_ne]
    refine a_il6 dX3_keepRam_30 ?_
    refine aw_iconst dX3_keepRam_32 (by decide) ?_
    refine aw_iaddR (by omega) dX3_keepRam_33 ?_
    refine a_il2 dX3_keepRam_34 ?_
    refine aw_iast dX3_keepRam_35 (am_sa_5 hb) (by omega) ?_
    refine a_al0 (am_sh_rg hb) dX3_keepRam_36 ?_
    refine aw_shR 13 5 hb dX3_keepRam_37 fl_X3_25 (by decide) ?_
    try simp (disch := omega) only [up_at, up_ne]
    refine a_il6 dX3_keepRam_40 ?_
    refine aw_iconst dX3_keepRam_42 (by decide) ?_
    refine aw_iaddR (by omega) dX3_keepRam_43 ?_
    refine a_il3 dX3_keepRam_44 ?_
    refine aw_iast dX3_keepRam_45 (am_sa_5 hb) (by omega) ?_
    refine a_al0 (am_sh_rg hb) dX3_keepRam_46 ?_
    refine aw_shR 13 5 hb dX3_keepRam_47 fl_X3_25 (by decide) ?_
    try simp (disch := omega) only [up_at, up_ne]
    refine a_il6 dX3_keepRam_50 ?_
    refine aw_iconst dX3_keepRam_52 (by decide) ?_
    refine aw_iaddR (by omega) dX3_keepRam_53 ?_
    refine a_il4 dX3_keepRam_54 ?_
    refine aw_iast dX3_keepRam_56 (am_sa_5 hb) (by omega) ?_
    refine a_al0 (am_sh_rg hb) dX3_keepRam_57 ?_
    refine aw_shR 13 5 hb dX3_keepRam_58 fl_X3_25 (by decide) ?_
    try simp (disch := omega) only [up_at, up_ne]
    refine a_il6 dX3_keepRam_61 ?_
    refine aw_iconst dX3_keepRam_63 (by decide) ?_
    refine aw_iaddR (by omega) dX3_keepRam_64 ?_
    refine a_il5 dX3_keepRam_65 ?_
    refine aw_iast dX3_keepRam_67 (am_sa_5 hb) (by omega) ?_
    refine a_al0 (am_sh_rg hb) dX3_keepRam_68 ?_
    refine aw_dup dX3_keepRam_69 rfl ?_
    refine aw_get 8 dX3_keepRam_70 fl_X3_65 (am_sh_at hb) rfl ?_
    try simp (disch := omega) only [up_at, up_ne]
    refine aw_iconst dX3_keepRam_73 (by decide) ?_
    refine aw_iaddR (by omega) dX3_keepRam_74 ?_
    refine aw_put 8 dX3_keepRam_75 fp_X3_65 (am_sh_at hb) rfl ?_
    refine aw_vret dX3_keepRam_78 rfl ?_
    exact k
  · rw [if_pos (by omega)] at k
    refine aw_vret dX3_keepRam_9 rfl ?_
    exact k
theorem ac_copyRow {f t : Int} {n : Nat} {h : AH} {K : AO → Nat → AH → Prop} (hf : am_ar 159 f 100 n) (ht : am_ar 159 t 100 n) (hn : n ≤ 2000) (k : K (.inl none) 159 (cpy h t 0 f 0 n)) : AC mX3_copyRow 1 0 0 159 [(2, f), (2, t)] h K := by
  have me : (if (n : Int) < (n : Int) then (n : Int) else (n : Int)) = n := by split <;> rfl
  refine ac_of (ls := [(2, f), (2, t)]) pn_X3 rfl (Nat.le_of_ble_eq_true rfl) rfl ?_
  refine a_al0 (am_sa_rg hf) dX3_copyRow_0 ?_
  refine aw_iconst dX3_copyRow_1 (by decide) ?_
  refine a_al1 (am_sa_rg ht) dX3_copyRow_2 ?_
  refine aw_iconst dX3_copyRow_3 (by decide) ?_
  refine a_al0 (am_sa_rg hf) dX3_copyRow_4 ?_
  refine aw_alen (by omega) dX3_copyRow_5 hf (by decide) ?_
  refine a_al1 (am_sa_rg ht) dX3_copyRow_6 ?_
  refine aw_alen (by omega) dX3_copyRow_7 ht (by decide) ?_
  refine aw_mmin dX3_copyRow_8 ⟨ml_X3_90, mw_min⟩ ⟨by decide, Nat.le_of_ble_eq_true rfl⟩ ?_
  rw [me]
  refine aw_cpI dX3_copyRow_11 ⟨ml_X3_80, cw_1, cw_2, cw_3⟩ ⟨by decide, Nat.le_of_ble_eq_true rfl⟩ hf ht (by omega) ?_
  refine aw_vret dX3_copyRow_14 rfl ?_
  exact k
