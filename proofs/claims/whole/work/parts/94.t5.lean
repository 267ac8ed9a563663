/-! the class: numbers of its text -/
theorem dv2 {S : Int → Int} {a : Int} : ∀ n : Nat, (∀ j : Int, a ≤ j → j < a + n → isDi S j = true) → (dvF 100000 S a n = dvF 10000 S a n ∧ dvF 10000 S a n < 10000) ∨ (10000 ≤ dvF 100000 S a n ∧ dvF 10000 S a n = 10000)
  | 0, _ => Or.inl ⟨rfl, by show (0 : Int) < 10000; decide⟩
  | n + 1, h => by
    have ih := dv2 (S := S) (a := a) n (fun j x y => h j x (by omega))
    have h9 := of_decide_eq_true (h (a + n) (by omega) (by omega))
    show (mn 100000 (10 * dvF 100000 S a n + S (a + n) - 48) = mn 10000 (10 * dvF 10000 S a n + S (a + n) - 48) ∧ mn 10000 (10 * dvF 10000 S a n + S (a + n) - 48) < 10000) ∨ (10000 ≤ mn 100000 (10 * dvF 100000 S a n + S (a + n) - 48) ∧ mn 10000 (10 * dvF 10000 S a n + S (a + n) - 48) = 10000)
    unfold mn
    split <;> split <;> omega
theorem ac_takeNumber {S : Int → Int} {L p lo hi : Int} {h : AH} {K : AO → Nat → AH → Prop} (hT : TxS S L) (hx : cTx S L h) (hp : 0 ≤ p ∧ p ≤ L) (h5 : h 2 5 = p) (hh : 0 ≤ lo ∧ hi ≤ 999) (k1 : kP S p = 1 → lo ≤ nP S p ∧ nP S p ≤ hi → ∀ h', cTF h h' → h' 2 4 = aP S p → h' 2 5 = bP S p → h' 2 6 = nP S p → K (.inl (some (0, 1))) 159 h') (k0 : ¬ kP S p = 1 → ∀ h', cEF h h' → h' 2 2 = -2 → h' 2 3 = aP S p → K (.inl (some (0, 0))) 159 h') (k3 : kP S p = 1 → ¬ (lo ≤ nP S p ∧ nP S p ≤ hi) → ∀ h', cEF h h' → h' 2 2 = -3 → h' 2 3 = aP S p → K (.inl (some (0, 0))) 159 h') : AC mX5_takeNumber 2 0 0 159 [(2, 2), (0, lo), (0, hi)] h K := by
  obtain ⟨a1, a2, a3, a4⟩ := aP_rg hT hp
  have hLL := hT.1
  obtain ⟨d1, d2, d3, d4⟩ := rnF_sp _ (isDi_L hT) 700 (aP S p) a2 (by omega)
  obtain ⟨D, hD⟩ : ∃ D, D = rnF (isDi S) 700 (aP S p) := ⟨_, rfl⟩
  rw [← hD] at d1 d2 d3 d4
  have hE := end_iff hT (k := aP S p) (by omega)
  have kd : (kP S p = 1 ↔ aP S p < D) ∧ (kP S p = 1 → bP S p = D) := by
    by_cases z : isDi S (aP S p) = true
    · have zz := of_decide_eq_true z
      have n1 : ¬ S (aP S p) = -1 := by omega
      have n2 : ¬ isLe S (aP S p) = true := fun q => by
        have := of_decide_eq_true q
        omega
      have k1 : kP S p = 1 := by
        unfold kP
        rw [if_neg n1, if_neg n2, if_pos z]
      have lt : aP S p < D := by
        by_cases w : aP S p < D
        · exact w
        · rw [show D = aP S p by omega, z] at d3
          cases d3
      refine ⟨⟨fun _ => lt, fun _ => k1⟩, fun _ => ?_⟩
      unfold bP
      rw [if_neg n1, if_neg n2, if_pos z, hD]
    · have k1 : ¬ kP S p = 1 := by
        unfold kP
        rw [if_neg z]
        split
        · decide
        · split <;> decide
      refine ⟨⟨fun q => absurd q k1, fun q => absurd (d4 _ (Int.le_refl _) q) z⟩, fun q => absurd q k1⟩
  refine ac_of (ls := [(2, 2), (0, lo), (0, hi)]) pn_X5 rfl (Nat.le_of_ble_eq_true rfl) rfl ?_
  refine a_al0 (by decide) dX5_takeNumber_0 ?_
  refine aw_callV 1 0 0 dX5_takeNumber_1 yw_X5_skipSpaces ml_X5_31 in_X5_skipSpaces se_X5_skipSpaces (ci := 4) rfl at_2 (as := []) rfl rfl ⟨by decide, by decide, by decide, Nat.le_of_ble_eq_true rfl⟩ ?_
  refine ac_skipSpaces hT hx hp h5 (fun h1 f1 e4 e5 => ?_)
  refine am_cv ?_
  refine a_al0 (by decide) dX5_takeNumber_4 ?_
  refine aw_iconst dX5_takeNumber_5 (by decide) ?_
  refine aw_put 6 dX5_takeNumber_6 fp_X5_73 at_2 rfl ?_
  refine aw_loop (fun q : Int × AH => aP S p ≤ q.1 ∧ q.1 ≤ D ∧ cTF h q.2 ∧ q.2 2 4 = aP S p ∧ q.2 2 5 = q.1 ∧ q.2 2 6 = dvF 100000 S (aP S p) (q.1 - aP S p).toNat) (fun q => (D - q.1).toNat) (fun q => AW mX5_takeNumber 2 0 0 K 159 9 [(2, 2), (0, lo), (0, hi)] [] q.2) (fun q hq ih => ?_) (aP S p, up h1 2 6 0) ⟨by dsimp only; omega, d1, cTF_up (by decide) f1, by dsimp only; rw [up_ne (by omega)]; exact e4, by dsimp only; rw [up_ne (by omega)]; exact e5, by dsimp only; rw [up_at, Int.sub_self]; rfl⟩
  obtain ⟨q, g⟩ := q
  obtain ⟨q1, q2, pf, e4, e5, e6⟩ := hq
  dsimp only at q1 q2 pf e4 e5 e6 ih ⊢
  have gx := cTx_T pf hx
  have gx1 := gx.1
  have eb : q < L → g 3 (g 2 5) = S q := fun a => by rw [e5]; exact gx.2 q (by omega) a
  have rg := dvF_rg (cap := 100000) (S := S) (a := aP S p) (by decide) (q - aP S p).toNat (fun j x y => d4 j x (by omega))
  have dv := dv2 (S := S) (a := aP S p) (q - aP S p).toNat (fun j x y => d4 j x (by omega))
  have J90 : (¬ q < D) → AW mX5_takeNumber 2 0 0 K 159 90 [(2, 2), (0, lo), (0, hi)] [] g := fun eq => by
    have qD : q = D := by omega
    refine a_al0 (by decide) dX5_takeNumber_90 ?_
    refine aw_callV 1 0 0 dX5_takeNumber_91 yw_X5_isEmpty ml_X5_58 in_X5_isEmpty se_X5_isEmpty (ci := 4) rfl at_2 (as := []) rfl rfl ⟨by decide, by decide, by decide, Nat.le_of_ble_eq_true rfl⟩ ?_
    refine ac_isEmpty (fun z => ?_) (fun z => ?_)
    · have nk : ¬ kP S p = 1 := fun w => by have := kd.1.mp w; omega
      refine am_ci ?_
      refine aw_if_eq_n 104 dX5_takeNumber_94 (by decide) (by decide) ?_
      refine a_al0 (by decide) dX5_takeNumber_97 ?_
      refine aw_bipush dX5_takeNumber_98 (by decide) ?_
      refine aw_callV 1 0 0 dX5_takeNumber_100 yw_X5_failHere ml_X5_50 in_X5_failHere se_X5_failHere (ci := 4) rfl at_2 (as := [_]) rfl rfl ⟨by decide, by decide, by decide, Nat.le_of_ble_eq_true rfl⟩ ?_
      refine ac_failHere ?_
      refine am_ci ?_
      refine aw_zret dX5_takeNumber_103 rfl (by omega) ?_
      refine k0 nk _ (cEF_up (by decide) (cEF_up (by decide) (cTF_E pf))) (by rw [up_ne (by omega), up_at]) ?_
      rw [up_at, e4]
    · have yk : kP S p = 1 := kd.1.mpr (by omega)
      have eD := kd.2 yk
      have en : nP S p = dvF 10000 S (aP S p) (q - aP S p).toNat := by
        unfold nP
        rw [if_pos yk, eD, qD]
      rw [← en, ← e6] at dv
      have F : ¬ (lo ≤ nP S p ∧ nP S p ≤ hi) → AW mX5_takeNumber 2 0 0 K 159 120 [(2, 2), (0, lo), (0, hi)] [] g := fun w => by
        refine a_al0 (by decide) dX5_takeNumber_120 ?_
        refine aw_bipush dX5_takeNumber_121 (by decide) ?_
        refine aw_callV 1 0 0 dX5_takeNumber_123 yw_X5_failHere ml_X5_50 in_X5_failHere se_X5_failHere (ci := 4) rfl at_2 (as := [_]) rfl rfl ⟨by decide, by decide, by decide, Nat.le_of_ble_eq_true rfl⟩ ?_
        refine ac_failHere ?_
        refine am_ci ?_
        refine aw_if_eq_y 133 dX5_takeNumber_126 (by decide) (by decide) ?_
        refine aw_iconst dX5_takeNumber_133 (by decide) ?_
        refine aw_zret dX5_takeNumber_134 rfl (by omega) ?_
        refine k3 yk w _ (cEF_up (by decide) (cEF_up (by decide) (cTF_E pf))) (by rw [up_ne (by omega), up_at]) ?_
        rw [up_at, e4]
      refine am_ci ?_
      refine aw_if_eq_y 104 dX5_takeNumber_94 (by decide) (by decide) ?_
      refine a_al0 (by decide) dX5_takeNumber_104 ?_
      refine aw_get 6 dX5_takeNumber_105 fl_X5_73 at_2 rfl ?_
      refine a_il1 dX5_takeNumber_108 ?_
      refine aw_icmp_lt 120 dX5_takeNumber_109 (by decide) (fun c109 => ?_) (fun c109 => ?_)
      · skip
        exact F (by omega)
      · refine a_al0 (by decide) dX5_takeNumber_112 ?_
        refine aw_get 6 dX5_takeNumber_113 fl_X5_73 at_2 rfl ?_
        refine a_il2 dX5_takeNumber_116 ?_
        refine aw_icmp_le 129 dX5_takeNumber_117 (by decide) (fun c117 => ?_) (fun c117 => ?_)
        · refine aw_iconst dX5_takeNumber_129 (by decide) ?_
          refine aw_goto 134 dX5_takeNumber_130 (by decide) ?_
          refine aw_zret dX5_takeNumber_134 rfl (by omega) ?_
          refine k1 yk (by omega) g pf e4 ?_ ?_
          · rw [e5, eD, qD]
          · omega
        · skip
          exact F (by omega)
  refine a_al0 (by decide) dX5_takeNumber_9 ?_
  refine aw_get 5 dX5_takeNumber_10 fl_X5_25 at_2 rfl ?_
  refine a_al0 (by decide) dX5_takeNumber_13 ?_
  refine aw_get 1 dX5_takeNumber_14 fl_X5_19 at_2 rfl ?_
  refine aw_icmp_ge 90 dX5_takeNumber_17 (by decide) (fun c17 => ?_) (fun c17 => ?_)
  · skip
    exact J90 (by omega)
  · have hqL : q < L := by omega
    have eq3 := eb hqL
    have N : ¬ (48 ≤ S q ∧ S q ≤ 57) → ¬ q < D := fun w z => w (of_decide_eq_true (d4 q q1 z))
    refine a_al0 (by decide) dX5_takeNumber_20 ?_
    refine aw_getR (r := 3) 0 rfl dX5_takeNumber_21 fl_X5_9 at_2 rfl rfl ?_
    refine a_al0 (by decide) dX5_takeNumber_24 ?_
    refine aw_get 5 dX5_takeNumber_25 fl_X5_25 at_2 rfl ?_
    refine aw_iald dX5_takeNumber_28 ar_3 (by omega) ?_
    refine aw_bipush dX5_takeNumber_29 (by decide) ?_
    refine aw_icmp_lt 90 dX5_takeNumber_31 (by decide) (fun c31 => ?_) (fun c31 => ?_)
    · skip
      exact J90 (N (by omega))
    · refine a_al0 (by decide) dX5_takeNumber_34 ?_
      refine aw_getR (r := 3) 0 rfl dX5_takeNumber_35 fl_X5_9 at_2 rfl rfl ?_
      refine a_al0 (by decide) dX5_takeNumber_38 ?_
      refine aw_get 5 dX5_takeNumber_39 fl_X5_25 at_2 rfl ?_
      refine aw_iald dX5_takeNumber_42 ar_3 (by omega) ?_
      refine aw_bipush dX5_takeNumber_43 (by decide) ?_
      refine aw_icmp_gt 90 dX5_takeNumber_45 (by decide) (fun c45 => ?_) (fun c45 => ?_)
      · skip
        exact J90 (N (by omega))
      · have qD : q < D := by
          by_cases z : q < D
          · exact z
          · have dg : isDi S q = true := decide_eq_true (by omega)
            rw [show D = q by omega, dg] at d3
            cases d3
        rw [← e6] at rg
        have eM : (if g 2 6 * 10 + g 3 (g 2 5) - 48 < 100000 then g 2 6 * 10 + g 3 (g 2 5) - 48 else 100000) = dvF 100000 S (aP S p) (q + 1 - aP S p).toNat := by
          rw [dvF_s q1, eq3, e6, Int.mul_comm]
          rfl
        refine a_al0 (by decide) dX5_takeNumber_48 ?_
        refine aw_ldc dX5_takeNumber_49 kc_X5_76 (by decide) ?_
        refine a_al0 (by decide) dX5_takeNumber_51 ?_
        refine aw_get 6 dX5_takeNumber_52 fl_X5_73 at_2 rfl ?_
        refine aw_bipush dX5_takeNumber_55 (by decide) ?_
        refine aw_imulR (by omega) dX5_takeNumber_57 ?_
        refine a_al0 (by decide) dX5_takeNumber_58 ?_
        refine aw_getR (r := 3) 0 rfl dX5_takeNumber_59 fl_X5_9 at_2 rfl rfl ?_
        refine a_al0 (by decide) dX5_takeNumber_62 ?_
        refine aw_get 5 dX5_takeNumber_63 fl_X5_25 at_2 rfl ?_
        refine aw_iald dX5_takeNumber_66 ar_3 (by omega) ?_
        refine aw_iaddR (by omega) dX5_takeNumber_67 ?_
        refine aw_bipush dX5_takeNumber_68 (by decide) ?_
        refine aw_isubR (by omega) dX5_takeNumber_70 ?_
        refine aw_mmin dX5_takeNumber_71 ⟨ml_X5_77, mw_min⟩ ⟨by decide, Nat.le_of_ble_eq_true rfl⟩ ?_
        rw [eM]
        refine aw_put 6 dX5_takeNumber_74 fp_X5_73 at_2 rfl ?_
        refine a_al0 (by decide) dX5_takeNumber_77 ?_
        refine aw_dup dX5_takeNumber_78 rfl ?_
        refine aw_get 5 dX5_takeNumber_79 fl_X5_25 at_2 rfl ?_
        try simp (disch := omega) only [up_at, up_ne]
        refine aw_iconst dX5_takeNumber_82 (by decide) ?_
        refine aw_iaddR (by omega) dX5_takeNumber_83 ?_
        refine aw_put 5 dX5_takeNumber_84 fp_X5_25 at_2 rfl ?_
        refine aw_goto 9 dX5_takeNumber_87 (by decide) ?_
        rw [e5]
        refine ih (q + 1, up (up g 2 6 (dvF 100000 S (aP S p) (q + 1 - aP S p).toNat)) 2 5 (q + 1)) ⟨by dsimp only; omega, by dsimp only; omega, cTF_up (by decide) (cTF_up (by decide) pf), by dsimp only; rw [up_ne (by omega), up_ne (by omega)]; exact e4, by dsimp only; exact up_at _ _ _ _, by dsimp only; rw [up_ne (by omega)]; exact up_at _ _ _ _⟩ (by dsimp only; omega)
