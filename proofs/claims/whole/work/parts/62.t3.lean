/-! the class: rams -/
def cCl (h : AH) (i j : Int) : Prop := ((¬ h 26 i = 0 ∧ ¬ h 26 j = 0) ∧ (h 28 i = h 28 j ∨ (h 28 i = h 27 j ∧ h 28 j = h 27 i))) ∨ (¬ (¬ h 26 i = 0 ∧ ¬ h 26 j = 0) ∧ ((¬ h 26 i = 0 ∧ h 28 i = h 27 j) ∨ (¬ h 26 j = 0 ∧ h 28 j = h 27 i)))
theorem ac_doClash {i j : Int} {h : AH} {K : AO → Nat → AH → Prop} (hi : 0 ≤ i ∧ i ≤ 11) (hj : 0 ≤ j ∧ j ≤ 11) (k1 : cCl h i j → K (.inl (some (0, 1))) 159 h) (k0 : ¬ cCl h i j → K (.inl (some (0, 0))) 159 h) : AC mX6_doClash 1 0 0 159 [(2, 25), (0, i), (0, j)] h K := by
  unfold cCl at k1 k0
  have J61 : ∀ a c, ((a = 1 ∧ (¬ h 26 i = 0 ∧ h 28 i = h 27 j)) ∨ (a = 0 ∧ ¬ (¬ h 26 i = 0 ∧ h 28 i = h 27 j))) → ((c = 1 ∧ (¬ h 26 j = 0 ∧ h 28 j = h 27 i)) ∨ (c = 0 ∧ ¬ (¬ h 26 j = 0 ∧ h 28 j = h 27 i))) → AW mX6_doClash 1 0 0 K 159 61 [(2, 25), (0, i), (0, j), (0, a), (0, c)] [] h := fun a c ha hc => by
    have J109 : ¬ (¬ h 26 i = 0 ∧ ¬ h 26 j = 0) → AW mX6_doClash 1 0 0 K 159 109 [(2, 25), (0, i), (0, j), (0, a), (0, c)] [] h := fun n => by
      refine a_il3 dX6_doClash_109 ?_
      refine aw_if_ne 118 dX6_doClash_110 (by decide) (fun c110 => ?_) (fun c110 => ?_)
      · refine aw_iconst dX6_doClash_118 (by decide) ?_
        refine aw_goto 123 dX6_doClash_119 (by decide) ?_
        refine aw_zret dX6_doClash_123 rfl (by omega) ?_
        exact k1 (Or.inr ⟨n, by omega⟩)
      · refine a_il4 dX6_doClash_113 ?_
        refine aw_if_eq 122 dX6_doClash_115 (by decide) (fun c115 => ?_) (fun c115 => ?_)
        · refine aw_iconst dX6_doClash_122 (by decide) ?_
          refine aw_zret dX6_doClash_123 rfl (by omega) ?_
          exact k0 (by omega)
        · refine aw_iconst dX6_doClash_118 (by decide) ?_
          refine aw_goto 123 dX6_doClash_119 (by decide) ?_
          refine aw_zret dX6_doClash_123 rfl (by omega) ?_
          exact k1 (Or.inr ⟨n, by omega⟩)
    refine a_al0 (by decide) dX6_doClash_61 ?_
    refine aw_getR (r := 26) 0 rfl dX6_doClash_62 fl_X6_9 at_25 rfl rfl ?_
    refine a_il1 dX6_doClash_65 ?_
    refine aw_zald dX6_doClash_66 ar_26 (by omega) ?_
    refine aw_if_eq 109 dX6_doClash_67 (by decide) (fun c67 => ?_) (fun c67 => ?_)
    · skip
      exact J109 (by omega)
    · refine a_al0 (by decide) dX6_doClash_70 ?_
      refine aw_getR (r := 26) 0 rfl dX6_doClash_71 fl_X6_9 at_25 rfl rfl ?_
      refine a_il2 dX6_doClash_74 ?_
      refine aw_zald dX6_doClash_75 ar_26 (by omega) ?_
      refine aw_if_eq 109 dX6_doClash_76 (by decide) (fun c76 => ?_) (fun c76 => ?_)
      · skip
        exact J109 (by omega)
      · refine a_al0 (by decide) dX6_doClash_79 ?_
        refine aw_getR (r := 28) 2 rfl dX6_doClash_80 fl_X6_19 at_25 rfl rfl ?_
        refine a_il1 dX6_doClash_83 ?_
        refine aw_iald dX6_doClash_84 ar_28 (by omega) ?_
        refine a_al0 (by decide) dX6_doClash_85 ?_
        refine aw_getR (r := 28) 2 rfl dX6_doClash_86 fl_X6_19 at_25 rfl rfl ?_
        refine a_il2 dX6_doClash_89 ?_
        refine aw_iald dX6_doClash_90 ar_28 (by omega) ?_
        refine aw_icmp_eq 103 dX6_doClash_91 (by decide) (fun c91 => ?_) (fun c91 => ?_)
        · refine aw_iconst dX6_doClash_103 (by decide) ?_
          refine aw_goto 108 dX6_doClash_104 (by decide) ?_
          refine aw_zret dX6_doClash_108 rfl (by omega) ?_
          exact k1 (by omega)
        · refine a_il3 dX6_doClash_94 ?_
          refine aw_if_eq 107 dX6_doClash_95 (by decide) (fun c95 => ?_) (fun c95 => ?_)
          · refine aw_iconst dX6_doClash_107 (by decide) ?_
            refine aw_zret dX6_doClash_108 rfl (by omega) ?_
            exact k0 (by omega)
          · refine a_il4 dX6_doClash_98 ?_
            refine aw_if_eq 107 dX6_doClash_100 (by decide) (fun c100 => ?_) (fun c100 => ?_)
            · refine aw_iconst dX6_doClash_107 (by decide) ?_
              refine aw_zret dX6_doClash_108 rfl (by omega) ?_
              exact k0 (by omega)
            · refine aw_iconst dX6_doClash_103 (by decide) ?_
              refine aw_goto 108 dX6_doClash_104 (by decide) ?_
              refine aw_zret dX6_doClash_108 rfl (by omega) ?_
              exact k1 (by omega)
  have J30 : ∀ a, ((a = 1 ∧ (¬ h 26 i = 0 ∧ h 28 i = h 27 j)) ∨ (a = 0 ∧ ¬ (¬ h 26 i = 0 ∧ h 28 i = h 27 j))) → AW mX6_doClash 1 0 0 K 159 30 [(2, 25), (0, i), (0, j), (0, a), (9, 0)] [] h := fun a ha => by
    refine a_al0 (by decide) dX6_doClash_30 ?_
    refine aw_getR (r := 26) 0 rfl dX6_doClash_31 fl_X6_9 at_25 rfl rfl ?_
    refine a_il2 dX6_doClash_34 ?_
    refine aw_zald dX6_doClash_35 ar_26 (by omega) ?_
    refine aw_if_eq 58 dX6_doClash_36 (by decide) (fun c36 => ?_) (fun c36 => ?_)
    · refine aw_iconst dX6_doClash_58 (by decide) ?_
      refine a_is4 rfl rfl dX6_doClash_59 ?_
      exact J61 a 0 ha (by omega)
    · refine a_al0 (by decide) dX6_doClash_39 ?_
      refine aw_getR (r := 28) 2 rfl dX6_doClash_40 fl_X6_19 at_25 rfl rfl ?_
      refine a_il2 dX6_doClash_43 ?_
      refine aw_iald dX6_doClash_44 ar_28 (by omega) ?_
      refine a_al0 (by decide) dX6_doClash_45 ?_
      refine aw_getR (r := 27) 1 rfl dX6_doClash_46 fl_X6_15 at_25 rfl rfl ?_
      refine a_il1 dX6_doClash_49 ?_
      refine aw_iald dX6_doClash_50 ar_27 (by omega) ?_
      refine aw_icmp_ne 58 dX6_doClash_51 (by decide) (fun c51 => ?_) (fun c51 => ?_)
      · refine aw_iconst dX6_doClash_58 (by decide) ?_
        refine a_is4 rfl rfl dX6_doClash_59 ?_
        exact J61 a 0 ha (by omega)
      · refine aw_iconst dX6_doClash_54 (by decide) ?_
        refine aw_goto 59 dX6_doClash_55 (by decide) ?_
        refine a_is4 rfl rfl dX6_doClash_59 ?_
        exact J61 a 1 ha (by omega)
  refine ac_of (ls := [(2, 25), (0, i), (0, j), (9, 0), (9, 0)]) pn_X6 rfl (Nat.le_of_ble_eq_true rfl) rfl ?_
  refine a_al0 (by decide) dX6_doClash_0 ?_
  refine aw_getR (r := 26) 0 rfl dX6_doClash_1 fl_X6_9 at_25 rfl rfl ?_
  refine a_il1 dX6_doClash_4 ?_
  refine aw_zald dX6_doClash_5 ar_26 (by omega) ?_
  refine aw_if_eq 28 dX6_doClash_6 (by decide) (fun c6 => ?_) (fun c6 => ?_)
  · refine aw_iconst dX6_doClash_28 (by decide) ?_
    refine a_is3 rfl rfl dX6_doClash_29 ?_
    exact J30 0 (by omega)
  · refine a_al0 (by decide) dX6_doClash_9 ?_
    refine aw_getR (r := 28) 2 rfl dX6_doClash_10 fl_X6_19 at_25 rfl rfl ?_
    refine a_il1 dX6_doClash_13 ?_
    refine aw_iald dX6_doClash_14 ar_28 (by omega) ?_
    refine a_al0 (by decide) dX6_doClash_15 ?_
    refine aw_getR (r := 27) 1 rfl dX6_doClash_16 fl_X6_15 at_25 rfl rfl ?_
    refine a_il2 dX6_doClash_19 ?_
    refine aw_iald dX6_doClash_20 ar_27 (by omega) ?_
    refine aw_icmp_ne 28 dX6_doClash_21 (by decide) (fun c21 => ?_) (fun c21 => ?_)
    · refine aw_iconst dX6_doClash_28 (by decide) ?_
      refine a_is3 rfl rfl dX6_doClash_29 ?_
      exact J30 0 (by omega)
    · refine aw_iconst dX6_doClash_24 (by decide) ?_
      refine aw_goto 29 dX6_doClash_25 (by decide) ?_
      refine a_is3 rfl rfl dX6_doClash_29 ?_
      exact J30 1 (by omega)
def isFCc (h : AH) (b x : Int) : Prop := (∃ i j, 0 ≤ i ∧ i < j ∧ j < h b 3 ∧ cCl h i j ∧ x = i * 12 + j ∧ ∀ a c, 0 ≤ a → a < c → c < h b 3 → (a < i ∨ (a = i ∧ c < j)) → ¬ cCl h a c) ∨ (x = -1 ∧ ∀ a c, 0 ≤ a → a < c → c < h b 3 → ¬ cCl h a c)
theorem ac_firstClashC {b : Int} {h : AH} {K : AO → Nat → AH → Prop} (hB : b = 5 ∨ b = 15) (hn : 0 ≤ h b 3 ∧ h b 3 ≤ 12) (k : ∀ x, isFCc h b x → K (.inl (some (0, x))) 159 h) : AC mX6_firstClash 2 0 0 159 [(2, 25), (2, b)] h K := by
  have hb := sh_ab hB
  refine ac_of (ls := [(2, 25), (2, b), (9, 0), (9, 0)]) pn_X6 rfl (Nat.le_of_ble_eq_true rfl) rfl ?_
  refine aw_iconst dX6_firstClash_0 (by decide) ?_
  refine a_is2 rfl rfl dX6_firstClash_1 ?_
  refine aw_loop (fun q : Int × AV => 0 ≤ q.1 ∧ q.1 ≤ h b 3 ∧ (∀ a c, 0 ≤ a → a < c → c < h b 3 → a < q.1 → ¬ cCl h a c) ∧ am_n2 q.2 = true) (fun q => (h b 3 - q.1).toNat) (fun q => AW mX6_firstClash 2 0 0 K 159 2 [(2, 25), (2, b), (0, q.1), q.2] [] h) (fun q hq ih => ?_) (0, (9, 0)) ⟨by dsimp only; omega, hn.1, fun a b h1 h2 h3 h4 => by dsimp only at h4; omega, rfl⟩
  obtain ⟨i, v⟩ := q
  obtain ⟨h0, h1, hno, hv⟩ := hq
  dsimp only at h0 h1 hno hv ih ⊢
  refine a_il2 dX6_firstClash_2 ?_
  refine a_al1 (am_sh_rg hb) dX6_firstClash_3 ?_
  refine aw_get 3 dX6_firstClash_4 fl_X6_58 (am_sh_at hb) rfl ?_
  refine aw_icmp_ge 50 dX6_firstClash_7 (by decide) (fun c7 => ?_) (fun c7 => ?_)
  · refine aw_iconst dX6_firstClash_50 (by decide) ?_
    refine aw_iret dX6_firstClash_51 rfl ?_
    exact k _ (Or.inr ⟨rfl, fun a b h2 h3 h4 => hno a b h2 h3 h4 (by omega)⟩)
  · refine a_il2 dX6_firstClash_10 ?_
    refine aw_iconst dX6_firstClash_11 (by decide) ?_
    refine aw_iaddR (by omega) dX6_firstClash_12 ?_
    refine a_is3 rfl rfl dX6_firstClash_13 ?_
    refine aw_loop (fun j : Int => i + 1 ≤ j ∧ j ≤ h b 3 ∧ ∀ c, i < c → c < j → ¬ cCl h i c) (fun j => (h b 3 - j).toNat) (fun j => AW mX6_firstClash 2 0 0 K 159 14 [(2, 25), (2, b), (0, i), (0, j)] [] h) (fun j hj ih2 => ?_) (i + 1) ⟨by omega, by omega, fun c h2 h3 => by omega⟩
    obtain ⟨g0, g1, gno⟩ := hj
    refine a_il3 dX6_firstClash_14 ?_
    refine a_al1 (am_sh_rg hb) dX6_firstClash_15 ?_
    refine aw_get 3 dX6_firstClash_16 fl_X6_58 (am_sh_at hb) rfl ?_
    refine aw_icmp_ge 44 dX6_firstClash_19 (by decide) (fun c19 => ?_) (fun c19 => ?_)
    · refine a_iiR2 (by omega) rfl rfl dX6_firstClash_44 ?_
      refine aw_goto 2 dX6_firstClash_47 (by decide) ?_
      exact ih (i + 1, (0, j)) ⟨by dsimp only; omega, by dsimp only; omega, fun a c h2 h3 h4 h5 => by
        dsimp only at h5
        by_cases e : a = i
        · rw [e]; exact gno c (by omega) (by omega)
        · exact hno a c h2 h3 h4 (by omega), rfl⟩ (by dsimp only; omega)
    · refine a_al0 (by decide) dX6_firstClash_22 ?_
      refine a_il2 dX6_firstClash_23 ?_
      refine a_il3 dX6_firstClash_24 ?_
      refine aw_callV 1 0 0 dX6_firstClash_25 yw_X6_doClash ml_X6_117 in_X6_doClash se_X6_doClash (ci := 5) rfl at_25 (as := [_, _]) rfl rfl ⟨by decide, by decide, by decide, Nat.le_of_ble_eq_true rfl⟩ ?_
      refine ac_doClash (by omega) (by omega) (fun q1 => ?_) (fun q1 => ?_)
      · refine am_ci ?_
        refine aw_if_eq_n 38 dX6_firstClash_28 (by decide) (by decide) ?_
        refine a_il2 dX6_firstClash_31 ?_
        refine aw_bipush dX6_firstClash_32 (by decide) ?_
        refine aw_imulR (by omega) dX6_firstClash_34 ?_
        refine a_il3 dX6_firstClash_35 ?_
        refine aw_iaddR (by omega) dX6_firstClash_36 ?_
        refine aw_iret dX6_firstClash_37 rfl ?_
        exact k _ (Or.inl ⟨i, j, h0, by omega, by omega, q1, rfl, fun a c h2 h3 h4 h5 => by
          rcases h5 with h5 | ⟨rfl, h5⟩
          · exact hno a c h2 h3 h4 h5
          · exact gno c h3 h5⟩)
      · refine am_ci ?_
        refine aw_if_eq_y 38 dX6_firstClash_28 (by decide) (by decide) ?_
        refine a_iiR3 (by omega) rfl rfl dX6_firstClash_38 ?_
        refine aw_goto 14 dX6_firstClash_41 (by decide) ?_
        exact ih2 (j + 1) ⟨by omega, by omega, fun c h2 h3 => by
          by_cases e : c = j
          · rw [e]; exact q1
          · exact gno c h2 (by omega)⟩ (by omega)
def cLoss (h : AH) (b i j : Int) : Int := (if h 26 j = 0 then 0 else h (b + 2) (j * 11 + 5) * tab3 (ang (h (b + 2) (i * 11 + 3)) (h (b + 2) (j * 11 + 3)))) + (if h 26 i = 0 then 0 else (h (b + 2) (j * 11 + 5)).tdiv 2)
theorem cLoss_rg {h : AH} {b i j : Int} (hm : 0 ≤ h (b + 2) (j * 11 + 5) ∧ h (b + 2) (j * 11 + 5) ≤ 9) : 0 ≤ cLoss h b i j ∧ cLoss h b i j ≤ 40 := by
  have p := mulr hm (tab3_r (ang (h (b + 2) (i * 11 + 3)) (h (b + 2) (j * 11 + 3))))
  have q := half_r hm
  unfold cLoss
  split <;> split <;> omega
theorem ac_lossOfC {b i j : Int} {h : AH} {K : AO → Nat → AH → Prop} (hB : b = 5 ∨ b = 15) (hi : 0 ≤ i ∧ i ≤ 11) (hj : 0 ≤ j ∧ j ≤ 11) (d1 : 0 ≤ h (b + 2) (i * 11 + 3) ∧ h (b + 2) (i * 11 + 3) ≤ 7) (d2 : 0 ≤ h (b + 2) (j * 11 + 3) ∧ h (b + 2) (j * 11 + 3) ≤ 7) (hm : 0 ≤ h (b + 2) (j * 11 + 5) ∧ h (b + 2) (j * 11 + 5) ≤ 9) (k : K (.inl (some (0, cLoss h b i j))) 159 h) : AC mX6_lossOf 2 0 0 159 [(2, 25), (2, b), (0, i), (0, j)] h K := by
  have hb := sh_ab hB
  have p := mulr hm (tab3_r (ang (h (b + 2) (i * 11 + 3)) (h (b + 2) (j * 11 + 3))))
  have p2 := half_r hm
  have p3 := ang_rg (h (b + 2) (i * 11 + 3)) (h (b + 2) (j * 11 + 3))
  have J47 : ∀ x, x = (if h 26 j = 0 then 0 else h (b + 2) (j * 11 + 5) * tab3 (ang (h (b + 2) (i * 11 + 3)) (h (b + 2) (j * 11 + 3)))) → AW mX6_lossOf 2 0 0 K 159 47 [(2, 25), (2, b), (0, i), (0, j), (0, h (b + 2) (j * 11 + 5)), (0, x)] [] h := fun x hx => by
    have rx : 0 ≤ x ∧ x ≤ 36 := by rw [hx]; split <;> omega
    unfold cLoss at k
    rw [← hx] at k
    refine a_al0 (by decide) dX6_lossOf_47 ?_
    refine aw_getR (r := 26) 0 rfl dX6_lossOf_48 fl_X6_9 at_25 rfl rfl ?_
    refine a_il2 dX6_lossOf_51 ?_
    refine aw_zald dX6_lossOf_52 ar_26 (by omega) ?_
    refine aw_if_eq 65 dX6_lossOf_53 (by decide) (fun c53 => ?_) (fun c53 => ?_)
    · rw [if_pos (by assumption), Int.add_zero] at k
      refine a_il5 dX6_lossOf_65 ?_
      refine aw_iret dX6_lossOf_67 rfl ?_
      exact k
    · rw [if_neg (by assumption)] at k
      refine a_il5 dX6_lossOf_56 ?_
      refine a_il4 dX6_lossOf_58 ?_
      refine aw_iconst dX6_lossOf_60 (by decide) ?_
      refine aw_idiv dX6_lossOf_61 (by omega) ?_
      refine aw_iaddR (by omega) dX6_lossOf_62 ?_
      refine a_is5 rfl rfl dX6_lossOf_63 ?_
      refine a_il5 dX6_lossOf_65 ?_
      refine aw_iret dX6_lossOf_67 rfl ?_
      exact k
  refine ac_of (ls := [(2, 25), (2, b), (0, i), (0, j), (9, 0), (9, 0)]) pn_X6 rfl (Nat.le_of_ble_eq_true rfl) rfl ?_
  refine a_al1 (am_sh_rg hb) dX6_lossOf_0 ?_
  refine a_il3 dX6_lossOf_1 ?_
  refine aw_iconst dX6_lossOf_2 (by decide) ?_
  refine aw_callV 1 0 0 dX6_lossOf_3 yw_X3_get ml_X6_65 in_X3_get se_X3_get (ci := 2) rfl (am_sh_at hb) (as := [_, _]) rfl rfl ⟨by decide, by decide, by decide, Nat.le_of_ble_eq_true rfl⟩ ?_
  refine ac_get hB hj (by decide) ?_
  refine am_ci ?_
  refine a_is4 rfl rfl dX6_lossOf_6 ?_
  refine aw_iconst dX6_lossOf_8 (by decide) ?_
  refine a_is5 rfl rfl dX6_lossOf_9 ?_
  refine a_al0 (by decide) dX6_lossOf_11 ?_
  refine aw_getR (r := 26) 0 rfl dX6_lossOf_12 fl_X6_9 at_25 rfl rfl ?_
  refine a_il3 dX6_lossOf_15 ?_
  refine aw_zald dX6_lossOf_16 ar_26 (by omega) ?_
  refine aw_if_eq 47 dX6_lossOf_17 (by decide) (fun c17 => ?_) (fun c17 => ?_)
  · skip
    exact J47 0 (if_pos (by assumption)).symm
  · refine a_il5 dX6_lossOf_20 ?_
    refine a_il4 dX6_lossOf_22 ?_
    refine aw_gets (i := 3) dX6_lossOf_24 rfl gs_X6_137 1003 rfl ?_
    refine a_al1 (am_sh_rg hb) dX6_lossOf_27 ?_
    refine a_il2 dX6_lossOf_28 ?_
    refine aw_iconst dX6_lossOf_29 (by decide) ?_
    refine aw_callV 1 0 0 dX6_lossOf_30 yw_X3_get ml_X6_65 in_X3_get se_X3_get (ci := 2) rfl (am_sh_at hb) (as := [_, _]) rfl rfl ⟨by decide, by decide, by decide, Nat.le_of_ble_eq_true rfl⟩ ?_
    refine ac_get hB hi (by decide) ?_
    refine am_ci ?_
    refine a_al1 (am_sh_rg hb) dX6_lossOf_33 ?_
    refine a_il3 dX6_lossOf_34 ?_
    refine aw_iconst dX6_lossOf_35 (by decide) ?_
    refine aw_callV 1 0 0 dX6_lossOf_36 yw_X3_get ml_X6_65 in_X3_get se_X3_get (ci := 2) rfl (am_sh_at hb) (as := [_, _]) rfl rfl ⟨by decide, by decide, by decide, Nat.le_of_ble_eq_true rfl⟩ ?_
    refine ac_get hB hj (by decide) ?_
    refine am_ci ?_
    refine aw_callSN 1 0 0 dX6_lossOf_39 yw_X8_angleOf ml_X6_140 sm_X8_angleOf (as := [_, _]) rfl rfl ⟨by decide, by decide, by decide, Nat.le_of_ble_eq_true rfl⟩ ?_
    refine ac_angleOf d1 d2 ?_
    refine am_ci ?_
    refine aw_tab3 dX6_lossOf_42 (by omega) ?_
    refine aw_imulR (by omega) dX6_lossOf_43 ?_
    refine aw_iaddR (by omega) dX6_lossOf_44 ?_
    rw [Int.zero_add]
    refine a_is5 rfl rfl dX6_lossOf_45 ?_
    exact J47 _ (if_neg (by assumption)).symm
def cNs (h : AH) (b i j : Int) : AH := if h 26 i = 0 then h else up h 29 j (i_or (h 29 j) (i_shl 1 (h (b + 2) (i * 11 + 0))))
theorem ac_noteStriker {b i j : Int} {h : AH} {K : AO → Nat → AH → Prop} (hB : b = 5 ∨ b = 15) (hi : 0 ≤ i ∧ i ≤ 11) (hj : 0 ≤ j ∧ j ≤ 11) (k : K (.inl none) 159 (cNs h b i j)) : AC mX6_noteStriker 2 0 0 159 [(2, 25), (2, b), (0, i), (0, j)] h K := by
  have hb := sh_ab hB
  unfold cNs at k
  refine ac_of (ls := [(2, 25), (2, b), (0, i), (0, j)]) pn_X6 rfl (Nat.le_of_ble_eq_true rfl) rfl ?_
  refine a_al0 (by decide) dX6_noteStriker_0 ?_
  refine aw_getR (r := 26) 0 rfl dX6_noteStriker_1 fl_X6_9 at_25 rfl rfl ?_
  refine a_il2 dX6_noteStriker_4 ?_
  refine aw_zald dX6_noteStriker_5 ar_26 (by omega) ?_
  refine aw_if_eq 26 dX6_noteStriker_6 (by decide) (fun c6 => ?_) (fun c6 => ?_)
  · rw [if_pos (by assumption)] at k
    refine aw_vret dX6_noteStriker_26 rfl ?_
    exact k
  · rw [if_neg (by assumption)] at k
    refine a_al0 (by decide) dX6_noteStriker_9 ?_
    refine aw_getR (r := 29) 3 rfl dX6_noteStriker_10 fl_X6_22 at_25 rfl rfl ?_
    refine a_il3 dX6_noteStriker_13 ?_
    refine aw_dup2 dX6_noteStriker_14 rfl rfl ?_
    refine aw_iald dX6_noteStriker_15 ar_29 (by omega) ?_
    refine aw_iconst dX6_noteStriker_16 (by decide) ?_
    refine a_al1 (am_sh_rg hb) dX6_noteStriker_17 ?_
    refine a_il2 dX6_noteStriker_18 ?_
    refine aw_iconst dX6_noteStriker_19 (by decide) ?_
    refine aw_callV 1 0 0 dX6_noteStriker_20 yw_X3_get ml_X6_65 in_X3_get se_X3_get (ci := 2) rfl (am_sh_at hb) (as := [_, _]) rfl rfl ⟨by decide, by decide, by decide, Nat.le_of_ble_eq_true rfl⟩ ?_
    refine ac_get hB hi (by decide) ?_
    refine am_ci ?_
    refine aw_ishl dX6_noteStriker_23 ?_
    refine aw_ior dX6_noteStriker_24 ?_
    refine aw_iast dX6_noteStriker_25 ar_29 (by omega) ?_
    refine aw_vret dX6_noteStriker_26 rfl ?_
    exact k
def cHu (h : AH) (b i l : Int) : AH := up (up h (b + 2) (i * 11 + 4) (h (b + 2) (i * 11 + 4) - l)) (b + 2) (i * 11 + 8) 0
theorem ac_hurtC {b i l : Int} {h : AH} {K : AO → Nat → AH → Prop} (hB : b = 5 ∨ b = 15) (hi : 0 ≤ i ∧ i ≤ 11) (hl : 0 ≤ l ∧ l ≤ 40) (hh : -100000 ≤ h (b + 2) (i * 11 + 4) ∧ h (b + 2) (i * 11 + 4) ≤ 100000) (k : K (.inl none) 159 (cHu h b i l)) : AC mX6_hurt 2 0 0 159 [(2, 25), (2, b), (0, i), (0, l)] h K := by
  have hb := sh_ab hB
  unfold cHu at k
  refine ac_of (ls := [(2, 25), (2, b), (0, i), (0, l)]) pn_X6 rfl (Nat.le_of_ble_eq_true rfl) rfl ?_
  refine a_al1 (am_sh_rg hb) dX6_hurt_0 ?_
  refine a_il2 dX6_hurt_1 ?_
  refine aw_iconst dX6_hurt_2 (by decide) ?_
  refine a_al1 (am_sh_rg hb) dX6_hurt_3 ?_
  refine a_il2 dX6_hurt_4 ?_
  refine aw_iconst dX6_hurt_5 (by decide) ?_
  refine aw_callV 1 0 0 dX6_hurt_6 yw_X3_get ml_X6_65 in_X3_get se_X3_get (ci := 2) rfl (am_sh_at hb) (as := [_, _]) rfl rfl ⟨by decide, by decide, by decide, Nat.le_of_ble_eq_true rfl⟩ ?_
  refine ac_get hB hi (by decide) ?_
  refine am_ci ?_
  refine a_il3 dX6_hurt_9 ?_
  refine aw_isubR (by omega) dX6_hurt_10 ?_
  refine aw_callV 1 0 0 dX6_hurt_11 yw_X3_set ml_X6_92 in_X3_set se_X3_set (ci := 2) rfl (am_sh_at hb) (as := [_, _, _]) rfl rfl ⟨by decide, by decide, by decide, Nat.le_of_ble_eq_true rfl⟩ ?_
  refine ac_set hB hi (by decide) ?_
  refine am_cv ?_
  refine a_al1 (am_sh_rg hb) dX6_hurt_14 ?_
  refine a_il2 dX6_hurt_15 ?_
  refine aw_bipush dX6_hurt_16 (by decide) ?_
  refine aw_iconst dX6_hurt_18 (by decide) ?_
  refine aw_callV 1 0 0 dX6_hurt_19 yw_X3_set ml_X6_92 in_X3_set se_X3_set (ci := 2) rfl (am_sh_at hb) (as := [_, _, _]) rfl rfl ⟨by decide, by decide, by decide, Nat.le_of_ble_eq_true rfl⟩ ?_
  refine ac_set hB hi (by decide) ?_
  refine am_cv ?_
  refine aw_vret dX6_hurt_22 rfl ?_
  exact k
def cNr (h : AH) (p i j : Int) : AH := if h 31 (i * 12 + j) = -1 then up (up (up h 25 6 (h 25 6 + 1)) 31 (i * 12 + j) p) 31 (j * 12 + i) p else up h 25 6 (h 25 6 + 1)
theorem ac_noteRam {b p i j : Int} {h : AH} {K : AO → Nat → AH → Prop} (hB : b = 5 ∨ b = 15) (hi : 0 ≤ i ∧ i ≤ 11) (hj : 0 ≤ j ∧ j ≤ 11) (hr : 0 ≤ h 25 6 ∧ h 25 6 ≤ 1000000) (k : K (.inl none) 159 (cNr h p i j)) : AC mX6_noteRam 1 0 0 159 [(2, 25), (2, b), (0, p), (0, i), (0, j)] h K := by
  have hb := sh_ab hB
  unfold cNr at k
  refine ac_of (ls := [(2, 25), (2, b), (0, p), (0, i), (0, j)]) pn_X6 rfl (Nat.le_of_ble_eq_true rfl) rfl ?_
  refine a_al0 (by decide) dX6_noteRam_0 ?_
  refine aw_dup dX6_noteRam_1 rfl ?_
  refine aw_get 6 dX6_noteRam_2 fl_X6_37 at_25 rfl ?_
  refine aw_iconst dX6_noteRam_5 (by decide) ?_
  refine aw_iaddR (by omega) dX6_noteRam_6 ?_
  refine aw_put 6 dX6_noteRam_7 fp_X6_37 at_25 rfl ?_
  refine a_al0 (by decide) dX6_noteRam_10 ?_
  refine aw_getR (r := 31) 5 rfl dX6_noteRam_11 fl_X6_28 at_25 rfl rfl ?_
  try simp (disch := omega) only [up_at, up_ne]
  refine a_il3 dX6_noteRam_14 ?_
  refine aw_bipush dX6_noteRam_15 (by decide) ?_
  refine aw_imulR (by omega) dX6_noteRam_17 ?_
  refine a_il4 dX6_noteRam_18 ?_
  refine aw_iaddR (by omega) dX6_noteRam_20 ?_
  refine aw_iald dX6_noteRam_21 ar_31 (by omega) ?_
  try simp (disch := omega) only [up_at, up_ne]
  refine aw_iconst dX6_noteRam_22 (by decide) ?_
  refine aw_icmp_ne 52 dX6_noteRam_23 (by decide) (fun c23 => ?_) (fun c23 => ?_)
  · rw [if_neg (by assumption)] at k
    refine aw_vret dX6_noteRam_52 rfl ?_
    exact k
  · rw [if_pos (by assumption)] at k
    refine a_al0 (by decide) dX6_noteRam_26 ?_
    refine aw_getR (r := 31) 5 rfl dX6_noteRam_27 fl_X6_28 at_25 rfl rfl ?_
    try simp (disch := omega) only [up_at, up_ne]
    refine a_il3 dX6_noteRam_30 ?_
    refine aw_bipush dX6_noteRam_31 (by decide) ?_
    refine aw_imulR (by omega) dX6_noteRam_33 ?_
    refine a_il4 dX6_noteRam_34 ?_
    refine aw_iaddR (by omega) dX6_noteRam_36 ?_
    refine a_il2 dX6_noteRam_37 ?_
    refine aw_iast dX6_noteRam_38 ar_31 (by omega) ?_
    refine a_al0 (by decide) dX6_noteRam_39 ?_
    refine aw_getR (r := 31) 5 rfl dX6_noteRam_40 fl_X6_28 at_25 rfl rfl ?_
    try simp (disch := omega) only [up_at, up_ne]
    refine a_il4 dX6_noteRam_43 ?_
    refine aw_bipush dX6_noteRam_45 (by decide) ?_
    refine aw_imulR (by omega) dX6_noteRam_47 ?_
    refine a_il3 dX6_noteRam_48 ?_
    refine aw_iaddR (by omega) dX6_noteRam_49 ?_
    refine a_il2 dX6_noteRam_50 ?_
    refine aw_iast dX6_noteRam_51 ar_31 (by omega) ?_
    refine aw_vret dX6_noteRam_52 rfl ?_
    exact k
abbrev cG1 (h : AH) (i j : Int) : Prop := ¬ h 26 i = 0 ∧ ¬ h 26 j = 0 ∧ h 28 i = h 28 j
def cGo (h : AH) (b i j : Int) : AH := up (up h 26 i (if cG1 h i j ∧ h (b + 2) (j * 11 + 5) ≤ h (b + 2) (i * 11 + 5) then 1 else 0)) 26 j (if cG1 h i j ∧ ¬ h (b + 2) (j * 11 + 5) ≤ h (b + 2) (i * 11 + 5) then 1 else 0)
/-- a ram of i and j in a pulse -/
def cStH (h : AH) (b i j p : Int) : AH := ckR (cNr (cGo (cHu (cHu (cNs (cNs h b i j) b j i) b i (cLoss h b i j)) b j (cLoss h b j i)) b i j) p i j) b p i j (cLoss h b i j) (cLoss h b j i)
theorem co161 {b i j p li lj o f : Int} {h : AH} {K : AO → Nat → AH → Prop} (hB : b = 5 ∨ b = 15) (hi : 0 ≤ i ∧ i ≤ 11) (hj : 0 ≤ j ∧ j ≤ 11) (hr : 0 ≤ h 25 6 ∧ h 25 6 ≤ 1000000) (h8 : 0 ≤ h b 8 ∧ h b 8 ≤ 30) (k : K (.inl none) 159 (ckR (cNr h p i j) b p i j li lj)) : AW mX6_collide 3 0 0 K 159 161 [(2, 25), (2, b), (0, p), (0, i), (0, j), (0, li), (0, lj), (0, o), (0, f)] [] h := by
  have hb := sh_ab hB
  refine a_al0 (by decide) dX6_collide_161 ?_
  refine a_al1 (am_sh_rg hb) dX6_collide_162 ?_
  refine a_il2 dX6_collide_163 ?_
  refine a_il3 dX6_collide_164 ?_
  refine a_il4 dX6_collide_165 ?_
  refine aw_callV 1 0 0 dX6_collide_167 yw_X6_noteRam ml_X6_130 in_X6_noteRam se_X6_noteRam (ci := 5) rfl at_25 (as := [_, _, _, _]) rfl rfl ⟨by decide, by decide, by decide, Nat.le_of_ble_eq_true rfl⟩ ?_
  refine ac_noteRam hB hi hj hr ?_
  have e8 : cNr h p i j b 8 = h b 8 := by
    unfold cNr
    split
    · rw [up_ne (by omega), up_ne (by omega), up_ne (by omega)]
    · rw [up_ne (by omega)]
  refine am_cv ?_
  refine a_al1 (am_sh_rg hb) dX6_collide_170 ?_
  refine a_il2 dX6_collide_171 ?_
  refine a_il3 dX6_collide_172 ?_
  refine a_il4 dX6_collide_173 ?_
  refine a_il5 dX6_collide_175 ?_
  refine a_il6 dX6_collide_177 ?_
  refine aw_callV 1 0 0 dX6_collide_179 yw_X3_keepRam ml_X6_133 in_X3_keepRam se_X3_keepRam (ci := 2) rfl (am_sh_at hb) (as := [_, _, _, _, _]) rfl rfl ⟨by decide, by decide, by decide, Nat.le_of_ble_eq_true rfl⟩ ?_
  refine ac_keepRam hB (by omega) ?_
  refine am_cv ?_
  refine aw_vret dX6_collide_182 rfl ?_
  exact k
theorem co118 {b i j p li lj o f : Int} {h : AH} {K : AO → Nat → AH → Prop} (hB : b = 5 ∨ b = 15) (hi : 0 ≤ i ∧ i ≤ 11) (hj : 0 ≤ j ∧ j ≤ 11) (hr : 0 ≤ h 25 6 ∧ h 25 6 ≤ 1000000) (h8 : 0 ≤ h b 8 ∧ h b 8 ≤ 30) (ho : (o = 1 ∧ cG1 h i j) ∨ (o = 0 ∧ ¬ cG1 h i j)) (hf : (f = 1 ∧ h (b + 2) (j * 11 + 5) ≤ h (b + 2) (i * 11 + 5)) ∨ (f = 0 ∧ ¬ h (b + 2) (j * 11 + 5) ≤ h (b + 2) (i * 11 + 5))) (k : K (.inl none) 159 (ckR (cNr (cGo h b i j) p i j) b p i j li lj)) : AW mX6_collide 3 0 0 K 159 118 [(2, 25), (2, b), (0, p), (0, i), (0, j), (0, li), (0, lj), (0, o), (0, f)] [] h := by
  have hb := sh_ab hB
  have fin : ∀ a c, a = (if cG1 h i j ∧ h (b + 2) (j * 11 + 5) ≤ h (b + 2) (i * 11 + 5) then 1 else 0) → c = (if cG1 h i j ∧ ¬ h (b + 2) (j * 11 + 5) ≤ h (b + 2) (i * 11 + 5) then 1 else 0) → AW mX6_collide 3 0 0 K 159 161 [(2, 25), (2, b), (0, p), (0, i), (0, j), (0, li), (0, lj), (0, o), (0, f)] [] (up (up h 26 i a) 26 j c) := fun a c ea ec => by
    unfold cGo at k
    rw [← ea, ← ec] at k
    refine co161 hB hi hj ?_ ?_ k <;> (rw [up_ne (by omega), up_ne (by omega)]; assumption)
  rcases ho with ⟨rfl, g⟩ | ⟨rfl, g⟩
  · rcases hf with ⟨rfl, f1⟩ | ⟨rfl, f1⟩
    · skip
      refine a_al0 (by decide) dX6_collide_118 ?_
      refine aw_getR (r := 26) 0 rfl dX6_collide_119 fl_X6_9 at_25 rfl rfl ?_
      refine a_il3 dX6_collide_122 ?_
      refine a_il7 dX6_collide_123 ?_
      refine aw_if_eq_n 137 dX6_collide_125 (by decide) (by decide) ?_
      refine a_il8 dX6_collide_128 ?_
      refine aw_if_eq_n 137 dX6_collide_130 (by decide) (by decide) ?_
      refine aw_iconst dX6_collide_133 (by decide) ?_
      refine aw_goto 138 dX6_collide_134 (by decide) ?_
      refine aw_zast dX6_collide_138 ar_26 (by omega) (by omega) ?_
      refine a_al0 (by decide) dX6_collide_139 ?_
      refine aw_getR (r := 26) 0 rfl dX6_collide_140 fl_X6_9 at_25 rfl rfl ?_
      try simp (disch := omega) only [up_at, up_ne]
      refine a_il4 dX6_collide_143 ?_
      refine a_il7 dX6_collide_145 ?_
      refine aw_if_eq_n 159 dX6_collide_147 (by decide) (by decide) ?_
      refine a_il8 dX6_collide_150 ?_
      refine aw_if_ne_y 159 dX6_collide_152 (by decide) (by decide) ?_
      refine aw_iconst dX6_collide_159 (by decide) ?_
      refine aw_zast dX6_collide_160 ar_26 (by omega) (by omega) ?_
      exact fin 1 0 (by rw [if_pos ⟨g, f1⟩]) (by rw [if_neg (fun x => x.2 f1)])
    · skip
      refine a_al0 (by decide) dX6_collide_118 ?_
      refine aw_getR (r := 26) 0 rfl dX6_collide_119 fl_X6_9 at_25 rfl rfl ?_
      try simp (disch := omega) only [up_at, up_ne]
      refine a_il3 dX6_collide_122 ?_
      refine a_il7 dX6_collide_123 ?_
      refine aw_if_eq_n 137 dX6_collide_125 (by decide) (by decide) ?_
      refine a_il8 dX6_collide_128 ?_
      refine aw_if_eq_y 137 dX6_collide_130 (by decide) (by decide) ?_
      refine aw_iconst dX6_collide_137 (by decide) ?_
      refine aw_zast dX6_collide_138 ar_26 (by omega) (by omega) ?_
      refine a_al0 (by decide) dX6_collide_139 ?_
      refine aw_getR (r := 26) 0 rfl dX6_collide_140 fl_X6_9 at_25 rfl rfl ?_
      try simp (disch := omega) only [up_at, up_ne]
      refine a_il4 dX6_collide_143 ?_
      refine a_il7 dX6_collide_145 ?_
      refine aw_if_eq_n 159 dX6_collide_147 (by decide) (by decide) ?_
      refine a_il8 dX6_collide_150 ?_
      refine aw_if_ne_n 159 dX6_collide_152 (by decide) (by decide) ?_
      refine aw_iconst dX6_collide_155 (by decide) ?_
      refine aw_goto 160 dX6_collide_156 (by decide) ?_
      refine aw_zast dX6_collide_160 ar_26 (by omega) (by omega) ?_
      exact fin 0 1 (by rw [if_neg (fun x => f1 x.2)]) (by rw [if_pos ⟨g, f1⟩])
  · skip
    refine a_al0 (by decide) dX6_collide_118 ?_
    refine aw_getR (r := 26) 0 rfl dX6_collide_119 fl_X6_9 at_25 rfl rfl ?_
    try simp (disch := omega) only [up_at, up_ne]
    refine a_il3 dX6_collide_122 ?_
    refine a_il7 dX6_collide_123 ?_
    refine aw_if_eq_y 137 dX6_collide_125 (by decide) (by decide) ?_
    refine aw_iconst dX6_collide_137 (by decide) ?_
    refine aw_zast dX6_collide_138 ar_26 (by omega) (by omega) ?_
    refine a_al0 (by decide) dX6_collide_139 ?_
    refine aw_getR (r := 26) 0 rfl dX6_collide_140 fl_X6_9 at_25 rfl rfl ?_
    try simp (disch := omega) only [up_at, up_ne]
    refine a_il4 dX6_collide_143 ?_
    refine a_il7 dX6_collide_145 ?_
    refine aw_if_eq_y 159 dX6_collide_147 (by decide) (by decide) ?_
    refine aw_iconst dX6_collide_159 (by decide) ?_
    refine aw_zast dX6_collide_160 ar_26 (by omega) (by omega) ?_
    exact fin 0 0 (by rw [if_neg (fun x => g x.1)]) (by rw [if_neg (fun x => g x.1)])
theorem co53 {b i j p li lj : Int} {h : AH} {K : AO → Nat → AH → Prop} (hB : b = 5 ∨ b = 15) (hi : 0 ≤ i ∧ i ≤ 11) (hj : 0 ≤ j ∧ j ≤ 11) (hr : 0 ≤ h 25 6 ∧ h 25 6 ≤ 1000000) (h8 : 0 ≤ h b 8 ∧ h b 8 ≤ 30) (k : K (.inl none) 159 (ckR (cNr (cGo h b i j) p i j) b p i j li lj)) : AW mX6_collide 3 0 0 K 159 53 [(2, 25), (2, b), (0, p), (0, i), (0, j), (0, li), (0, lj), (9, 0), (9, 0)] [] h := by
  have hb := sh_ab hB
  have J95 : ∀ o, ((o = 1 ∧ cG1 h i j) ∨ (o = 0 ∧ ¬ cG1 h i j)) → AW mX6_collide 3 0 0 K 159 95 [(2, 25), (2, b), (0, p), (0, i), (0, j), (0, li), (0, lj), (0, o), (9, 0)] [] h := fun o ho => by
    refine a_al1 (am_sh_rg hb) dX6_collide_95 ?_
    refine a_il3 dX6_collide_96 ?_
    refine aw_iconst dX6_collide_97 (by decide) ?_
    refine aw_callV 1 0 0 dX6_collide_98 yw_X3_get ml_X6_65 in_X3_get se_X3_get (ci := 2) rfl (am_sh_at hb) (as := [_, _]) rfl rfl ⟨by decide, by decide, by decide, Nat.le_of_ble_eq_true rfl⟩ ?_
    refine ac_get hB hi (by decide) ?_
    refine am_ci ?_
    refine a_al1 (am_sh_rg hb) dX6_collide_101 ?_
    refine a_il4 dX6_collide_102 ?_
    refine aw_iconst dX6_collide_104 (by decide) ?_
    refine aw_callV 1 0 0 dX6_collide_105 yw_X3_get ml_X6_65 in_X3_get se_X3_get (ci := 2) rfl (am_sh_at hb) (as := [_, _]) rfl rfl ⟨by decide, by decide, by decide, Nat.le_of_ble_eq_true rfl⟩ ?_
    refine ac_get hB hj (by decide) ?_
    refine am_ci ?_
    refine aw_icmp_lt 115 dX6_collide_108 (by decide) (fun c108 => ?_) (fun c108 => ?_)
    · refine aw_iconst dX6_collide_115 (by decide) ?_
      refine a_is8 rfl rfl dX6_collide_116 ?_
      exact co118 hB hi hj hr h8 ho (Or.inr ⟨rfl, by omega⟩) k
    · refine aw_iconst dX6_collide_111 (by decide) ?_
      refine aw_goto 116 dX6_collide_112 (by decide) ?_
      refine a_is8 rfl rfl dX6_collide_116 ?_
      exact co118 hB hi hj hr h8 ho (Or.inl ⟨rfl, by omega⟩) k
  refine a_al0 (by decide) dX6_collide_53 ?_
  refine aw_getR (r := 26) 0 rfl dX6_collide_54 fl_X6_9 at_25 rfl rfl ?_
  refine a_il3 dX6_collide_57 ?_
  refine aw_zald dX6_collide_58 ar_26 (by omega) ?_
  refine aw_if_eq 92 dX6_collide_59 (by decide) (fun c59 => ?_) (fun c59 => ?_)
  · refine aw_iconst dX6_collide_92 (by decide) ?_
    refine a_is7 rfl rfl dX6_collide_93 ?_
    exact J95 0 (Or.inr ⟨rfl, by omega⟩)
  · refine a_al0 (by decide) dX6_collide_62 ?_
    refine aw_getR (r := 26) 0 rfl dX6_collide_63 fl_X6_9 at_25 rfl rfl ?_
    refine a_il4 dX6_collide_66 ?_
    refine aw_zald dX6_collide_68 ar_26 (by omega) ?_
    refine aw_if_eq 92 dX6_collide_69 (by decide) (fun c69 => ?_) (fun c69 => ?_)
    · refine aw_iconst dX6_collide_92 (by decide) ?_
      refine a_is7 rfl rfl dX6_collide_93 ?_
      exact J95 0 (Or.inr ⟨rfl, by omega⟩)
    · refine a_al0 (by decide) dX6_collide_72 ?_
      refine aw_getR (r := 28) 2 rfl dX6_collide_73 fl_X6_19 at_25 rfl rfl ?_
      refine a_il3 dX6_collide_76 ?_
      refine aw_iald dX6_collide_77 ar_28 (by omega) ?_
      refine a_al0 (by decide) dX6_collide_78 ?_
      refine aw_getR (r := 28) 2 rfl dX6_collide_79 fl_X6_19 at_25 rfl rfl ?_
      refine a_il4 dX6_collide_82 ?_
      refine aw_iald dX6_collide_84 ar_28 (by omega) ?_
      refine aw_icmp_ne 92 dX6_collide_85 (by decide) (fun c85 => ?_) (fun c85 => ?_)
      · refine aw_iconst dX6_collide_92 (by decide) ?_
        refine a_is7 rfl rfl dX6_collide_93 ?_
        exact J95 0 (Or.inr ⟨rfl, by omega⟩)
      · refine aw_iconst dX6_collide_88 (by decide) ?_
        refine aw_goto 93 dX6_collide_89 (by decide) ?_
        refine a_is7 rfl rfl dX6_collide_93 ?_
        exact J95 1 (Or.inl ⟨rfl, by omega⟩)
theorem cNs_f {h : AH} {b i j k x : Int} (hk : k ≠ 29) : cNs h b i j k x = h k x := by
  unfold cNs
  split
  · rfl
  · rw [up_ne (by omega)]
theorem cHu_f {h : AH} {b i l k x : Int} (hk : ¬ (k = b + 2 ∧ (x = i * 11 + 4 ∨ x = i * 11 + 8))) : cHu h b i l k x = h k x := by
  unfold cHu
  rw [up_ne (by omega), up_ne (by omega)]
def cRs (h : AH) (b i : Int) : Prop := (0 ≤ h (b + 2) (i * 11 + 3) ∧ h (b + 2) (i * 11 + 3) ≤ 7) ∧ (-100000 ≤ h (b + 2) (i * 11 + 4) ∧ h (b + 2) (i * 11 + 4) ≤ 100000) ∧ (0 ≤ h (b + 2) (i * 11 + 5) ∧ h (b + 2) (i * 11 + 5) ≤ 9)
theorem ac_collide {b i j p : Int} {h : AH} {K : AO → Nat → AH → Prop} (hB : b = 5 ∨ b = 15) (hi : 0 ≤ i ∧ i ≤ 11) (hj : 0 ≤ j ∧ j ≤ 11) (hij : i ≠ j) (si : cRs h b i) (sj : cRs h b j) (hr : 0 ≤ h 25 6 ∧ h 25 6 ≤ 1000000) (h8 : 0 ≤ h b 8 ∧ h b 8 ≤ 30) (k : K (.inl none) 159 (cStH h b i j p)) : AC mX6_collide 3 0 0 159 [(2, 25), (2, b), (0, p), (0, i), (0, j)] h K := by
  have hb := sh_ab hB
  obtain ⟨i3, i4, i5⟩ := si
  obtain ⟨j3, j4, j5⟩ := sj
  have l1 := cLoss_rg (i := i) j5
  have l2 := cLoss_rg (i := j) i5
  unfold cStH at k
  obtain ⟨li, hli⟩ : ∃ li, li = cLoss h b i j := ⟨_, rfl⟩
  obtain ⟨lj, hlj⟩ : ∃ lj, lj = cLoss h b j i := ⟨_, rfl⟩
  refine ac_of (ls := [(2, 25), (2, b), (0, p), (0, i), (0, j), (9, 0), (9, 0), (9, 0), (9, 0)]) pn_X6 rfl (Nat.le_of_ble_eq_true rfl) rfl ?_
  refine a_al0 (by decide) dX6_collide_0 ?_
  refine a_al1 (am_sh_rg hb) dX6_collide_1 ?_
  refine a_il3 dX6_collide_2 ?_
  refine a_il4 dX6_collide_3 ?_
  refine aw_callV 2 0 0 dX6_collide_5 yw_X6_lossOf ml_X6_120 in_X6_lossOf se_X6_lossOf (ci := 5) rfl at_25 (as := [_, _, _]) rfl rfl ⟨by decide, by decide, by decide, Nat.le_of_ble_eq_true rfl⟩ ?_
  refine ac_lossOfC hB hi hj i3 j3 j5 ?_
  rw [← hli] at k l1 ⊢
  refine am_ci ?_
  refine a_is5 rfl rfl dX6_collide_8 ?_
  refine a_al0 (by decide) dX6_collide_10 ?_
  refine a_al1 (am_sh_rg hb) dX6_collide_11 ?_
  refine a_il4 dX6_collide_12 ?_
  refine a_il3 dX6_collide_14 ?_
  refine aw_callV 2 0 0 dX6_collide_15 yw_X6_lossOf ml_X6_120 in_X6_lossOf se_X6_lossOf (ci := 5) rfl at_25 (as := [_, _, _]) rfl rfl ⟨by decide, by decide, by decide, Nat.le_of_ble_eq_true rfl⟩ ?_
  refine ac_lossOfC hB hj hi j3 i3 i5 ?_
  rw [← hlj] at k l2 ⊢
  refine am_ci ?_
  refine a_is6 rfl rfl dX6_collide_18 ?_
  refine a_al0 (by decide) dX6_collide_20 ?_
  refine a_al1 (am_sh_rg hb) dX6_collide_21 ?_
  refine a_il3 dX6_collide_22 ?_
  refine a_il4 dX6_collide_23 ?_
  refine aw_callV 2 0 0 dX6_collide_25 yw_X6_noteStriker ml_X6_124 in_X6_noteStriker se_X6_noteStriker (ci := 5) rfl at_25 (as := [_, _, _]) rfl rfl ⟨by decide, by decide, by decide, Nat.le_of_ble_eq_true rfl⟩ ?_
  refine ac_noteStriker hB hi hj ?_
  refine am_cv ?_
  refine a_al0 (by decide) dX6_collide_28 ?_
  refine a_al1 (am_sh_rg hb) dX6_collide_29 ?_
  refine a_il4 dX6_collide_30 ?_
  refine a_il3 dX6_collide_32 ?_
  refine aw_callV 2 0 0 dX6_collide_33 yw_X6_noteStriker ml_X6_124 in_X6_noteStriker se_X6_noteStriker (ci := 5) rfl at_25 (as := [_, _, _]) rfl rfl ⟨by decide, by decide, by decide, Nat.le_of_ble_eq_true rfl⟩ ?_
  refine ac_noteStriker hB hj hi ?_
  refine am_cv ?_
  refine a_al0 (by decide) dX6_collide_36 ?_
  refine a_al1 (am_sh_rg hb) dX6_collide_37 ?_
  refine a_il3 dX6_collide_38 ?_
  refine a_il5 dX6_collide_39 ?_
  refine aw_callV 2 0 0 dX6_collide_41 yw_X6_hurt ml_X6_127 in_X6_hurt se_X6_hurt (ci := 5) rfl at_25 (as := [_, _, _]) rfl rfl ⟨by decide, by decide, by decide, Nat.le_of_ble_eq_true rfl⟩ ?_
  refine ac_hurtC hB hi l1 (by rw [cNs_f (by omega), cNs_f (by omega)]; exact i4) ?_
  refine am_cv ?_
  refine a_al0 (by decide) dX6_collide_44 ?_
  refine a_al1 (am_sh_rg hb) dX6_collide_45 ?_
  refine a_il4 dX6_collide_46 ?_
  refine a_il6 dX6_collide_48 ?_
  refine aw_callV 2 0 0 dX6_collide_50 yw_X6_hurt ml_X6_127 in_X6_hurt se_X6_hurt (ci := 5) rfl at_25 (as := [_, _, _]) rfl rfl ⟨by decide, by decide, by decide, Nat.le_of_ble_eq_true rfl⟩ ?_
  refine ac_hurtC hB hj l2 (by rw [cHu_f (by omega), cNs_f (by omega), cNs_f (by omega)]; exact j4) ?_
  refine am_cv ?_
  refine co53 hB hi hj ?_ ?_ k
  · rw [cHu_f (by omega), cHu_f (by omega), cNs_f (by omega), cNs_f (by omega)]
    exact hr
  · rw [cHu_f (by omega), cHu_f (by omega), cNs_f (by omega), cNs_f (by omega)]
    exact h8
