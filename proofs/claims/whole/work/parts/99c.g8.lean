/-! the class: options of a ship's text -/
theorem ac_optionHere {S : Int → Int} {L : Int} {st : PS} {h : AH} {K : AO → Nat → AH → Prop} (hT : TxS S L) (h0 : st.2.1 = 0) (hw : CW S L st.1 h) (k : K (.inl (some (0, optW S st))) 159 h) : AC mX0_optionHere 6 0 0 159 [(2, 1)] h K := by
  obtain ⟨x, p, e4, e5⟩ := hw
  obtain ⟨-, -, -, -, -, w5, w6, w7, w8⟩ := wO_s
  unfold optW at k
  refine ac_of (ls := [(2, 1)]) pn_X0 rfl (Nat.le_of_ble_eq_true rfl) rfl ?_
  refine a_al0 (by decide) dX0_optionHere_0 ?_
  refine aw_getR (r := 2) 0 rfl dX0_optionHere_1 fl_X0_12 at_1 rfl rfl ?_
  refine aw_ldcS (i := 5) dX0_optionHere_4 rfl ⟨rfl, rfl⟩ 2005 rfl ?_
  refine aw_callV 5 0 0 dX0_optionHere_6 yw_X5_isWord ml_X0_75 in_X5_isWord se_X5_isWord (ci := 4) rfl at_2 (as := [_]) rfl rfl ⟨by decide, by decide, by decide, Nat.le_of_ble_eq_true rfl⟩ ?_
  refine ac_isWordX5 (i := 5) hT x p e4 e5 rfl rfl (by decide) (fun y => ?_) (fun y => ?_)
  · rw [cif_pos ⟨h0, by rw [← w5]; exact y⟩] at k
    refine am_ci ?_
    refine aw_if_eq_n 14 dX0_optionHere_9 (by decide) (by decide) ?_
    refine aw_iconst dX0_optionHere_12 (by decide) ?_
    refine aw_iret dX0_optionHere_13 rfl ?_
    exact k
  · rw [cif_neg (fun z => y (by rw [w5]; exact z.2))] at k
    refine am_ci ?_
    refine aw_if_eq_y 14 dX0_optionHere_9 (by decide) (by decide) ?_
    refine a_al0 (by decide) dX0_optionHere_14 ?_
    refine aw_getR (r := 2) 0 rfl dX0_optionHere_15 fl_X0_12 at_1 rfl rfl ?_
    refine aw_ldcS (i := 6) dX0_optionHere_18 rfl ⟨rfl, rfl⟩ 2006 rfl ?_
    refine aw_callV 5 0 0 dX0_optionHere_20 yw_X5_isWord ml_X0_75 in_X5_isWord se_X5_isWord (ci := 4) rfl at_2 (as := [_]) rfl rfl ⟨by decide, by decide, by decide, Nat.le_of_ble_eq_true rfl⟩ ?_
    refine ac_isWordX5 (i := 6) hT x p e4 e5 rfl rfl (by decide) (fun y => ?_) (fun y => ?_)
    · rw [cif_pos ⟨h0, by rw [← w6]; exact y⟩] at k
      refine am_ci ?_
      refine aw_if_eq_n 28 dX0_optionHere_23 (by decide) (by decide) ?_
      refine aw_iconst dX0_optionHere_26 (by decide) ?_
      refine aw_iret dX0_optionHere_27 rfl ?_
      exact k
    · rw [cif_neg (fun z => y (by rw [w6]; exact z.2))] at k
      refine am_ci ?_
      refine aw_if_eq_y 28 dX0_optionHere_23 (by decide) (by decide) ?_
      refine a_al0 (by decide) dX0_optionHere_28 ?_
      refine aw_getR (r := 2) 0 rfl dX0_optionHere_29 fl_X0_12 at_1 rfl rfl ?_
      refine aw_ldcS (i := 7) dX0_optionHere_32 rfl ⟨rfl, rfl⟩ 2007 rfl ?_
      refine aw_callV 5 0 0 dX0_optionHere_34 yw_X5_isWord ml_X0_75 in_X5_isWord se_X5_isWord (ci := 4) rfl at_2 (as := [_]) rfl rfl ⟨by decide, by decide, by decide, Nat.le_of_ble_eq_true rfl⟩ ?_
      refine ac_isWordX5 (i := 7) hT x p e4 e5 rfl rfl (by decide) (fun y => ?_) (fun y => ?_)
      · rw [cif_pos ⟨h0, by rw [← w7]; exact y⟩] at k
        refine am_ci ?_
        refine aw_if_eq_n 43 dX0_optionHere_37 (by decide) (by decide) ?_
        refine aw_bipush dX0_optionHere_40 (by decide) ?_
        refine aw_iret dX0_optionHere_42 rfl ?_
        exact k
      · rw [cif_neg (fun z => y (by rw [w7]; exact z.2))] at k
        refine am_ci ?_
        refine aw_if_eq_y 43 dX0_optionHere_37 (by decide) (by decide) ?_
        refine a_al0 (by decide) dX0_optionHere_43 ?_
        refine aw_getR (r := 2) 0 rfl dX0_optionHere_44 fl_X0_12 at_1 rfl rfl ?_
        refine aw_ldcS (i := 8) dX0_optionHere_47 rfl ⟨rfl, rfl⟩ 2008 rfl ?_
        refine aw_callV 5 0 0 dX0_optionHere_49 yw_X5_isWord ml_X0_75 in_X5_isWord se_X5_isWord (ci := 4) rfl at_2 (as := [_]) rfl rfl ⟨by decide, by decide, by decide, Nat.le_of_ble_eq_true rfl⟩ ?_
        refine ac_isWordX5 (i := 8) hT x p e4 e5 rfl rfl (by decide) (fun y => ?_) (fun y => ?_)
        · rw [cif_pos ⟨h0, by rw [← w8]; exact y⟩] at k
          refine am_ci ?_
          refine aw_if_eq_n 60 dX0_optionHere_52 (by decide) (by decide) ?_
          refine aw_bipush dX0_optionHere_55 (by decide) ?_
          refine aw_goto 61 dX0_optionHere_57 (by decide) ?_
          refine aw_iret dX0_optionHere_61 rfl ?_
          exact k
        · rw [cif_neg (fun z => y (by rw [w8]; exact z.2))] at k
          refine am_ci ?_
          refine aw_if_eq_y 60 dX0_optionHere_52 (by decide) (by decide) ?_
          refine aw_iconst dX0_optionHere_60 (by decide) ?_
          refine aw_iret dX0_optionHere_61 rfl ?_
          exact k
theorem ac_mostOf {w : Int} {h : AH} {K : AO → Nat → AH → Prop} (k : K (.inl (some (0, opHi w))) 159 h) : AC mX0_mostOf 1 0 0 159 [(0, w)] h K := by
  unfold opHi at k
  refine ac_of (ls := [(0, w)]) pn_X0 rfl (Nat.le_of_ble_eq_true rfl) rfl ?_
  refine a_il0 dX0_mostOf_0 ?_
  refine aw_iconst dX0_mostOf_1 (by decide) ?_
  refine aw_icmp_ne 8 dX0_mostOf_2 (by decide) (fun c2 => ?_) (fun c2 => ?_)
  · rw [if_neg (by assumption)] at k
    refine a_il0 dX0_mostOf_8 ?_
    refine aw_bipush dX0_mostOf_9 (by decide) ?_
    refine aw_icmp_ne 18 dX0_mostOf_11 (by decide) (fun c11 => ?_) (fun c11 => ?_)
    · rw [if_neg (by assumption)] at k
      refine aw_bipush dX0_mostOf_18 (by decide) ?_
      refine aw_iret dX0_mostOf_20 rfl ?_
      exact k
    · rw [if_pos (by assumption)] at k
      refine aw_iconst dX0_mostOf_14 (by decide) ?_
      refine aw_goto 20 dX0_mostOf_15 (by decide) ?_
      refine aw_iret dX0_mostOf_20 rfl ?_
      exact k
  · rw [if_pos (by assumption)] at k
    refine aw_bipush dX0_mostOf_5 (by decide) ?_
    refine aw_iret dX0_mostOf_7 rfl ?_
    exact k
/-- options that were told, as a number, and how many they are -/
def pc4 (i : Nat) : Nat := i % 2 + i / 2 % 2 + i / 4 % 2 + i / 8 % 2
theorem ob_F : ∀ (i : Fin 16) (w : Fin 4), (i_and (i_shr (16 * (i.val : Int)) ((w.val : Int) + 4)) 1 = if i.val / 2 ^ w.val % 2 = 1 then 1 else 0) ∧ (i.val / 2 ^ w.val % 2 = 0 → i_or (16 * (i.val : Int)) (i_shl 1 ((w.val : Int) + 4)) = 16 * ((i.val + 2 ^ w.val : Nat) : Int) ∧ i.val + 2 ^ w.val < 16 ∧ pc4 (i.val + 2 ^ w.val) = pc4 i.val + 1) := by decide +kernel
theorem pc_F : ∀ i : Fin 16, pc4 i.val ≤ 4 := by decide +kernel
theorem ob_w {i : Nat} {w : Int} (hi : i < 16) (hw : 4 ≤ w ∧ w ≤ 7) : (i_and (i_shr (16 * (i : Int)) w) 1 = 1) ∨ (i_and (i_shr (16 * (i : Int)) w) 1 = 0 ∧ ∃ j : Nat, j < 16 ∧ i_or (16 * (i : Int)) (i_shl 1 w) = 16 * (j : Int) ∧ pc4 j = pc4 i + 1) := by
  obtain ⟨a, b⟩ := ob_F ⟨i, hi⟩ ⟨(w - 4).toNat, by omega⟩
  dsimp only at a b
  rw [show (((w - 4).toNat : Nat) : Int) + 4 = w by omega] at a b
  by_cases z : i / 2 ^ (w - 4).toNat % 2 = 1
  · rw [if_pos z] at a
    exact Or.inl a
  · rw [if_neg z] at a
    obtain ⟨c, d, e⟩ := b (by omega)
    exact Or.inr ⟨a, _, d, c, e⟩
/-- a ship's numbers as they are read -/
def OS (h : AH) (r : Int → Int) (i : Int) : Prop := (∀ w, 0 ≤ w → w ≤ 10 → h 17 (i * 11 + w) = r (46 + 25 * i + w)) ∧ (1 ≤ r (46 + 25 * i + 4) ∧ r (46 + 25 * i + 4) ≤ 99) ∧ (1 ≤ r (46 + 25 * i + 5) ∧ r (46 + 25 * i + 5) ≤ 9) ∧ (1 ≤ r (46 + 25 * i + 6) ∧ r (46 + 25 * i + 6) ≤ 9) ∧ (0 ≤ r (46 + 25 * i + 7) ∧ r (46 + 25 * i + 7) ≤ 3)
theorem OS_up {h h' : AH} {r : Int → Int} {i w v : Int} (hS : OS h r i) (hw : 4 ≤ w ∧ w ≤ 7) (hv : opLo w ≤ v ∧ v ≤ opHi w) (e : h' 17 (i * 11 + w) = v) (f : ∀ x, x ≠ i * 11 + w → h' 17 x = h 17 x) : OS h' (upr r (46 + 25 * i + w) v) i := by
  obtain ⟨a, c4, c5, c6, c7⟩ := hS
  unfold opLo opHi at hv
  have A : ∀ x, 0 ≤ x → x ≤ 10 → h' 17 (i * 11 + x) = upr r (46 + 25 * i + w) v (46 + 25 * i + x) := fun x x0 x1 => by
    by_cases z : x = w
    · rw [z, upr_at, e]
    · rw [upr_ne (by omega), f _ (by omega)]
      exact a x x0 x1
  rcases (show w = 4 ∨ w = 5 ∨ w = 6 ∨ w = 7 by omega) with z | z | z | z
  · subst z
    refine ⟨A, ?_, ?_, ?_, ?_⟩
    · rw [upr_at]; exact hv
    · rw [upr_ne (by omega)]; exact c5
    · rw [upr_ne (by omega)]; exact c6
    · rw [upr_ne (by omega)]; exact c7
  · subst z
    refine ⟨A, ?_, ?_, ?_, ?_⟩
    · rw [upr_ne (by omega)]; exact c4
    · rw [upr_at]; exact hv
    · rw [upr_ne (by omega)]; exact c6
    · rw [upr_ne (by omega)]; exact c7
  · subst z
    refine ⟨A, ?_, ?_, ?_, ?_⟩
    · rw [upr_ne (by omega)]; exact c4
    · rw [upr_ne (by omega)]; exact c5
    · rw [upr_at]; exact hv
    · rw [upr_ne (by omega)]; exact c7
  · subst z
    refine ⟨A, ?_, ?_, ?_, ?_⟩
    · rw [upr_ne (by omega)]; exact c4
    · rw [upr_ne (by omega)]; exact c5
    · rw [upr_ne (by omega)]; exact c6
    · rw [upr_at]; exact hv
