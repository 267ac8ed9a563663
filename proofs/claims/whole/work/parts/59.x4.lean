/-! the class: copies of sheets, shelves, what is kept -/
theorem sh_dis {b f : Int} (hb : am_sh b) (hf : am_sh f) (hne : b ≠ f) : b + 10 ≤ f ∨ f + 10 ≤ b := by
  unfold am_sh at hb hf
  rcases hb with rfl | rfl | rfl | rfl | rfl | rfl | rfl | rfl | rfl | rfl | rfl | rfl <;> omega
theorem cpy_in {h : AH} {t f n x : Int} (hx : 0 ≤ x ∧ x < n) : cpy h t 0 f 0 n t x = h f x := by
  unfold cpy
  rw [if_pos ⟨rfl, hx.1, by omega⟩]
  congr 1
  omega
theorem cpy_nx {h : AH} {t f n k x : Int} (hk : k ≠ t) : cpy h t 0 f 0 n k x = h k x := by
  unfold cpy
  rw [if_neg (fun q => hk q.1)]
/-- sheet b of h is sheet b' of h' -/
def shEq (h : AH) (b : Int) (h' : AH) (b' : Int) : Prop :=
  (∀ x, 0 ≤ x → x ≤ 8 → h' b' x = h b x) ∧ (∀ x, 0 ≤ x → x < 12 → h' (b' + 1) x = h (b + 1) x) ∧ (∀ x, 0 ≤ x → x < 132 → h' (b' + 2) x = h (b + 2) x) ∧ (∀ x, 0 ≤ x → x < 12 → h' (b' + 3) x = h (b + 3) x) ∧ (∀ x, 0 ≤ x → x < 24 → h' (b' + 4) x = h (b + 4) x) ∧ (∀ x, 0 ≤ x → x < 150 → h' (b' + 5) x = h (b + 5) x) ∧ (∀ x, 0 ≤ x → x < 4 → h' (b' + 6) x = h (b + 6) x) ∧ (∀ x, 0 ≤ x → x < 4 → h' (b' + 7) x = h (b + 7) x) ∧ (∀ x, 0 ≤ x → x < 120 → h' (b' + 8) x = h (b + 8) x) ∧ (∀ x, 0 ≤ x → x < 40 → h' (b' + 9) x = h (b + 9) x)
def shFr (h : AH) (b : Int) (h' : AH) : Prop := ∀ k x, ¬ (b ≤ k ∧ k < b + 10) → h' k x = h k x
theorem shEq_refl (h : AH) (b : Int) : shEq h b h b := ⟨fun _ _ _ => rfl, fun _ _ _ => rfl, fun _ _ _ => rfl, fun _ _ _ => rfl, fun _ _ _ => rfl, fun _ _ _ => rfl, fun _ _ _ => rfl, fun _ _ _ => rfl, fun _ _ _ => rfl, fun _ _ _ => rfl⟩
theorem shEq_fr {h g h' : AH} {b b' b2 : Int} (a : shEq h b g b') (f : shFr g b2 h') (hd : b2 + 10 ≤ b' ∨ b' + 10 ≤ b2) : shEq h b h' b' := by
  obtain ⟨a0, a1, a2, a3, a4, a5, a6, a7, a8, a9⟩ := a
  refine ⟨fun x p q => ?_, fun x p q => ?_, fun x p q => ?_, fun x p q => ?_, fun x p q => ?_, fun x p q => ?_, fun x p q => ?_, fun x p q => ?_, fun x p q => ?_, fun x p q => ?_⟩
  · rw [f _ _ (by omega)]; exact a0 x p q
  · rw [f _ _ (by omega)]; exact a1 x p q
  · rw [f _ _ (by omega)]; exact a2 x p q
  · rw [f _ _ (by omega)]; exact a3 x p q
  · rw [f _ _ (by omega)]; exact a4 x p q
  · rw [f _ _ (by omega)]; exact a5 x p q
  · rw [f _ _ (by omega)]; exact a6 x p q
  · rw [f _ _ (by omega)]; exact a7 x p q
  · rw [f _ _ (by omega)]; exact a8 x p q
  · rw [f _ _ (by omega)]; exact a9 x p q
def cp1 (h : AH) (b f : Int) : AH := up (up (up (up (up (up (up (up (up h b 0 (h f 0)) b 1 (h f 1)) b 2 (h f 2)) b 3 (h f 3)) b 4 (h f 4)) b 5 (h f 5)) b 6 (h f 6)) b 7 (h f 7)) b 8 (h f 8)
def cp2 (h : AH) (b f : Int) : AH := cpy (cpy (cpy (cpy (cpy (cpy (cpy (cpy (cpy (cp1 h b f) (b + 1) 0 (f + 1) 0 12) (b + 2) 0 (f + 2) 0 132) (b + 3) 0 (f + 3) 0 12) (b + 4) 0 (f + 4) 0 24) (b + 5) 0 (f + 5) 0 150) (b + 6) 0 (f + 6) 0 4) (b + 7) 0 (f + 7) 0 4) (b + 8) 0 (f + 8) 0 120) (b + 9) 0 (f + 9) 0 40
theorem cp2_fr {h : AH} {b f : Int} : shFr h b (cp2 h b f) := fun k x hk => by
  unfold cp2 cp1
  rw [cpy_nx (by omega), cpy_nx (by omega), cpy_nx (by omega), cpy_nx (by omega), cpy_nx (by omega), cpy_nx (by omega), cpy_nx (by omega), cpy_nx (by omega), cpy_nx (by omega), up_ne (by omega), up_ne (by omega), up_ne (by omega), up_ne (by omega), up_ne (by omega), up_ne (by omega), up_ne (by omega), up_ne (by omega), up_ne (by omega)]
theorem cp2_eq {h : AH} {b f : Int} (hd : b + 10 ≤ f ∨ f + 10 ≤ b) : shEq h f (cp2 h b f) b := by
  refine ⟨fun x p q => ?_, fun x p q => ?_, fun x p q => ?_, fun x p q => ?_, fun x p q => ?_, fun x p q => ?_, fun x p q => ?_, fun x p q => ?_, fun x p q => ?_, fun x p q => ?_⟩
  · unfold cp2
    rw [cpy_nx (by omega), cpy_nx (by omega), cpy_nx (by omega), cpy_nx (by omega), cpy_nx (by omega), cpy_nx (by omega), cpy_nx (by omega), cpy_nx (by omega), cpy_nx (by omega)]
    unfold cp1
    have : x = 0 ∨ x = 1 ∨ x = 2 ∨ x = 3 ∨ x = 4 ∨ x = 5 ∨ x = 6 ∨ x = 7 ∨ x = 8 := by omega
    rcases this with rfl | rfl | rfl | rfl | rfl | rfl | rfl | rfl | rfl <;> simp (disch := omega) only [up_at, up_ne]
  · unfold cp2 cp1
    simp (disch := omega) only [cpy_nx, cpy_in, up_ne]
  · unfold cp2 cp1
    simp (disch := omega) only [cpy_nx, cpy_in, up_ne]
  · unfold cp2 cp1
    simp (disch := omega) only [cpy_nx, cpy_in, up_ne]
  · unfold cp2 cp1
    simp (disch := omega) only [cpy_nx, cpy_in, up_ne]
  · unfold cp2 cp1
    simp (disch := omega) only [cpy_nx, cpy_in, up_ne]
  · unfold cp2 cp1
    simp (disch := omega) only [cpy_nx, cpy_in, up_ne]
  · unfold cp2 cp1
    simp (disch := omega) only [cpy_nx, cpy_in, up_ne]
  · unfold cp2 cp1
    simp (disch := omega) only [cpy_nx, cpy_in, up_ne]
  · unfold cp2 cp1
    simp (disch := omega) only [cpy_nx, cpy_in, up_ne]
theorem ac_copyFrom {b f : Int} {h : AH} {K : AO → Nat → AH → Prop} (hb : am_sh b) (hf : am_sh f) (hne : b ≠ f) (kk : ∀ h', shFr h b h' → shEq h f h' b → K (.inl none) 159 h') : AC mX3_copyFrom 2 0 0 159 [(2, b), (2, f)] h K := by
  have hd := sh_dis hb hf hne
  have k := kk _ (cp2_fr (h := h) (b := b) (f := f)) (cp2_eq hd)
  unfold cp2 cp1 at k
  refine ac_of (ls := [(2, b), (2, f)]) pn_X3 rfl (Nat.le_of_ble_eq_true rfl) rfl ?_
  refine a_al0 (am_sh_rg hb) dX3_copyFrom_0 ?_
  refine a_al1 (am_sh_rg hf) dX3_copyFrom_1 ?_
  refine aw_get 0 dX3_copyFrom_2 fl_X3_40 (am_sh_at hf) rfl ?_
  refine aw_put 0 dX3_copyFrom_5 fp_X3_40 (am_sh_at hb) rfl ?_
  refine a_al0 (am_sh_rg hb) dX3_copyFrom_8 ?_
  refine a_al1 (am_sh_rg hf) dX3_copyFrom_9 ?_
  refine aw_get 1 dX3_copyFrom_10 fl_X3_44 (am_sh_at hf) rfl ?_
  try simp (disch := omega) only [up_at, up_ne]
  refine aw_put 1 dX3_copyFrom_13 fp_X3_44 (am_sh_at hb) rfl ?_
  refine a_al0 (am_sh_rg hb) dX3_copyFrom_16 ?_
  refine a_al1 (am_sh_rg hf) dX3_copyFrom_17 ?_
  refine aw_get 2 dX3_copyFrom_18 fl_X3_47 (am_sh_at hf) rfl ?_
  try simp (disch := omega) only [up_at, up_ne]
  refine aw_put 2 dX3_copyFrom_21 fp_X3_47 (am_sh_at hb) rfl ?_
  refine a_al0 (am_sh_rg hb) dX3_copyFrom_24 ?_
  refine a_al1 (am_sh_rg hf) dX3_copyFrom_25 ?_
  refine aw_get 3 dX3_copyFrom_26 fl_X3_50 (am_sh_at hf) rfl ?_
  try simp (disch := omega) only [up_at, up_ne]
  refine aw_put 3 dX3_copyFrom_29 fp_X3_50 (am_sh_at hb) rfl ?_
  refine a_al0 (am_sh_rg hb) dX3_copyFrom_32 ?_
  refine a_al1 (am_sh_rg hf) dX3_copyFrom_33 ?_
  refine aw_get 4 dX3_copyFrom_34 fl_X3_53 (am_sh_at hf) rfl ?_
  try simp (disch := omega) only [up_at, up_ne]
  refine aw_put 4 dX3_copyFrom_37 fp_X3_53 (am_sh_at hb) rfl ?_
  refine a_al0 (am_sh_rg hb) dX3_copyFrom_40 ?_
  refine a_al1 (am_sh_rg hf) dX3_copyFrom_41 ?_
  refine aw_get 5 dX3_copyFrom_42 fl_X3_56 (am_sh_at hf) rfl ?_
  try simp (disch := omega) only [up_at, up_ne]
  refine aw_put 5 dX3_copyFrom_45 fp_X3_56 (am_sh_at hb) rfl ?_
  refine a_al0 (am_sh_rg hb) dX3_copyFrom_48 ?_
  refine a_al1 (am_sh_rg hf) dX3_copyFrom_49 ?_
  refine aw_get 6 dX3_copyFrom_50 fl_X3_59 (am_sh_at hf) rfl ?_
  try simp (disch := omega) only [up_at, up_ne]
  refine aw_put 6 dX3_copyFrom_53 fp_X3_59 (am_sh_at hb) rfl ?_
  refine a_al0 (am_sh_rg hb) dX3_copyFrom_56 ?_
  refine a_al1 (am_sh_rg hf) dX3_copyFrom_57 ?_
  refine aw_get 7 dX3_copyFrom_58 fl_X3_62 (am_sh_at hf) rfl ?_
  try simp (disch := omega) only [up_at, up_ne]
  refine aw_put 7 dX3_copyFrom_61 fp_X3_62 (am_sh_at hb) rfl ?_
  refine a_al0 (am_sh_rg hb) dX3_copyFrom_64 ?_
  refine a_al1 (am_sh_rg hf) dX3_copyFrom_65 ?_
  refine aw_get 8 dX3_copyFrom_66 fl_X3_65 (am_sh_at hf) rfl ?_
  try simp (disch := omega) only [up_at, up_ne]
  refine aw_put 8 dX3_copyFrom_69 fp_X3_65 (am_sh_at hb) rfl ?_
  refine a_al1 (am_sh_rg hf) dX3_copyFrom_72 ?_
  refine aw_shR 9 1 hf dX3_copyFrom_73 fl_X3_9 (by decide) ?_
  try simp (disch := omega) only [up_at, up_ne]
  refine aw_iconst dX3_copyFrom_76 (by decide) ?_
  refine a_al0 (am_sh_rg hb) dX3_copyFrom_77 ?_
  refine aw_shR 9 1 hb dX3_copyFrom_78 fl_X3_9 (by decide) ?_
  try simp (disch := omega) only [up_at, up_ne]
  refine aw_iconst dX3_copyFrom_81 (by decide) ?_
  refine a_al0 (am_sh_rg hb) dX3_copyFrom_82 ?_
  refine aw_shR 9 1 hb dX3_copyFrom_83 fl_X3_9 (by decide) ?_
  try simp (disch := omega) only [up_at, up_ne]
  refine aw_alen (by omega) dX3_copyFrom_86 (am_sa_1 hb) (by decide) ?_
  refine aw_cpJ dX3_copyFrom_87 ⟨ml_X3_80, cw_1, cw_2, cw_3⟩ ⟨by decide, Nat.le_of_ble_eq_true rfl⟩ (am_sa_1 hf) (am_sa_1 hb) (by omega) ?_
  refine a_al1 (am_sh_rg hf) dX3_copyFrom_90 ?_
  refine aw_shR 10 2 hf dX3_copyFrom_91 fl_X3_15 (by decide) ?_
  try simp (disch := omega) only [up_at, up_ne]
  refine a_al0 (am_sh_rg hb) dX3_copyFrom_94 ?_
  refine aw_shR 10 2 hb dX3_copyFrom_95 fl_X3_15 (by decide) ?_
  try simp (disch := omega) only [up_at, up_ne]
  refine aw_callS 1 0 0 dX3_copyFrom_98 yw_X3_copyRow ml_X3_86 sm_X3_copyRow (as := [_, _]) rfl rfl ⟨by decide, by decide, by decide, Nat.le_of_ble_eq_true rfl⟩ ?_
  refine ac_copyRow (am_sa_2 hf) (am_sa_2 hb) (by decide) ?_
  refine am_cv ?_
  refine a_al1 (am_sh_rg hf) dX3_copyFrom_101 ?_
  refine aw_shR 11 3 hf dX3_copyFrom_102 fl_X3_19 (by decide) ?_
  try simp (disch := omega) only [up_at, up_ne]
  refine a_al0 (am_sh_rg hb) dX3_copyFrom_105 ?_
  refine aw_shR 11 3 hb dX3_copyFrom_106 fl_X3_19 (by decide) ?_
  try simp (disch := omega) only [up_at, up_ne]
  refine aw_callS 1 0 0 dX3_copyFrom_109 yw_X3_copyRow ml_X3_86 sm_X3_copyRow (as := [_, _]) rfl rfl ⟨by decide, by decide, by decide, Nat.le_of_ble_eq_true rfl⟩ ?_
  refine ac_copyRow (am_sa_3 hf) (am_sa_3 hb) (by decide) ?_
  refine am_cv ?_
  refine a_al1 (am_sh_rg hf) dX3_copyFrom_112 ?_
  refine aw_shR 12 4 hf dX3_copyFrom_113 fl_X3_22 (by decide) ?_
  try simp (disch := omega) only [up_at, up_ne]
  refine a_al0 (am_sh_rg hb) dX3_copyFrom_116 ?_
  refine aw_shR 12 4 hb dX3_copyFrom_117 fl_X3_22 (by decide) ?_
  try simp (disch := omega) only [up_at, up_ne]
  refine aw_callS 1 0 0 dX3_copyFrom_120 yw_X3_copyRow ml_X3_86 sm_X3_copyRow (as := [_, _]) rfl rfl ⟨by decide, by decide, by decide, Nat.le_of_ble_eq_true rfl⟩ ?_
  refine ac_copyRow (am_sa_4 hf) (am_sa_4 hb) (by decide) ?_
  refine am_cv ?_
  refine a_al1 (am_sh_rg hf) dX3_copyFrom_123 ?_
  refine aw_shR 13 5 hf dX3_copyFrom_124 fl_X3_25 (by decide) ?_
  try simp (disch := omega) only [up_at, up_ne]
  refine a_al0 (am_sh_rg hb) dX3_copyFrom_127 ?_
  refine aw_shR 13 5 hb dX3_copyFrom_128 fl_X3_25 (by decide) ?_
  try simp (disch := omega) only [up_at, up_ne]
  refine aw_callS 1 0 0 dX3_copyFrom_131 yw_X3_copyRow ml_X3_86 sm_X3_copyRow (as := [_, _]) rfl rfl ⟨by decide, by decide, by decide, Nat.le_of_ble_eq_true rfl⟩ ?_
  refine ac_copyRow (am_sa_5 hf) (am_sa_5 hb) (by decide) ?_
  refine am_cv ?_
  refine a_al1 (am_sh_rg hf) dX3_copyFrom_134 ?_
  refine aw_shR 14 6 hf dX3_copyFrom_135 fl_X3_28 (by decide) ?_
  try simp (disch := omega) only [up_at, up_ne]
  refine a_al0 (am_sh_rg hb) dX3_copyFrom_138 ?_
  refine aw_shR 14 6 hb dX3_copyFrom_139 fl_X3_28 (by decide) ?_
  try simp (disch := omega) only [up_at, up_ne]
  refine aw_callS 1 0 0 dX3_copyFrom_142 yw_X3_copyRow ml_X3_86 sm_X3_copyRow (as := [_, _]) rfl rfl ⟨by decide, by decide, by decide, Nat.le_of_ble_eq_true rfl⟩ ?_
  refine ac_copyRow (am_sa_6 hf) (am_sa_6 hb) (by decide) ?_
  refine am_cv ?_
  refine a_al1 (am_sh_rg hf) dX3_copyFrom_145 ?_
  refine aw_shR 15 7 hf dX3_copyFrom_146 fl_X3_31 (by decide) ?_
  try simp (disch := omega) only [up_at, up_ne]
  refine a_al0 (am_sh_rg hb) dX3_copyFrom_149 ?_
  refine aw_shR 15 7 hb dX3_copyFrom_150 fl_X3_31 (by decide) ?_
  try simp (disch := omega) only [up_at, up_ne]
  refine aw_callS 1 0 0 dX3_copyFrom_153 yw_X3_copyRow ml_X3_86 sm_X3_copyRow (as := [_, _]) rfl rfl ⟨by decide, by decide, by decide, Nat.le_of_ble_eq_true rfl⟩ ?_
  refine ac_copyRow (am_sa_7 hf) (am_sa_7 hb) (by decide) ?_
  refine am_cv ?_
  refine a_al1 (am_sh_rg hf) dX3_copyFrom_156 ?_
  refine aw_shR 16 8 hf dX3_copyFrom_157 fl_X3_34 (by decide) ?_
  try simp (disch := omega) only [up_at, up_ne]
  refine a_al0 (am_sh_rg hb) dX3_copyFrom_160 ?_
  refine aw_shR 16 8 hb dX3_copyFrom_161 fl_X3_34 (by decide) ?_
  try simp (disch := omega) only [up_at, up_ne]
  refine aw_callS 1 0 0 dX3_copyFrom_164 yw_X3_copyRow ml_X3_86 sm_X3_copyRow (as := [_, _]) rfl rfl ⟨by decide, by decide, by decide, Nat.le_of_ble_eq_true rfl⟩ ?_
  refine ac_copyRow (am_sa_8 hf) (am_sa_8 hb) (by decide) ?_
  refine am_cv ?_
  refine a_al1 (am_sh_rg hf) dX3_copyFrom_167 ?_
  refine aw_shR 17 9 hf dX3_copyFrom_168 fl_X3_37 (by decide) ?_
  try simp (disch := omega) only [up_at, up_ne]
  refine a_al0 (am_sh_rg hb) dX3_copyFrom_171 ?_
  refine aw_shR 17 9 hb dX3_copyFrom_172 fl_X3_37 (by decide) ?_
  try simp (disch := omega) only [up_at, up_ne]
  refine aw_callS 1 0 0 dX3_copyFrom_175 yw_X3_copyRow ml_X3_86 sm_X3_copyRow (as := [_, _]) rfl rfl ⟨by decide, by decide, by decide, Nat.le_of_ble_eq_true rfl⟩ ?_
  refine ac_copyRow (am_sa_9 hf) (am_sa_9 hb) (by decide) ?_
  refine am_cv ?_
  refine aw_vret dX3_copyFrom_178 rfl ?_
  exact k
def setSh (h : AH) (b i f nm : Int) : AH := up (up (up (up (up (up (up (up (up h (b + 1) i nm) (b + 2) (i * 11 + 0) f) (b + 2) (i * 11 + 4) 20) (b + 2) (i * 11 + 5) 3) (b + 2) (i * 11 + 6) 5) (b + 2) (i * 11 + 7) 1) (b + 2) (i * 11 + 8) 0) (b + 2) (i * 11 + 9) 4) (b + 2) (i * 11 + 10) (-1)
theorem ac_setShip {b i f nm : Int} {h : AH} {K : AO → Nat → AH → Prop} (hB : b = 5 ∨ b = 15) (hi : 0 ≤ i ∧ i ≤ 11) (k : K (.inl none) 159 (setSh h b i f nm)) : AC mX3_setShip 2 0 0 159 [(2, b), (0, i), (0, f), (1, nm)] h K := by
  have hb := sh_ab hB
  unfold setSh at k
  refine ac_of (ls := [(2, b), (0, i), (0, f), (1, nm), (9, 0)]) pn_X3 rfl (Nat.le_of_ble_eq_true rfl) rfl ?_
  refine a_al0 (am_sh_rg hb) dX3_setShip_0 ?_
  refine aw_shR 9 1 hb dX3_setShip_1 fl_X3_9 (by decide) ?_
  refine a_il1 dX3_setShip_4 ?_
  refine a_ll3 dX3_setShip_5 ?_
  refine aw_last dX3_setShip_6 (am_sa_1 hb) (by omega) ?_
  refine a_al0 (am_sh_rg hb) dX3_setShip_7 ?_
  refine a_il1 dX3_setShip_8 ?_
  refine aw_iconst dX3_setShip_9 (by decide) ?_
  refine a_il2 dX3_setShip_10 ?_
  refine aw_callV 1 0 0 dX3_setShip_11 yw_X3_set ml_X3_96 in_X3_set se_X3_set (ci := 2) rfl (am_sh_at hb) (as := [_, _, _]) rfl rfl ⟨by decide, by decide, by decide, Nat.le_of_ble_eq_true rfl⟩ ?_
  refine ac_set hB hi (by decide) ?_
  refine am_cv ?_
  refine a_al0 (am_sh_rg hb) dX3_setShip_14 ?_
  refine a_il1 dX3_setShip_15 ?_
  refine aw_iconst dX3_setShip_16 (by decide) ?_
  refine aw_bipush dX3_setShip_17 (by decide) ?_
  refine aw_callV 1 0 0 dX3_setShip_19 yw_X3_set ml_X3_96 in_X3_set se_X3_set (ci := 2) rfl (am_sh_at hb) (as := [_, _, _]) rfl rfl ⟨by decide, by decide, by decide, Nat.le_of_ble_eq_true rfl⟩ ?_
  refine ac_set hB hi (by decide) ?_
  refine am_cv ?_
  refine a_al0 (am_sh_rg hb) dX3_setShip_22 ?_
  refine a_il1 dX3_setShip_23 ?_
  refine aw_iconst dX3_setShip_24 (by decide) ?_
  refine aw_iconst dX3_setShip_25 (by decide) ?_
  refine aw_callV 1 0 0 dX3_setShip_26 yw_X3_set ml_X3_96 in_X3_set se_X3_set (ci := 2) rfl (am_sh_at hb) (as := [_, _, _]) rfl rfl ⟨by decide, by decide, by decide, Nat.le_of_ble_eq_true rfl⟩ ?_
  refine ac_set hB hi (by decide) ?_
  refine am_cv ?_
  refine a_al0 (am_sh_rg hb) dX3_setShip_29 ?_
  refine a_il1 dX3_setShip_30 ?_
  refine aw_bipush dX3_setShip_31 (by decide) ?_
  refine aw_iconst dX3_setShip_33 (by decide) ?_
  refine aw_callV 1 0 0 dX3_setShip_34 yw_X3_set ml_X3_96 in_X3_set se_X3_set (ci := 2) rfl (am_sh_at hb) (as := [_, _, _]) rfl rfl ⟨by decide, by decide, by decide, Nat.le_of_ble_eq_true rfl⟩ ?_
  refine ac_set hB hi (by decide) ?_
  refine am_cv ?_
  refine a_al0 (am_sh_rg hb) dX3_setShip_37 ?_
  refine a_il1 dX3_setShip_38 ?_
  refine aw_bipush dX3_setShip_39 (by decide) ?_
  refine aw_iconst dX3_setShip_41 (by decide) ?_
  refine aw_callV 1 0 0 dX3_setShip_42 yw_X3_set ml_X3_96 in_X3_set se_X3_set (ci := 2) rfl (am_sh_at hb) (as := [_, _, _]) rfl rfl ⟨by decide, by decide, by decide, Nat.le_of_ble_eq_true rfl⟩ ?_
  refine ac_set hB hi (by decide) ?_
  refine am_cv ?_
  refine a_al0 (am_sh_rg hb) dX3_setShip_45 ?_
  refine a_il1 dX3_setShip_46 ?_
  refine aw_bipush dX3_setShip_47 (by decide) ?_
  refine aw_iconst dX3_setShip_49 (by decide) ?_
  refine aw_callV 1 0 0 dX3_setShip_50 yw_X3_set ml_X3_96 in_X3_set se_X3_set (ci := 2) rfl (am_sh_at hb) (as := [_, _, _]) rfl rfl ⟨by decide, by decide, by decide, Nat.le_of_ble_eq_true rfl⟩ ?_
  refine ac_set hB hi (by decide) ?_
  refine am_cv ?_
  refine a_al0 (am_sh_rg hb) dX3_setShip_53 ?_
  refine a_il1 dX3_setShip_54 ?_
  refine aw_bipush dX3_setShip_55 (by decide) ?_
  refine aw_iconst dX3_setShip_57 (by decide) ?_
  refine aw_callV 1 0 0 dX3_setShip_58 yw_X3_set ml_X3_96 in_X3_set se_X3_set (ci := 2) rfl (am_sh_at hb) (as := [_, _, _]) rfl rfl ⟨by decide, by decide, by decide, Nat.le_of_ble_eq_true rfl⟩ ?_
  refine ac_set hB hi (by decide) ?_
  refine am_cv ?_
  refine a_al0 (am_sh_rg hb) dX3_setShip_61 ?_
  refine a_il1 dX3_setShip_62 ?_
  refine aw_bipush dX3_setShip_63 (by decide) ?_
  refine aw_iconst dX3_setShip_65 (by decide) ?_
  refine aw_callV 1 0 0 dX3_setShip_66 yw_X3_set ml_X3_96 in_X3_set se_X3_set (ci := 2) rfl (am_sh_at hb) (as := [_, _, _]) rfl rfl ⟨by decide, by decide, by decide, Nat.le_of_ble_eq_true rfl⟩ ?_
  refine ac_set hB hi (by decide) ?_
  refine am_cv ?_
  refine aw_vret dX3_setShip_69 rfl ?_
  exact k
theorem rv_34 {i : Int} (hi : 0 ≤ i ∧ i ≤ 7) : am_RV (34 : Int).toNat i.toNat = some (35 + 10 * i) := by
  have : i = 0 ∨ i = 1 ∨ i = 2 ∨ i = 3 ∨ i = 4 ∨ i = 5 ∨ i = 6 ∨ i = 7 := by omega
  rcases this with rfl | rfl | rfl | rfl | rfl | rfl | rfl | rfl <;> decide
theorem rv_116 {i : Int} (hi : 0 ≤ i ∧ i ≤ 1) : am_RV (116 : Int).toNat i.toNat = some (117 + 10 * i) := by
  have : i = 0 ∨ i = 1 := by omega
  rcases this with rfl | rfl <;> decide
theorem sh_h {i : Int} (hi : 0 ≤ i ∧ i ≤ 7) : am_sh (35 + 10 * i) := by
  unfold am_sh
  omega
theorem sh_s {i : Int} (hi : 0 ≤ i ∧ i ≤ 1) : am_sh (117 + 10 * i) := by
  unfold am_sh
  omega
theorem ac_sheetAt {i : Int} {h : AH} {K : AO → Nat → AH → Prop} (hi : 0 ≤ i ∧ i ≤ 7) (k : K (.inl (some (2, 35 + 10 * i))) 159 h) : AC mX4_sheetAt 1 0 0 159 [(2, 33), (0, i)] h K := by
  refine ac_of (ls := [(2, 33), (0, i)]) pn_X4 rfl (Nat.le_of_ble_eq_true rfl) rfl ?_
  refine a_il1 dX4_sheetAt_0 ?_
  refine aw_if_lt 22 dX4_sheetAt_1 (by decide) (fun c1 => ?_) (fun c1 => ?_)
  · exfalso; omega
  · refine a_il1 dX4_sheetAt_4 ?_
    refine a_al0 (by decide) dX4_sheetAt_5 ?_
    refine aw_getR (r := 34) 0 rfl dX4_sheetAt_6 fl_X4_15 at_33 rfl rfl ?_
    refine aw_alen (by decide) dX4_sheetAt_9 ar_34 (by decide) ?_
    refine aw_icmp_ge 22 dX4_sheetAt_10 (by decide) (fun c10 => ?_) (fun c10 => ?_)
    · exfalso; omega
    · refine a_al0 (by decide) dX4_sheetAt_13 ?_
      refine aw_getR (r := 34) 0 rfl dX4_sheetAt_14 fl_X4_15 at_33 rfl rfl ?_
      refine a_il1 dX4_sheetAt_17 ?_
      refine aw_aald rfl dX4_sheetAt_18 ar_34 (by omega) (rv_34 hi) ?_
      refine aw_goto 23 dX4_sheetAt_19 (by decide) ?_
      exact aw_aret (by omega) dX4_sheetAt_23 rfl k
theorem ac_sheetAtS {i : Int} {h : AH} {K : AO → Nat → AH → Prop} (hi : 0 ≤ i ∧ i ≤ 1) (k : K (.inl (some (2, 117 + 10 * i))) 159 h) : AC mX4_sheetAt 1 0 0 159 [(2, 115), (0, i)] h K := by
  refine ac_of (ls := [(2, 115), (0, i)]) pn_X4 rfl (Nat.le_of_ble_eq_true rfl) rfl ?_
  refine a_il1 dX4_sheetAt_0 ?_
  refine aw_if_lt 22 dX4_sheetAt_1 (by decide) (fun c1 => ?_) (fun c1 => ?_)
  · exfalso; omega
  · refine a_il1 dX4_sheetAt_4 ?_
    refine a_al0 (by decide) dX4_sheetAt_5 ?_
    refine aw_getR (r := 116) 0 rfl dX4_sheetAt_6 fl_X4_15 at_115 rfl rfl ?_
    refine aw_alen (by decide) dX4_sheetAt_9 ar_116 (by decide) ?_
    refine aw_icmp_ge 22 dX4_sheetAt_10 (by decide) (fun c10 => ?_) (fun c10 => ?_)
    · exfalso; omega
    · refine a_al0 (by decide) dX4_sheetAt_13 ?_
      refine aw_getR (r := 116) 0 rfl dX4_sheetAt_14 fl_X4_15 at_115 rfl rfl ?_
      refine a_il1 dX4_sheetAt_17 ?_
      refine aw_aald rfl dX4_sheetAt_18 ar_116 (by omega) (rv_116 hi) ?_
      refine aw_goto 23 dX4_sheetAt_19 (by decide) ?_
      exact aw_aret (by omega) dX4_sheetAt_23 rfl k
theorem ac_put {i f : Int} {h : AH} {K : AO → Nat → AH → Prop} (hi : 0 ≤ i ∧ i ≤ 7) (hF : f = 5 ∨ f = 15) (kk : ∀ h', shFr h (35 + 10 * i) h' → shEq h f h' (35 + 10 * i) → K (.inl none) 159 h') : AC mX4_put 3 0 0 159 [(2, 33), (0, i), (2, f)] h K := by
  have hf := sh_ab hF
  have hs := sh_h hi
  refine ac_of (ls := [(2, 33), (0, i), (2, f), (9, 0)]) pn_X4 rfl (Nat.le_of_ble_eq_true rfl) rfl ?_
  refine a_al0 (by decide) dX4_put_0 ?_
  refine a_il1 dX4_put_1 ?_
  refine aw_callV 1 0 0 dX4_put_2 yw_X4_sheetAt ml_X4_22 in_X4_sheetAt se_X4_sheetAt (ci := 3) rfl at_33 (as := [_]) rfl rfl ⟨by decide, by decide, by decide, Nat.le_of_ble_eq_true rfl⟩ ?_
  refine ac_sheetAt hi ?_
  obtain ⟨b, hb⟩ : ∃ b, b = 35 + 10 * i := ⟨_, rfl⟩
  rw [← hb] at hs kk ⊢
  refine am_ci ?_
  refine a_as3 (am_sh_rg hs) rfl rfl dX4_put_5 ?_
  refine a_al3 (am_sh_rg hs) dX4_put_6 ?_
  refine aw_ifnull_f (am_sh_rg hs) dX4_put_7 ?_
  refine a_al3 (am_sh_rg hs) dX4_put_10 ?_
  refine a_al2 (am_sh_rg hf) dX4_put_11 ?_
  refine aw_callV 2 0 0 dX4_put_12 yw_X3_copyFrom ml_X4_26 in_X3_copyFrom se_X3_copyFrom (ci := 2) rfl (am_sh_at hs) (as := [_]) rfl rfl ⟨by decide, by decide, by decide, Nat.le_of_ble_eq_true rfl⟩ ?_
  refine ac_copyFrom hs hf (by omega) (fun h' fr e => ?_)
  refine am_cv ?_
  refine aw_vret dX4_put_15 rfl ?_
  exact kk h' fr e
theorem ac_putS {i f : Int} {h : AH} {K : AO → Nat → AH → Prop} (hi : 0 ≤ i ∧ i ≤ 1) (hF : f = 5 ∨ f = 15) (kk : ∀ h', shFr h (117 + 10 * i) h' → shEq h f h' (117 + 10 * i) → K (.inl none) 159 h') : AC mX4_put 3 0 0 159 [(2, 115), (0, i), (2, f)] h K := by
  have hf := sh_ab hF
  have hs := sh_s hi
  refine ac_of (ls := [(2, 115), (0, i), (2, f), (9, 0)]) pn_X4 rfl (Nat.le_of_ble_eq_true rfl) rfl ?_
  refine a_al0 (by decide) dX4_put_0 ?_
  refine a_il1 dX4_put_1 ?_
  refine aw_callV 1 0 0 dX4_put_2 yw_X4_sheetAt ml_X4_22 in_X4_sheetAt se_X4_sheetAt (ci := 3) rfl at_115 (as := [_]) rfl rfl ⟨by decide, by decide, by decide, Nat.le_of_ble_eq_true rfl⟩ ?_
  refine ac_sheetAtS hi ?_
  obtain ⟨b, hb⟩ : ∃ b, b = 117 + 10 * i := ⟨_, rfl⟩
  rw [← hb] at hs kk ⊢
  refine am_ci ?_
  refine a_as3 (am_sh_rg hs) rfl rfl dX4_put_5 ?_
  refine a_al3 (am_sh_rg hs) dX4_put_6 ?_
  refine aw_ifnull_f (am_sh_rg hs) dX4_put_7 ?_
  refine a_al3 (am_sh_rg hs) dX4_put_10 ?_
  refine a_al2 (am_sh_rg hf) dX4_put_11 ?_
  refine aw_callV 2 0 0 dX4_put_12 yw_X3_copyFrom ml_X4_26 in_X3_copyFrom se_X3_copyFrom (ci := 2) rfl (am_sh_at hs) (as := [_]) rfl rfl ⟨by decide, by decide, by decide, Nat.le_of_ble_eq_true rfl⟩ ?_
  refine ac_copyFrom hs hf (by omega) (fun h' fr e => ?_)
  refine am_cv ?_
  refine aw_vret dX4_put_15 rfl ?_
  exact kk h' fr e
theorem ac_take {i f : Int} {h : AH} {K : AO → Nat → AH → Prop} (hi : 0 ≤ i ∧ i ≤ 7) (hF : f = 5 ∨ f = 15) (kk : ∀ h', shFr h f h' → shEq h (35 + 10 * i) h' f → K (.inl none) 159 h') : AC mX4_take 3 0 0 159 [(2, 33), (0, i), (2, f)] h K := by
  have hf := sh_ab hF
  have hs := sh_h hi
  refine ac_of (ls := [(2, 33), (0, i), (2, f), (9, 0)]) pn_X4 rfl (Nat.le_of_ble_eq_true rfl) rfl ?_
  refine a_al0 (by decide) dX4_take_0 ?_
  refine a_il1 dX4_take_1 ?_
  refine aw_callV 1 0 0 dX4_take_2 yw_X4_sheetAt ml_X4_22 in_X4_sheetAt se_X4_sheetAt (ci := 3) rfl at_33 (as := [_]) rfl rfl ⟨by decide, by decide, by decide, Nat.le_of_ble_eq_true rfl⟩ ?_
  refine ac_sheetAt hi ?_
  obtain ⟨b, hb⟩ : ∃ b, b = 35 + 10 * i := ⟨_, rfl⟩
  rw [← hb] at hs kk ⊢
  refine am_ci ?_
  refine a_as3 (am_sh_rg hs) rfl rfl dX4_take_5 ?_
  refine a_al3 (am_sh_rg hs) dX4_take_6 ?_
  refine aw_ifnull_f (am_sh_rg hs) dX4_take_7 ?_
  refine a_al2 (am_sh_rg hf) dX4_take_10 ?_
  refine a_al3 (am_sh_rg hs) dX4_take_11 ?_
  refine aw_callV 2 0 0 dX4_take_12 yw_X3_copyFrom ml_X4_26 in_X3_copyFrom se_X3_copyFrom (ci := 2) rfl (am_sh_at hf) (as := [_]) rfl rfl ⟨by decide, by decide, by decide, Nat.le_of_ble_eq_true rfl⟩ ?_
  refine ac_copyFrom hf hs (by omega) (fun h' fr e => ?_)
  refine am_cv ?_
  refine aw_vret dX4_take_15 rfl ?_
  exact kk h' fr e
theorem ac_takeS {i f : Int} {h : AH} {K : AO → Nat → AH → Prop} (hi : 0 ≤ i ∧ i ≤ 1) (hF : f = 5 ∨ f = 15) (kk : ∀ h', shFr h f h' → shEq h (117 + 10 * i) h' f → K (.inl none) 159 h') : AC mX4_take 3 0 0 159 [(2, 115), (0, i), (2, f)] h K := by
  have hf := sh_ab hF
  have hs := sh_s hi
  refine ac_of (ls := [(2, 115), (0, i), (2, f), (9, 0)]) pn_X4 rfl (Nat.le_of_ble_eq_true rfl) rfl ?_
  refine a_al0 (by decide) dX4_take_0 ?_
  refine a_il1 dX4_take_1 ?_
  refine aw_callV 1 0 0 dX4_take_2 yw_X4_sheetAt ml_X4_22 in_X4_sheetAt se_X4_sheetAt (ci := 3) rfl at_115 (as := [_]) rfl rfl ⟨by decide, by decide, by decide, Nat.le_of_ble_eq_true rfl⟩ ?_
  refine ac_sheetAtS hi ?_
  obtain ⟨b, hb⟩ : ∃ b, b = 117 + 10 * i := ⟨_, rfl⟩
  rw [← hb] at hs kk ⊢
  refine am_ci ?_
  refine a_as3 (am_sh_rg hs) rfl rfl dX4_take_5 ?_
  refine a_al3 (am_sh_rg hs) dX4_take_6 ?_
  refine aw_ifnull_f (am_sh_rg hs) dX4_take_7 ?_
  refine a_al2 (am_sh_rg hf) dX4_take_10 ?_
  refine a_al3 (am_sh_rg hs) dX4_take_11 ?_
  refine aw_callV 2 0 0 dX4_take_12 yw_X3_copyFrom ml_X4_26 in_X3_copyFrom se_X3_copyFrom (ci := 2) rfl (am_sh_at hf) (as := [_]) rfl rfl ⟨by decide, by decide, by decide, Nat.le_of_ble_eq_true rfl⟩ ?_
  refine ac_copyFrom hf hs (by omega) (fun h' fr e => ?_)
  refine am_cv ?_
  refine aw_vret dX4_take_15 rfl ?_
  exact kk h' fr e
/-- what keep leaves: the sheet on the shelf, at the place that was next -/
def cKept (h h' : AH) : Prop := (∀ k x, ¬ (35 + 10 * h 32 1 ≤ k ∧ k < 45 + 10 * h 32 1) → ¬ (k = 32 ∧ (x = 1 ∨ x = 2)) → h' k x = h k x) ∧ shEq h 5 h' (35 + 10 * h 32 1) ∧ h' 32 1 = (h 32 1 + 1) % 8 ∧ h' 32 2 = (if h 32 2 + 1 < 8 then h 32 2 + 1 else 8)
theorem shEq_up {h g : AH} {b b' k x v : Int} (a : shEq h b g b') (hk : ¬ (b' ≤ k ∧ k < b' + 10)) : shEq h b (up g k x v) b' := by
  obtain ⟨a0, a1, a2, a3, a4, a5, a6, a7, a8, a9⟩ := a
  refine ⟨fun x p q => ?_, fun x p q => ?_, fun x p q => ?_, fun x p q => ?_, fun x p q => ?_, fun x p q => ?_, fun x p q => ?_, fun x p q => ?_, fun x p q => ?_, fun x p q => ?_⟩
  · rw [up_ne (by omega)]; exact a0 x p q
  · rw [up_ne (by omega)]; exact a1 x p q
  · rw [up_ne (by omega)]; exact a2 x p q
  · rw [up_ne (by omega)]; exact a3 x p q
  · rw [up_ne (by omega)]; exact a4 x p q
  · rw [up_ne (by omega)]; exact a5 x p q
  · rw [up_ne (by omega)]; exact a6 x p q
  · rw [up_ne (by omega)]; exact a7 x p q
  · rw [up_ne (by omega)]; exact a8 x p q
  · rw [up_ne (by omega)]; exact a9 x p q
theorem ac_keep {h : AH} {K : AO → Nat → AH → Prop} (h1 : 0 ≤ h 32 1 ∧ h 32 1 ≤ 7) (h2 : 0 ≤ h 32 2 ∧ h 32 2 ≤ 8) (kk : ∀ h', cKept h h' → K (.inl none) 159 h') : AC mX1_keep 4 0 0 159 [(2, 32), (2, 5)] h K := by
  have e : (h 32 1 + 1).tmod 8 = (h 32 1 + 1) % 8 := Int.tmod_eq_emod_of_nonneg (by omega)
  refine ac_of (ls := [(2, 32), (2, 5)]) pn_X1 rfl (Nat.le_of_ble_eq_true rfl) rfl ?_
  refine a_al0 (by decide) dX1_keep_0 ?_
  refine aw_getR (r := 33) 0 rfl dX1_keep_1 fl_X1_14 at_32 rfl rfl ?_
  refine a_al0 (by decide) dX1_keep_4 ?_
  refine aw_get 1 dX1_keep_5 fl_X1_20 at_32 rfl ?_
  refine a_al1 (by decide) dX1_keep_8 ?_
  refine aw_callV 3 0 0 dX1_keep_9 yw_X4_put ml_X1_24 in_X4_put se_X4_put (ci := 3) rfl at_33 (as := [_, _]) rfl rfl ⟨by decide, by decide, by decide, Nat.le_of_ble_eq_true rfl⟩ ?_
  refine ac_put h1 (Or.inl rfl) (fun g fr eq => ?_)
  have g1 : g 32 1 = h 32 1 := fr _ _ (by omega)
  have g2 : g 32 2 = h 32 2 := fr _ _ (by omega)
  refine am_cv ?_
  refine a_al0 (by decide) dX1_keep_12 ?_
  refine a_al0 (by decide) dX1_keep_13 ?_
  refine aw_get 1 dX1_keep_14 fl_X1_20 at_32 rfl ?_
  try simp (disch := omega) only [up_at, up_ne]
  refine aw_iconst dX1_keep_17 (by decide) ?_
  refine aw_iaddR (by omega) dX1_keep_18 ?_
  refine aw_bipush dX1_keep_19 (by decide) ?_
  refine aw_irem dX1_keep_21 (by omega) ?_
  rw [g1, e]
  refine aw_put 1 dX1_keep_22 fp_X1_20 at_32 rfl ?_
  refine a_al0 (by decide) dX1_keep_25 ?_
  refine aw_bipush dX1_keep_26 (by decide) ?_
  refine a_al0 (by decide) dX1_keep_28 ?_
  refine aw_get 2 dX1_keep_29 fl_X1_28 at_32 rfl ?_
  try simp (disch := omega) only [up_at, up_ne]
  refine aw_iconst dX1_keep_32 (by decide) ?_
  refine aw_iaddR (by omega) dX1_keep_33 ?_
  refine aw_mmin dX1_keep_34 ⟨ml_X1_31, mw_min⟩ ⟨by decide, Nat.le_of_ble_eq_true rfl⟩ ?_
  refine aw_put 2 dX1_keep_37 fp_X1_28 at_32 rfl ?_
  refine aw_vret dX1_keep_40 rfl ?_
  rw [g2]
  have k := kk (up (up g 32 1 ((h 32 1 + 1) % 8)) 32 2 (if h 32 2 + 1 < 8 then h 32 2 + 1 else 8)) ⟨fun k x a c => ?_, shEq_up (shEq_up eq (by omega)) (by omega), ?_, up_at _ _ _ _⟩
  · exact k
  · rw [up_ne (by omega), up_ne (by omega), fr _ _ (by omega)]
  · rw [up_ne (by omega), up_at]
def cBack (h h' : AH) : Prop := (∀ k x, ¬ (5 ≤ k ∧ k < 15) → ¬ (k = 32 ∧ (x = 1 ∨ x = 2)) → h' k x = h k x) ∧ shEq h (35 + 10 * ((h 32 1 + 7) % 8)) h' 5 ∧ h' 32 1 = (h 32 1 + 7) % 8 ∧ h' 32 2 = h 32 2 - 1
theorem ac_bringBack {h : AH} {K : AO → Nat → AH → Prop} (h1 : 0 ≤ h 32 1 ∧ h 32 1 ≤ 7) (h2 : 1 ≤ h 32 2 ∧ h 32 2 ≤ 8) (kk : ∀ h', cBack h h' → K (.inl none) 159 h') : AC mX1_bringBack 4 0 0 159 [(2, 32), (2, 5)] h K := by
  have e : (h 32 1 + 8 - 1).tmod 8 = (h 32 1 + 7) % 8 := by
    rw [Int.tmod_eq_emod_of_nonneg (by omega)]
    congr 1
    omega
  obtain ⟨n, hn⟩ : ∃ n, n = (h 32 1 + 7) % 8 := ⟨_, rfl⟩
  have rn : 0 ≤ n ∧ n ≤ 7 := by omega
  unfold cBack at kk
  rw [← hn] at e kk
  refine ac_of (ls := [(2, 32), (2, 5)]) pn_X1 rfl (Nat.le_of_ble_eq_true rfl) rfl ?_
  refine a_al0 (by decide) dX1_bringBack_0 ?_
  refine a_al0 (by decide) dX1_bringBack_1 ?_
  refine aw_get 1 dX1_bringBack_2 fl_X1_20 at_32 rfl ?_
  refine aw_bipush dX1_bringBack_5 (by decide) ?_
  refine aw_iaddR (by omega) dX1_bringBack_7 ?_
  refine aw_iconst dX1_bringBack_8 (by decide) ?_
  refine aw_isubR (by omega) dX1_bringBack_9 ?_
  refine aw_bipush dX1_bringBack_10 (by decide) ?_
  refine aw_irem dX1_bringBack_12 (by omega) ?_
  rw [e]
  refine aw_put 1 dX1_bringBack_13 fp_X1_20 at_32 rfl ?_
  refine a_al0 (by decide) dX1_bringBack_16 ?_
  refine aw_getR (r := 33) 0 rfl dX1_bringBack_17 fl_X1_14 at_32 rfl rfl ?_
  try simp (disch := omega) only [up_at, up_ne]
  refine a_al0 (by decide) dX1_bringBack_20 ?_
  refine aw_get 1 dX1_bringBack_21 fl_X1_20 at_32 rfl ?_
  try simp (disch := omega) only [up_at, up_ne]
  refine a_al1 (by decide) dX1_bringBack_24 ?_
  refine aw_callV 3 0 0 dX1_bringBack_25 yw_X4_take ml_X1_37 in_X4_take se_X4_take (ci := 3) rfl at_33 (as := [_, _]) rfl rfl ⟨by decide, by decide, by decide, Nat.le_of_ble_eq_true rfl⟩ ?_
  refine ac_take rn (Or.inl rfl) (fun g fr eq => ?_)
  have g2 : g 32 2 = h 32 2 := by rw [fr _ _ (by omega), up_ne (by omega)]
  refine am_cv ?_
  refine a_al0 (by decide) dX1_bringBack_28 ?_
  refine aw_dup dX1_bringBack_29 rfl ?_
  refine aw_get 2 dX1_bringBack_30 fl_X1_28 at_32 rfl ?_
  try simp (disch := omega) only [up_at, up_ne]
  refine aw_iconst dX1_bringBack_33 (by decide) ?_
  refine aw_isubR (by omega) dX1_bringBack_34 ?_
  refine aw_put 2 dX1_bringBack_35 fp_X1_28 at_32 rfl ?_
  refine aw_vret dX1_bringBack_38 rfl ?_
  rw [g2]
  have k := kk (up g 32 2 (h 32 2 - 1)) ⟨fun k x a c => ?_, shEq_up ?_ (by omega), ?_, up_at _ _ _ _⟩
  · exact k
  · rw [up_ne (by omega), fr _ _ (by omega), up_ne (by omega)]
  · obtain ⟨a0, a1, a2, a3, a4, a5, a6, a7, a8, a9⟩ := eq
    refine ⟨fun x p q => ?_, fun x p q => ?_, fun x p q => ?_, fun x p q => ?_, fun x p q => ?_, fun x p q => ?_, fun x p q => ?_, fun x p q => ?_, fun x p q => ?_, fun x p q => ?_⟩
    · rw [a0 x p q, up_ne (by omega)]
    · rw [a1 x p q, up_ne (by omega)]
    · rw [a2 x p q, up_ne (by omega)]
    · rw [a3 x p q, up_ne (by omega)]
    · rw [a4 x p q, up_ne (by omega)]
    · rw [a5 x p q, up_ne (by omega)]
    · rw [a6 x p q, up_ne (by omega)]
    · rw [a7 x p q, up_ne (by omega)]
    · rw [a8 x p q, up_ne (by omega)]
    · rw [a9 x p q, up_ne (by omega)]
  · rw [up_ne (by omega), fr _ _ (by omega), up_at]
