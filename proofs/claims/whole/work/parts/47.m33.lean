/-! reading: many shifts; options -/
theorem mustS_W {S : Int → Int} {b : Int} {st : PS} (h : ¬ st.2.1 = 0) : mustS S b st = st := by
  unfold mustS
  rw [failS_W h, nextS_W (by split <;> exact h)]
  split <;> rfl
theorem standS_W {S : Int → Int} {lo hi : Int} {st : PS} (h : ¬ st.2.1 = 0) : standS S lo hi st = st := by
  have J : (if kP S st.1 = 1 then st else failS S (-2) st) = st := by
    rw [failS_W h]
    split <;> rfl
  unfold standS
  rw [J, failS_W h]
  split <;> rfl
theorem takeS_W {S : Int → Int} {lo hi : Int} {st : PS} (h : ¬ st.2.1 = 0) : takeS S lo hi st = st := by
  unfold takeS
  rw [standS_W h, nextS_W h]
theorem endS_W {S : Int → Int} {st : PS} (h : ¬ st.2.1 = 0) : endS S st = st := mustS_W h
theorem nameS_W {S : Int → Int} {st : PS} (h : ¬ st.2.1 = 0) : nameS S st = st := by
  unfold nameS
  rw [failS_W h]
  split <;> rfl
theorem cifS_W {S : Int → Int} {code : Int} {st : PS} {P : Prop} (h : ¬ st.2.1 = 0) : cif P (failS S code st) st = st := by
  rw [failS_W h]
  unfold cif
  split <;> rfl
noncomputable def shftN (S : Int → Int) : Nat → (Int → Int) → PS → (Int → Int) × PS
  | 0, r, st => (r, st)
  | n + 1, r, st => cif (wdS S st (wO 37)) (shftN S n (shftR S r st) (shft8 S r st)) (r, st)
theorem ld110 {S : Int → Int} {L : Int} {K : AO → Nat → AH → Prop} (hT : TxS S L) : ∀ (n : Nat) (r : Int → Int) (st : PS) (g : AH), Sts S L st g → (st.2.1 = 0 → g 141 = r ∧ (0 ≤ r 9 ∧ r 9 ≤ 8)) → (st.2.1 = 0 → L - st.1 < n) → 1 ≤ n → (∀ g', RFr g g' → Sts S L (shftN S n r st).2 g' → ((shftN S n r st).2.2.1 = 0 → g' 141 = (shftN S n r st).1 ∧ (0 ≤ (shftN S n r st).1 9 ∧ (shftN S n r st).1 9 ≤ 8)) → AW mX9_load 9 0 0 K 159 126 [(2, 140)] [] g') → AW mX9_load 9 0 0 K 159 110 [(2, 140)] [] g
  | 0, r, st, g, hs, hr, hn, h1, kk => absurd h1 (by decide)
  | n + 1, r, st, g, hs, hr, hn, h1, kk => by
    have e : shftN S (n + 1) r st = cif (wdS S st (wO 37)) (shftN S n (shftR S r st) (shft8 S r st)) (r, st) := rfl
    refine a_al0 (by decide) dX9_load_110 ?_
    refine aw_ldcS (i := 37) dX9_load_111 rfl ⟨rfl, rfl⟩ 2037 rfl ?_
    refine aw_callV 5 0 0 dX9_load_113 yw_X9_isWord ml_X9_172 in_X9_isWord se_X9_isWord (ci := 8) rfl at_140 (as := [_]) rfl rfl ⟨by decide, by decide, by decide, Nat.le_of_ble_eq_true rfl⟩ ?_
    refine ac_isWordX (i := 37) hT hs rfl (by decide) (fun q => ?_) (fun q => ?_)
    · rw [e, cif_pos q] at kk
      obtain ⟨r1, r2⟩ := hr q.1
      have hn2 := hn q.1
      have ha := wd_adv hT hs.2.2.2.2 q (by decide)
      have hna := next_adv hT hs.2.2.2.2 q (by decide)
      refine am_ci ?_
      refine aw_if_eq_n 126 dX9_load_116 (by decide) (by decide) ?_
      refine a_al0 (by decide) dX9_load_119 ?_
      refine aw_callV 6 0 0 dX9_load_120 yw_X9_readsShift ml_X9_202 in_X9_readsShift se_X9_readsShift (ci := 8) rfl at_140 (as := []) rfl rfl ⟨by decide, by decide, by decide, Nat.le_of_ble_eq_true rfl⟩ ?_
      refine ac_readsShift hT hs (by rw [r1]; exact r2) (fun g' fr hs' hrow => ?_)
      rw [r1] at hs' hrow
      refine am_cv ?_
      refine aw_goto 110 dX9_load_123 (by decide) ?_
      refine ld110 hT n (shftR S r st) (shft8 S r st) g' hs' (fun c => ⟨hrow c, ?_⟩) (fun c => ?_) (by omega) (fun g2 fr2 => kk g2 (RFr_trans fr fr2))
      · have e9 : shftR S r st 9 = r 9 + 1 := by unfold shftR shfR; exact upr_at _ _ _
        have : r 9 ≠ 8 := fun x => shft_8 hT hs.2.2.2.2 x c
        omega
      · rcases onS_shft (r := r) hT hs.2.2.2.2 with x | x
        · have := x.1
          omega
        · exact absurd c x.1
    · rw [e, cif_neg q] at kk
      refine am_ci ?_
      refine aw_if_eq_y 126 dX9_load_116 (by decide) (by decide) ?_
      exact kk g (fun _ _ _ _ => rfl) hs hr
noncomputable def optW (S : Int → Int) (st : PS) : Int := cif (wdS S st (wO 40)) 4 (cif (wdS S st (wO 41)) 5 (cif (wdS S st (wO 42)) 6 (cif (wdS S st (wO 43)) 7 (-1))))
theorem ac_option {S : Int → Int} {L : Int} {st : PS} {h : AH} {K : AO → Nat → AH → Prop} (hT : TxS S L) (hs : Sts S L st h) (kk : K (.inl (some (0, optW S st))) 159 h) : AC mX9_option 6 0 0 159 [(2, 140)] h K := by
  unfold optW at kk
  refine ac_of (ls := [(2, 140)]) pn_X9 rfl (Nat.le_of_ble_eq_true rfl) rfl ?_
  refine a_al0 (by decide) dX9_option_0 ?_
  refine aw_ldcS (i := 40) dX9_option_1 rfl ⟨rfl, rfl⟩ 2040 rfl ?_
  refine aw_callV 5 0 0 dX9_option_3 yw_X9_isWord ml_X9_172 in_X9_isWord se_X9_isWord (ci := 8) rfl at_140 (as := [_]) rfl rfl ⟨by decide, by decide, by decide, Nat.le_of_ble_eq_true rfl⟩ ?_
  refine ac_isWordX (i := 40) hT hs rfl (by decide) (fun q => ?_) (fun q => ?_)
  · rw [cif_pos q] at kk
    refine am_ci ?_
    refine aw_if_eq_n 13 dX9_option_6 (by decide) (by decide) ?_
    refine aw_iconst dX9_option_9 (by decide) ?_
    refine aw_goto 55 dX9_option_10 (by decide) ?_
    refine aw_iret dX9_option_55 rfl ?_
    exact kk
  · rw [cif_neg q] at kk
    refine am_ci ?_
    refine aw_if_eq_y 13 dX9_option_6 (by decide) (by decide) ?_
    refine a_al0 (by decide) dX9_option_13 ?_
    refine aw_ldcS (i := 41) dX9_option_14 rfl ⟨rfl, rfl⟩ 2041 rfl ?_
    refine aw_callV 5 0 0 dX9_option_16 yw_X9_isWord ml_X9_172 in_X9_isWord se_X9_isWord (ci := 8) rfl at_140 (as := [_]) rfl rfl ⟨by decide, by decide, by decide, Nat.le_of_ble_eq_true rfl⟩ ?_
    refine ac_isWordX (i := 41) hT hs rfl (by decide) (fun q => ?_) (fun q => ?_)
    · rw [cif_pos q] at kk
      refine am_ci ?_
      refine aw_if_eq_n 26 dX9_option_19 (by decide) (by decide) ?_
      refine aw_iconst dX9_option_22 (by decide) ?_
      refine aw_goto 55 dX9_option_23 (by decide) ?_
      refine aw_iret dX9_option_55 rfl ?_
      exact kk
    · rw [cif_neg q] at kk
      refine am_ci ?_
      refine aw_if_eq_y 26 dX9_option_19 (by decide) (by decide) ?_
      refine a_al0 (by decide) dX9_option_26 ?_
      refine aw_ldcS (i := 42) dX9_option_27 rfl ⟨rfl, rfl⟩ 2042 rfl ?_
      refine aw_callV 5 0 0 dX9_option_29 yw_X9_isWord ml_X9_172 in_X9_isWord se_X9_isWord (ci := 8) rfl at_140 (as := [_]) rfl rfl ⟨by decide, by decide, by decide, Nat.le_of_ble_eq_true rfl⟩ ?_
      refine ac_isWordX (i := 42) hT hs rfl (by decide) (fun q => ?_) (fun q => ?_)
      · rw [cif_pos q] at kk
        refine am_ci ?_
        refine aw_if_eq_n 40 dX9_option_32 (by decide) (by decide) ?_
        refine aw_bipush dX9_option_35 (by decide) ?_
        refine aw_goto 55 dX9_option_37 (by decide) ?_
        refine aw_iret dX9_option_55 rfl ?_
        exact kk
      · rw [cif_neg q] at kk
        refine am_ci ?_
        refine aw_if_eq_y 40 dX9_option_32 (by decide) (by decide) ?_
        refine a_al0 (by decide) dX9_option_40 ?_
        refine aw_ldcS (i := 43) dX9_option_41 rfl ⟨rfl, rfl⟩ 2043 rfl ?_
        refine aw_callV 5 0 0 dX9_option_43 yw_X9_isWord ml_X9_172 in_X9_isWord se_X9_isWord (ci := 8) rfl at_140 (as := [_]) rfl rfl ⟨by decide, by decide, by decide, Nat.le_of_ble_eq_true rfl⟩ ?_
        refine ac_isWordX (i := 43) hT hs rfl (by decide) (fun q => ?_) (fun q => ?_)
        · rw [cif_pos q] at kk
          refine am_ci ?_
          refine aw_if_eq_n 54 dX9_option_46 (by decide) (by decide) ?_
          refine aw_bipush dX9_option_49 (by decide) ?_
          refine aw_goto 55 dX9_option_51 (by decide) ?_
          refine aw_iret dX9_option_55 rfl ?_
          exact kk
        · rw [cif_neg q] at kk
          refine am_ci ?_
          refine aw_if_eq_y 54 dX9_option_46 (by decide) (by decide) ?_
          refine aw_iconst dX9_option_54 (by decide) ?_
          refine aw_iret dX9_option_55 rfl ?_
          exact kk
theorem optW_W {S : Int → Int} {st : PS} (h : ¬ st.2.1 = 0) : optW S st = -1 := by
  unfold optW
  rw [cif_neg (fun q => h q.1), cif_neg (fun q => h q.1), cif_neg (fun q => h q.1), cif_neg (fun q => h q.1)]
theorem optW_c {S : Int → Int} {st : PS} : optW S st = -1 ∨ ((4 ≤ optW S st ∧ optW S st ≤ 7) ∧ ∃ w : List Int, 0 < w.length ∧ wdS S st w) := by
  unfold optW
  by_cases a : wdS S st (wO 40)
  · rw [cif_pos a]; exact Or.inr ⟨by decide, _, (show 0 < (wO 40).length by decide), a⟩
  · rw [cif_neg a]
    by_cases a : wdS S st (wO 41)
    · rw [cif_pos a]; exact Or.inr ⟨by decide, _, (show 0 < (wO 41).length by decide), a⟩
    · rw [cif_neg a]
      by_cases a : wdS S st (wO 42)
      · rw [cif_pos a]; exact Or.inr ⟨by decide, _, (show 0 < (wO 42).length by decide), a⟩
      · rw [cif_neg a]
        by_cases a : wdS S st (wO 43)
        · rw [cif_pos a]; exact Or.inr ⟨by decide, _, (show 0 < (wO 43).length by decide), a⟩
        · rw [cif_neg a]; exact Or.inl rfl
def opLo (w : Int) : Int := if w = 7 then 0 else 1
def opHi (w : Int) : Int := if w = 4 then 99 else if w = 7 then 3 else 9
def opT (S : Int → Int) (told w : Int) (st : PS) : PS := mustS S 1 (if i_and (i_shr told w) 1 = 1 then failS S (-4) st else st)
noncomputable def optN (S : Int → Int) (s : Int) : Nat → (Int → Int) → Int → PS → (Int → Int) × PS
  | 0, r, _, st => (r, st)
  | n + 1, r, told, st => cif (optW S st = -1) (r, st) (optN S s n (upr r (s + optW S st) (standV S (opLo (optW S st)) (opHi (optW S st)) (opT S told (optW S st) st))) (i_or told (i_shl 1 (optW S st))) (takeS S (opLo (optW S st)) (opHi (optW S st)) (opT S told (optW S st) st)))
theorem optN_W {S : Int → Int} {s told : Int} {n : Nat} {r : Int → Int} {st : PS} (h : ¬ st.2.1 = 0) : (optN S s n r told st).2 = st := by
  cases n with
  | zero => rfl
  | succ n =>
    show (cif (optW S st = -1) (r, st) _).2 = st
    rw [cif_pos (optW_W h)]
theorem onS_opT {S : Int → Int} {L told w : Int} {st : PS} (hT : TxS S L) (h : 0 ≤ st.1 ∧ st.1 ≤ L) : onS L st (opT S told w st) := by
  unfold opT
  split
  · refine onS_trans (onS_fail h.2) (onS_must hT ?_)
    rw [failS_1]; exact h
  · exact onS_must hT h
theorem onS_optN {S : Int → Int} {L s : Int} (hT : TxS S L) : ∀ (n : Nat) (r : Int → Int) (told : Int) (st : PS), 0 ≤ st.1 ∧ st.1 ≤ L → onS L st (optN S s n r told st).2
  | 0, r, told, st, h => onS_refl h.2
  | n + 1, r, told, st, h => by
    show onS L st (cif (optW S st = -1) (r, st) (optN S s n _ _ (takeS S (opLo (optW S st)) (opHi (optW S st)) (opT S told (optW S st) st)))).2
    by_cases e : optW S st = -1
    · rw [cif_pos e]
      exact onS_refl h.2
    · rw [cif_neg e]
      have a := onS_opT (told := told) (w := optW S st) hT h
      have b := onS_trans a (onS_take (lo := opLo (optW S st)) (hi := opHi (optW S st)) hT (onS_0 a h.1))
      exact onS_trans b (onS_optN hT n _ _ _ (onS_0 b h.1))
theorem opT_adv {S : Int → Int} {L told w : Int} {st : PS} {wd : List Int} (hT : TxS S L) (h : 0 ≤ st.1 ∧ st.1 ≤ L) (hw : wdS S st wd) (hl : 0 < wd.length) : (opT S told w st).2.1 = 0 → st.1 + 1 ≤ (opT S told w st).1 := fun c => by
  unfold opT mustS at c ⊢
  rw [if_neg (by decide)] at c ⊢
  by_cases e : i_and (i_shr told w) 1 = 1
  · rw [if_pos e, nextS_c] at c
    exact absurd c (failS_n (by decide))
  · rw [if_neg e]
    exact next_adv hT h hw hl
