/-! the class: words and numbers of its text -/
theorem wE_0 {S : Int → Int} {L p : Int} (hT : TxS S L) (hp : 0 ≤ p ∧ p ≤ L) : (kP S p = 0 → bP S p = wE S p ∧ aP S p < wE S p) ∧ (¬ kP S p = 0 → wE S p = aP S p) := by
  obtain ⟨a1, a2, a3, a4⟩ := aP_rg hT hp
  have hE := end_iff hT (k := aP S p) (by omega)
  obtain ⟨w1, w2, w3, w4⟩ := wE_rg hT hp
  by_cases z : isLe S (aP S p) = true
  · have n1 : ¬ S (aP S p) = -1 := fun q => by
      have := of_decide_eq_true z
      omega
    have k0 : kP S p = 0 := by
      unfold kP
      rw [if_neg n1, if_pos z]
    have b0 : bP S p = wE S p := by
      unfold bP wE
      rw [if_neg n1, if_pos z]
    refine ⟨fun _ => ⟨b0, ?_⟩, fun q => absurd k0 q⟩
    by_cases w : aP S p < wE S p
    · exact w
    · rw [show wE S p = aP S p by omega, z] at w3
      cases w3
  · have z0 : isLe S (aP S p) = false := Bool.eq_false_iff.mpr z
    have w0 : wE S p = aP S p := by
      by_cases w : aP S p < wE S p
      · rw [w4 _ (Int.le_refl _) w] at z0
        cases z0
      · omega
    refine ⟨fun q => ?_, fun _ => w0⟩
    unfold kP at q
    rw [if_neg z] at q
    split at q
    · omega
    · split at q <;> omega
theorem ac_isWordC {S : Int → Int} {L p : Int} {i : Nat} {q : String × Nat × String} {h : AH} {K : AO → Nat → AH → Prop} (hT : TxS S L) (hx : cTx S L h) (hp : 0 ≤ p ∧ p ≤ L) (h4 : h 2 4 = aP S p) (h5 : h 2 5 = wE S p) (hq : am_st[i]? = some q) (hn : 1 ≤ (wO i).length) (k1 : wdQ S p (wO i) → K (.inl (some (0, 1))) 159 h) (k0 : ¬ wdQ S p (wO i) → K (.inl (some (0, 0))) 159 h) : AC mX5_isWord 5 0 0 159 [(2, 2), (2, 2000 + (i : Int))] h K := by
  have hi := am_st44 hq
  have hlb := (am_byl ⟨i, hi⟩).1
  dsimp only at hlb
  obtain ⟨a1, a2, a3, a4⟩ := aP_rg hT hp
  obtain ⟨w1, w2, w3, w4⟩ := wE_rg hT hp
  obtain ⟨e1, e2⟩ := wE_0 hT hp
  have hLL := hT.1
  have hx1 := hx.1
  refine ac_of (ls := [(2, 2), (2, 2000 + (i : Int)), (9, 0)]) pn_X5 rfl (Nat.le_of_ble_eq_true rfl) rfl ?_
  refine a_al0 (by decide) dX5_isWord_0 ?_
  refine aw_get 5 dX5_isWord_1 fl_X5_25 at_2 rfl ?_
  refine a_al0 (by decide) dX5_isWord_4 ?_
  refine aw_get 4 dX5_isWord_5 fl_X5_22 at_2 rfl ?_
  refine aw_isubR (by omega) dX5_isWord_8 ?_
  rw [h4, h5]
  refine a_alX1 (am_orS hi) dX5_isWord_9 ?_
  refine aw_callStr 2 0 0 dX5_isWord_10 yw_J0_length_8abf5 ml_X5_34 in_J0_length_8abf5 se_J0_length_8abf5 rfl hq rfl (as := []) rfl rfl ⟨by decide, by decide, by decide, Nat.le_of_ble_eq_true rfl⟩ ?_
  refine ac_slength hq ?_
  refine am_ci ?_
  refine aw_icmp_eq 18 dX5_isWord_13 (by decide) (fun c13 => ?_) (fun c13 => ?_)
  · have el : wE S p - aP S p = (wO i).length := by assumption
    have kz : kP S p = 0 := Classical.byContradiction (fun z => by have := e2 z; omega)
    obtain ⟨b0, b1⟩ := e1 kz
    refine aw_iconst dX5_isWord_18 (by decide) ?_
    refine a_is2 rfl rfl dX5_isWord_19 ?_
    refine aw_loop (fun j : Int => 0 ≤ j ∧ j ≤ (wO i).length ∧ ∀ x : Nat, (x : Int) < j → S (aP S p + x) = (wO i).getD x 0) (fun j => ((wO i).length - j).toNat) (fun j => AW mX5_isWord 5 0 0 K 159 20 [(2, 2), (2, 2000 + (i : Int)), (0, j)] [] h) (fun j hj ih => ?_) 0 ⟨by omega, by omega, fun x hx => by omega⟩
    obtain ⟨j0, j1, jx⟩ := hj
    refine a_il2 dX5_isWord_20 ?_
    refine a_alX1 (am_orS hi) dX5_isWord_21 ?_
    refine aw_callStr 2 0 0 dX5_isWord_22 yw_J0_length_8abf5 ml_X5_34 in_J0_length_8abf5 se_J0_length_8abf5 rfl hq rfl (as := []) rfl rfl ⟨by decide, by decide, by decide, Nat.le_of_ble_eq_true rfl⟩ ?_
    refine ac_slength hq ?_
    refine am_ci ?_
    refine aw_icmp_ge 68 dX5_isWord_25 (by decide) (fun c25 => ?_) (fun c25 => ?_)
    · refine aw_iconst dX5_isWord_68 (by decide) ?_
      refine aw_zret dX5_isWord_69 rfl (by omega) ?_
      exact k1 ⟨kz, by rw [b0]; exact el, fun x hx => jx x (by omega)⟩
    · have jl : j < (wO i).length := by omega
      refine a_al0 (by decide) dX5_isWord_28 ?_
      refine aw_get 4 dX5_isWord_29 fl_X5_22 at_2 rfl ?_
      refine a_il2 dX5_isWord_32 ?_
      refine aw_iaddR (by omega) dX5_isWord_33 ?_
      refine a_al0 (by decide) dX5_isWord_34 ?_
      refine aw_get 1 dX5_isWord_35 fl_X5_19 at_2 rfl ?_
      refine aw_icmp_ge 68 dX5_isWord_38 (by decide) (fun c38 => ?_) (fun c38 => ?_)
      · exfalso
        omega
      · have eb : h 3 (h 2 4 + j) = S (aP S p + j) := by rw [h4]; exact hx.2 _ (by omega) (by omega)
        refine a_al0 (by decide) dX5_isWord_41 ?_
        refine aw_getR (r := 3) 0 rfl dX5_isWord_42 fl_X5_9 at_2 rfl rfl ?_
        refine a_al0 (by decide) dX5_isWord_45 ?_
        refine aw_get 4 dX5_isWord_46 fl_X5_22 at_2 rfl ?_
        refine a_il2 dX5_isWord_49 ?_
        refine aw_iaddR (by omega) dX5_isWord_50 ?_
        refine aw_iald dX5_isWord_51 ar_3 (by omega) ?_
        rw [eb]
        refine a_alX1 (am_orS hi) dX5_isWord_52 ?_
        refine a_il2 dX5_isWord_53 ?_
        refine aw_callStr 4 0 0 dX5_isWord_54 yw_J0_charAt_5068e ml_X5_39 in_J0_charAt_5068e se_J0_charAt_5068e rfl hq rfl (as := [_]) rfl rfl ⟨by decide, by decide, by decide, Nat.le_of_ble_eq_true rfl⟩ ?_
        refine ac_charAt hq ⟨by omega, by omega⟩ ?_
        refine am_ci ?_
        refine aw_icmp_eq 62 dX5_isWord_57 (by decide) (fun c57 => ?_) (fun c57 => ?_)
        · refine a_iiR2 (by omega) rfl rfl dX5_isWord_62 ?_
          refine aw_goto 20 dX5_isWord_65 (by decide) ?_
          refine ih (j + 1) ⟨by omega, by omega, fun x hx => ?_⟩ (by omega)
          by_cases z : (x : Int) = j
          · rw [z, show x = j.toNat by omega]
            assumption
          · exact jx x (by omega)
        · refine aw_iconst dX5_isWord_60 (by decide) ?_
          refine aw_zret dX5_isWord_61 rfl (by omega) ?_
          refine k0 (fun z => ?_)
          have := z.2.2 j.toNat (by omega)
          rw [Int.toNat_of_nonneg j0] at this
          exact absurd this (by assumption)
  · refine aw_iconst dX5_isWord_16 (by decide) ?_
    refine aw_zret dX5_isWord_17 rfl (by omega) ?_
    refine k0 (fun z => ?_)
    obtain ⟨b0, b1⟩ := e1 z.1
    have h2 : bP S p - aP S p = ((am_by.getD i []).length : Int) := z.2.1
    omega
theorem ac_isWordX5 {S : Int → Int} {L p x : Int} {i : Nat} {q : String × Nat × String} {h : AH} {K : AO → Nat → AH → Prop} (hT : TxS S L) (hx : cTx S L h) (hp : 0 ≤ p ∧ p ≤ L) (h4 : h 2 4 = aP S p) (h5 : h 2 5 = wE S p) (hq : am_st[i]? = some q) (hi : x = 2000 + (i : Int)) (hn : 1 ≤ (wO i).length) (k1 : wdQ S p (wO i) → K (.inl (some (0, 1))) 159 h) (k0 : ¬ wdQ S p (wO i) → K (.inl (some (0, 0))) 159 h) : AC mX5_isWord 5 0 0 159 [(2, 2), (2, x)] h K := by
  rw [hi]
  exact ac_isWordC hT hx hp h4 h5 hq hn k1 k0
/-- a word's number: five bits a letter -/
def nF (S : Int → Int) (a : Int) : Nat → Int
  | 0 => 0
  | n + 1 => nF S a n * 32 + S (a + n) - 97 + 1
theorem nF_rg {S : Int → Int} {a : Int} : ∀ n : Nat, n ≤ 8 → (∀ j : Int, a ≤ j → j < a + n → isLe S j = true) → 0 ≤ nF S a n ∧ nF S a n < 32 ^ n
  | 0, _, _ => ⟨Int.le_refl _, by show (0 : Int) < 32 ^ 0; decide⟩
  | n + 1, hn, h => by
    obtain ⟨i1, i2⟩ := nF_rg (S := S) (a := a) n (by omega) (fun j x y => h j x (by omega))
    have h9 := of_decide_eq_true (h (a + n) (by omega) (by omega))
    have e : (32 : Int) ^ (n + 1) = 32 ^ n * 32 := Int.pow_succ ..
    show 0 ≤ nF S a n * 32 + S (a + n) - 97 + 1 ∧ nF S a n * 32 + S (a + n) - 97 + 1 < 32 ^ (n + 1)
    rw [e]
    omega
theorem encN_nF {S : Int → Int} {p L : Int} (hT : TxS S L) (hp : 0 ≤ p ∧ p ≤ L) (hk : kP S p = 0) : ∀ n : Nat, (n : Int) ≤ bP S p - aP S p → encN (nmv S p) n = nF S (aP S p) n
  | 0, _ => rfl
  | n + 1, hn => by
    obtain ⟨e1, e2⟩ := wE_0 hT hp
    obtain ⟨b0, b1⟩ := e1 hk
    obtain ⟨w1, w2, w3, w4⟩ := wE_rg hT hp
    have h9 := of_decide_eq_true (w4 (aP S p + n) (by omega) (by omega))
    have v : nmv S p n = S (aP S p + n) := by
      unfold nmv
      rw [if_pos (by omega)]
    show (if nmv S p n = 0 then encN (nmv S p) n else encN (nmv S p) n * 32 + nmv S p n - 96) = nF S (aP S p) n * 32 + S (aP S p + n) - 97 + 1
    rw [v, if_neg (by omega), encN_nF hT hp hk n (by omega)]
    omega
theorem encN_hi {S : Int → Int} {p : Int} (m : Nat) (hm : bP S p - aP S p = m) : ∀ n : Nat, encN (nmv S p) (m + n) = encN (nmv S p) m
  | 0 => rfl
  | n + 1 => by
    show (if nmv S p ((m + n : Nat) : Int) = 0 then encN (nmv S p) (m + n) else encN (nmv S p) (m + n) * 32 + nmv S p ((m + n : Nat) : Int) - 96) = _
    have v : nmv S p ((m + n : Nat) : Int) = 0 := by
      unfold nmv
      rw [if_neg (by omega)]
    rw [v, if_pos rfl, encN_hi m hm n]
theorem encN_w {S : Int → Int} {p L : Int} (hT : TxS S L) (hp : 0 ≤ p ∧ p ≤ L) (hk : kP S p = 0) (h8 : bP S p - aP S p ≤ 8) : encN (nmv S p) 8 = nF S (aP S p) (bP S p - aP S p).toNat := by
  have hb := bP_rg hT hp
  obtain ⟨m, hm⟩ : ∃ m : Nat, m = (bP S p - aP S p).toNat := ⟨_, rfl⟩
  rw [← hm, ← encN_nF hT hp hk m (by omega)]
  have := encN_hi (S := S) (p := p) m (by omega) (8 - m)
  rw [show m + (8 - m) = 8 by omega] at this
  exact this
