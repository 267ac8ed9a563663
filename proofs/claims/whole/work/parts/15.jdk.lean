/-! the JDK's own methods -/
def fillH (h : AH) (a len v : Int) : AH := fun k j => if k = a ∧ 0 ≤ j ∧ j < len then v else h k j
theorem fillH_0 (h : AH) (a v : Int) : fillH h a 0 v = h := by
  funext k j
  unfold fillH
  rw [if_neg (by omega)]
theorem fillH_s (h : AH) {a i v : Int} (hi : 0 ≤ i) : up (fillH h a i v) a i v = fillH h a (i + 1) v := by
  funext k j
  unfold up fillH
  by_cases h1 : k = a ∧ j = i
  · rw [if_pos h1, if_pos (by omega)]
  · rw [if_neg h1]
    by_cases h2 : k = a ∧ 0 ≤ j ∧ j < i
    · rw [if_pos h2, if_pos (by omega)]
    · rw [if_neg h2, if_neg (by omega)]
theorem ac_fill {a v : Int} {len n : Nat} {h : AH} {K : AO → Nat → AH → Prop} (hn : n ≤ 159) (ha : am_ar n a 100 len) (hl : len < 2147483648) (k : K (.inl none) n (fillH h a len v)) : AC mJ7_fill_53178 1 0 0 n [(2, a), (0, v)] h K := by
  refine ac_of (ls := [(2, a), (0, v), (9, 0), (9, 0)]) pn_J7 rfl (Nat.le_of_ble_eq_true rfl) rfl ?_
  refine aw_iconst dJ7_fill_53178_0 (by decide) ?_
  refine a_is2 rfl rfl dJ7_fill_53178_1 ?_
  refine a_al0 (am_sa_rg ha) dJ7_fill_53178_2 ?_
  refine aw_alen hl dJ7_fill_53178_3 ha (by decide) ?_
  refine a_is3 rfl rfl dJ7_fill_53178_4 ?_
  have H : ∀ (m : Nat) (i : Int), i + m = len → 0 ≤ i → AW mJ7_fill_53178 1 0 0 K n 5 [(2, a), (0, v), (0, i), (0, (len : Int))] [] (fillH h a i v) := by
    intro m
    induction m with
    | zero =>
      intro i hi h0
      refine a_il2 dJ7_fill_53178_5 ?_
      refine a_il3 dJ7_fill_53178_6 ?_
      refine aw_icmp_ge 20 dJ7_fill_53178_7 (by decide) (fun c7 => ?_) (fun c7 => ?_)
      · refine aw_vret dJ7_fill_53178_20 rfl ?_
        rw [show i = len by omega]
        exact k
      · exact absurd c7 (by omega)
    | succ m ih =>
      intro i hi h0
      refine a_il2 dJ7_fill_53178_5 ?_
      refine a_il3 dJ7_fill_53178_6 ?_
      refine aw_icmp_ge 20 dJ7_fill_53178_7 (by decide) (fun c7 => ?_) (fun c7 => ?_)
      · exact absurd c7 (by omega)
      · refine a_al0 (am_sa_rg ha) dJ7_fill_53178_10 ?_
        refine a_il2 dJ7_fill_53178_11 ?_
        refine a_il1 dJ7_fill_53178_12 ?_
        refine aw_iast dJ7_fill_53178_13 ha (by omega) ?_
        refine a_iiR2 (by omega) rfl rfl dJ7_fill_53178_14 ?_
        refine aw_goto 5 dJ7_fill_53178_17 (by decide) ?_
        rw [fillH_s h h0]
        exact ih (i + 1) (by omega) (by omega)
  have h9 := H len 0 (by omega) (by omega)
  rw [fillH_0] at h9
  exact h9
