/-! the class: a whole turn, beside the model's -/
theorem isFC_u {g : AH} {x y : Int} (hn : g 141 3 ≤ 12) (hx : isFC g x) (hy : isFC g y) : x = y := by
  rcases hx with ⟨i, j, i0, ij, jn, cl, ex, no⟩ | ⟨ex, no⟩ <;> rcases hy with ⟨a, c, a0, ac, cn, cl2, ey, no2⟩ | ⟨ey, no2⟩
  · by_cases e : i = a ∧ j = c
    · rw [ex, ey, e.1, e.2]
    · by_cases l : a < i ∨ (a = i ∧ c < j)
      · exact absurd cl2 (no a c a0 ac cn l)
      · exact absurd cl (no2 i j i0 ij jn (by omega))
  · exact absurd cl (no2 i j i0 ij jn)
  · exact absurd cl2 (no a c a0 ac cn)
  · rw [ex, ey]
theorem cnt_0 {g : Int → Int} : ∀ m : Nat, cnt g m ≤ 0 → ∀ x : Int, 0 ≤ x → x < m → g x = 0
  | 0, _, x, a, b => by omega
  | m + 1, h, x, a, b => by
    have h2 : cnt g m + (if g m = 0 then 0 else 1) ≤ 0 := h
    have r := (cnt_rg g m).1
    have r2 := bi_r (g m)
    by_cases e : x = m
    · rw [e]
      by_cases z : g m = 0
      · exact z
      · rw [if_neg z] at h2
        omega
    · exact cnt_0 m (by omega) x a (by omega)
theorem FC_none {g : AH} (hn : g 141 3 ≤ 12) (hc : cnt (g 149) 12 ≤ 0) : isFC g (-1) := by
  refine Or.inr ⟨rfl, fun a c a0 ac cn cl => ?_⟩
  have z1 := cnt_0 12 hc a a0 (by omega)
  have z2 := cnt_0 12 hc c (by omega) (by omega)
  rcases cl.2.2 with q | q | q
  · exact q.1 z1
  · exact q.1.1 z1
  · rcases q.2 with q | q
    · exact q.1 z1
    · exact q.1 z2
/-- the class' turn and its sheet may be others, not what is told in them -/
def coFr (h : AH) (b : Int) (h' : AH) : Prop := ∀ k x, ¬ (k = b ∧ x = 8) → k ≠ b + 2 → k ≠ b + 5 → k ≠ b + 6 → ¬ (k = 25 ∧ x = 6) → ¬ (26 ≤ k ∧ k ≤ 31) → h' k x = h k x
theorem coFr_refl (h : AH) (b : Int) : coFr h b h := fun _ _ _ _ _ _ _ _ => rfl
theorem coFr_trans {h g f : AH} {b : Int} (a : coFr h b g) (c : coFr g b f) : coFr h b f := fun k x p q r s t u => by rw [c k x p q r s t u, a k x p q r s t u]
/-- all is told together -/
def PR1 (fl : Prop) (h : AH) (b : Int) (g : AH) : Prop := PR0 fl h b g ∧ PO g ∧ Stk h g ∧ Gng h g
theorem ac_ramAll {fl : Prop} {b p : Int} {h : AH} {G : AH → Prop} {K : AO → Nat → AH → Prop} (hB : b = 5 ∨ b = 15) (hE : ∃ g, G g) (hG : ∀ g, G g → wOk g 12 ∧ PR1 fl h b g)
  (kk : ∀ h', coFr h b h' → (∀ g g' m, G g → RR m p g g' → wOk g' 0 ∧ PR1 fl h' b g' ∧ g' 141 3 = g 141 3) → (∀ g, G g → ∃ m g', RR m p g g') → K (.inl none) 159 h') : AC mX6_ramAll 4 0 0 159 [(2, 25), (2, b), (0, p)] h K := by
  have hb := sh_ab hB
  refine ac_of (ls := [(2, 25), (2, b), (0, p), (9, 0), (9, 0)]) pn_X6 rfl (Nat.le_of_ble_eq_true rfl) rfl ?_
  refine aw_iconst dX6_ramAll_0 (by decide) ?_
  refine a_is3 rfl rfl dX6_ramAll_1 ?_
  refine aw_loop (fun q : Int × AH × AV × (AH → AH) => 0 ≤ q.1 ∧ q.1 ≤ 12 ∧ coFr h b q.2.1 ∧ am_n2 q.2.2.1 = true ∧ (∀ g, G g → wOk (q.2.2.2 g) (12 - q.1) ∧ PR1 fl q.2.1 b (q.2.2.2 g) ∧ cnt (q.2.2.2 g 149) 12 ≤ 12 - q.1 ∧ q.2.2.2 g 141 3 = g 141 3) ∧ (∀ g g' m, G g → RR m p g g' → ∃ m', RR m' p (q.2.2.2 g) g') ∧ (∀ g g' m, G g → RR m p (q.2.2.2 g) g' → ∃ m', RR m' p g g')) (fun q => (12 - q.1).toNat) (fun q => AW mX6_ramAll 4 0 0 K 159 2 [(2, 25), (2, b), (0, p), (0, q.1), q.2.2.1] [] q.2.1) (fun q hq ih => ?_) (0, h, (9, 0), id) ⟨by dsimp only; omega, by dsimp only; omega, coFr_refl h b, rfl, fun g hg => ⟨(hG g hg).1, (hG g hg).2, (cnt_rg (g 149) 12).2, rfl⟩, fun g g' m _ q => ⟨m, q⟩, fun g g' m _ q => ⟨m, q⟩⟩
  obtain ⟨n, g1, v, F⟩ := q
  obtain ⟨n0, n1, fr, hv, hI, fw, bw⟩ := hq
  dsimp only at n0 n1 fr hv hI fw bw ih ⊢
  obtain ⟨g0, hg0⟩ := hE
  have done : (∀ g, G g → isFC (F g) (-1)) → K (.inl none) 159 g1 := fun hz => by
    refine kk g1 fr (fun g g' m hg hr => ?_) (fun g hg => ?_)
    · obtain ⟨m', hr'⟩ := fw g g' m hg hr
      obtain ⟨i1, i2, -, i4⟩ := hI g hg
      have e : g' = F g := by
        cases m' with
        | zero => exact hr'.1
        | succ m' =>
          obtain ⟨i, j, a, c, d, e, _⟩ := hr'
          have := isFC_u i1.2.1.1.2 (hz g hg) e
          omega
      rw [e]
      refine ⟨?_, i2, i4⟩
      obtain ⟨w1, ⟨w2, w3, w4, w5⟩, w6⟩ := i1
      refine ⟨w1, ⟨w2, w3, by omega, fun x a c => ?_⟩, w6⟩
      obtain ⟨t1, t2, t3⟩ := w5 x a c
      exact ⟨t1, by omega, t3⟩
    · obtain ⟨m', hr'⟩ := bw g (F g) 0 hg ⟨rfl, hz g hg⟩
      exact ⟨m', _, hr'⟩
  refine a_il3 dX6_ramAll_2 ?_
  refine aw_bipush dX6_ramAll_3 (by decide) ?_
  refine aw_icmp_ge 44 dX6_ramAll_5 (by decide) (fun c5 => ?_) (fun c5 => ?_)
  · refine aw_vret dX6_ramAll_44 rfl ?_
    refine done (fun g hg => ?_)
    obtain ⟨i1, i2, i3, -⟩ := hI g hg
    exact FC_none i1.2.1.1.2 (by omega)
  · have n12 : n < 12 := by omega
    obtain ⟨j1, ⟨j2, j3, j4, j5⟩, -⟩ := hI g0 hg0
    have e3 : g1 b 3 = F g0 141 3 := j2.1.2.2.2.1
    have e8 : g1 b 8 = F g0 141 7 := j2.1.2.2.2.2.2.2.2
    refine a_al0 (by decide) dX6_ramAll_8 ?_
    refine a_al1 (am_sh_rg hb) dX6_ramAll_9 ?_
    refine aw_callV 2 0 0 dX6_ramAll_10 yw_X6_firstClash ml_X6_109 in_X6_firstClash se_X6_firstClash (ci := 5) rfl at_25 (as := [_]) rfl rfl ⟨by decide, by decide, by decide, Nat.le_of_ble_eq_true rfl⟩ ?_
    refine ac_firstClashC hB (by rw [e3]; exact j1.2.1.1) (fun x hx => ?_)
    have hxx : ∀ g, G g → isFC (F g) x := fun g hg => by
      obtain ⟨i1, ⟨i2, i3, -, i5⟩, -⟩ := hI g hg
      exact (L_fc i1.1 i2 i3 i5).mp hx
    by_cases ex : x = -1
    · refine am_ci ?_
      refine a_is4 rfl rfl dX6_ramAll_13 ?_
      refine a_il4 dX6_ramAll_15 ?_
      refine aw_iconst dX6_ramAll_17 (by decide) ?_
      refine aw_icmp_ne 22 dX6_ramAll_18 (by decide) (fun c18 => ?_) (fun c18 => ?_)
      · exfalso; omega
      · refine aw_vret dX6_ramAll_21 rfl ?_
        rw [ex] at hxx
        exact done hxx
    · rcases hx with ⟨i, j, i0, ij, jn, cl, ex2, no⟩ | ⟨ey, _⟩
      · rw [e3] at jn
        have nn := j1.2.1.1
        have d1 : x.tdiv 12 = i := by rw [Int.tdiv_eq_ediv_of_nonneg (by omega)]; omega
        have d2 : x.tmod 12 = j := by rw [Int.tmod_eq_emod_of_nonneg (by omega)]; omega
        refine am_ci ?_
        refine a_is4 rfl rfl dX6_ramAll_13 ?_
        refine a_il4 dX6_ramAll_15 ?_
        refine aw_iconst dX6_ramAll_17 (by decide) ?_
        refine aw_icmp_ne 22 dX6_ramAll_18 (by decide) (fun c18 => ?_) (fun c18 => ?_)
        · refine a_al0 (by decide) dX6_ramAll_22 ?_
          refine a_al1 (am_sh_rg hb) dX6_ramAll_23 ?_
          refine a_il2 dX6_ramAll_24 ?_
          refine a_il4 dX6_ramAll_25 ?_
          refine aw_bipush dX6_ramAll_27 (by decide) ?_
          refine aw_idiv dX6_ramAll_29 (by omega) ?_
          rw [d1]
          refine a_il4 dX6_ramAll_30 ?_
          refine aw_bipush dX6_ramAll_32 (by decide) ?_
          refine aw_irem dX6_ramAll_34 (by omega) ?_
          rw [d2]
          refine aw_callV 3 0 0 dX6_ramAll_35 yw_X6_collide ml_X6_113 in_X6_collide se_X6_collide (ci := 5) rfl at_25 (as := [_, _, _, _]) rfl rfl ⟨by decide, by decide, by decide, Nat.le_of_ble_eq_true rfl⟩ ?_
          obtain ⟨si, -⟩ := j2.2.1 i i0 (by omega)
          obtain ⟨sj, -⟩ := j2.2.1 j (by omega) (by omega)
          obtain ⟨r1, r2, r3, r4⟩ := j1.2.1
          obtain ⟨ri1, ri2, ri3⟩ := r4 i i0 (by omega)
          obtain ⟨rj1, rj2, rj3⟩ := r4 j (by omega) (by omega)
          refine ac_collide hB (by omega) (by omega) (by omega) ?_ ?_ (by rw [j2.2.2.2.2.1]; omega) (by rw [e8]; exact r2) ?_
          · unfold cRs
            rw [si 3 (by decide) (by decide), si 4 (by decide) (by decide), si 5 (by decide) (by decide)]
            exact ⟨ri1, by omega, ri3⟩
          · unfold cRs
            rw [sj 3 (by decide) (by decide), sj 4 (by decide) (by decide), sj 5 (by decide) (by decide)]
            exact ⟨rj1, by omega, rj3⟩
          refine am_cv ?_
          refine a_iiR3 (by omega) rfl rfl dX6_ramAll_38 ?_
          refine aw_goto 2 dX6_ramAll_41 (by decide) ?_
          have fcs : ∀ g, G g → isFC (F g) (12 * i + j) := fun g hg => by
            have := hxx g hg
            rw [show x = 12 * i + j by omega] at this
            exact this
          have n3 : ∀ g, G g → j < F g 141 3 := fun g hg => by
            have a := (hI g hg).2.1.1.1.2.2.2.1
            omega
          refine ih (n + 1, cStH g1 b i j p, (0, x), fun g => stH (F g) i j p) ⟨by dsimp only; omega, by dsimp only; omega, ?_, rfl, fun g hg => ?_, fun g g' m hg hr => ?_, fun g g' m hg hr => ?_⟩ (by dsimp only; omega)
          · refine coFr_trans fr (fun k y a1 a2 a3 a4 a5 a6 => ?_)
            exact cSt_f hB (by omega) ⟨by omega, by omega, a3⟩ a1 a5 (by omega)
          · obtain ⟨i1, ⟨i2, i3, i4, i5⟩, i6, i7⟩ := hI g hg
            dsimp only
            have cl2 : mCl (F g) i j := isFC_cl i1.2.1.1.2 i0 ij (n3 g hg) (fcs g hg)
            have ct := cnt_st (p := p) i0 ij (by omega) cl2
            refine ⟨W_ram (c := 12 - (n + 1)) (by rw [show (12 : Int) - (n + 1) + 1 = 12 - n by omega]; exact i1) i0 ij (n3 g hg), L_ram hB i1.1 i1.2.2.2.1.1 i1.2.1 i0 ij (n3 g hg) i2 i3 i4 i5, by omega, ?_⟩
            rw [stH_d i1.2.1.2.1.1 i0 (by omega) (by decide)]
            exact i7
          · dsimp only
            obtain ⟨m', hr'⟩ := fw g g' m hg hr
            cases m' with
            | zero =>
              have := isFC_u (hI g hg).1.2.1.1.2 hr'.2 (fcs g hg)
              omega
            | succ m' =>
              obtain ⟨a, c, a0, ac, cn, q1, q2⟩ := hr'
              have u := isFC_u (hI g hg).1.2.1.1.2 q1 (fcs g hg)
              have l := (hI g hg).1.2.1.1.2
              rw [show a = i by omega, show c = j by omega] at q2
              exact ⟨m', q2⟩
          · dsimp only at hr
            exact bw g g' (m + 1) hg ⟨i, j, i0, ij, n3 g hg, fcs g hg, hr⟩
        · exfalso; omega
      · exact absurd ey ex
