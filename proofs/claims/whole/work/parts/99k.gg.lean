/-! the class: orders of its text, names -/
theorem ls_d {c : Int} (a : ¬ c = 97) (b : ¬ c = 104) (d : ¬ c = 108) (e : ¬ c = 114) : (if (97 : Int) = c then (43 : Int) else if (104 : Int) = c then 49 else if (108 : Int) = c then 45 else if (114 : Int) = c then 47 else 51) = 51 := by
  rw [if_neg (fun q => a q.symm), if_neg (fun q => b q.symm), if_neg (fun q => d q.symm), if_neg (fun q => e q.symm)]
theorem ac_letterOfC {c : Int} {h : AH} {K : AO → Nat → AH → Prop} (k : K (.inl (some (0, if lt c = 0 then -1 else lt c))) 159 h) : AC mX0_letterOf 1 0 0 159 [(0, c)] h K := by
  refine ac_of (ls := [(0, c)]) pn_X0 rfl (Nat.le_of_ble_eq_true rfl) rfl ?_
  refine a_il0 dX0_letterOf_0 ?_
  by_cases a : c = 97
  · subst a
    refine aw_lsw 44 dX0_letterOf_1 rfl rfl (by decide) ?_
    refine aw_iconst dX0_letterOf_44 (by decide) ?_
    refine aw_iret dX0_letterOf_45 rfl ?_
    exact k
  · by_cases b : c = 104
    · subst b
      refine aw_lsw 50 dX0_letterOf_1 rfl rfl (by decide) ?_
      refine aw_iconst dX0_letterOf_50 (by decide) ?_
      refine aw_iret dX0_letterOf_51 rfl ?_
      exact k
    · by_cases d : c = 108
      · subst d
        refine aw_lsw 46 dX0_letterOf_1 rfl rfl (by decide) ?_
        refine aw_iconst dX0_letterOf_46 (by decide) ?_
        refine aw_iret dX0_letterOf_47 rfl ?_
        exact k
      · by_cases e : c = 114
        · subst e
          refine aw_lsw 48 dX0_letterOf_1 rfl rfl (by decide) ?_
          refine aw_iconst dX0_letterOf_48 (by decide) ?_
          refine aw_iret dX0_letterOf_49 rfl ?_
          exact k
        · have z : lt c = 0 := by
            unfold lt
            rw [if_neg a, if_neg d, if_neg e, if_neg b]
          rw [if_pos z] at k
          refine aw_lsw 52 dX0_letterOf_1 rfl (ls_d a b d e) (by decide) ?_
          refine aw_iconst dX0_letterOf_52 (by decide) ?_
          refine aw_iret dX0_letterOf_53 rfl ?_
          exact k
/-- what names need of a sheet that takes orders -/
def NS (h g : AH) : Prop := (0 ≤ g 141 3 ∧ g 141 3 ≤ 12) ∧ h 15 3 = g 141 3 ∧ ∀ i, 0 ≤ i → i < g 141 3 → nmOk (fun k => g 141 (46 + 25 * i + (17 + k))) ∧ h 16 i = encN (fun k => g 141 (46 + 25 * i + (17 + k))) 8 ∧ ∀ f, cFl h 15 f i ↔ fSail g f i
theorem NS_of {h g : AH} (hS : SR h 15 g) : NS h g := ⟨hS.2.2.2.1.2.2.1, hS.1.1.2.2.2.1, fun i a b => ⟨(hS.2.2.2.2.2.2.2.1 i a b).1, hS.2.2.1.2.1 i a b, fun f => SR_fl hS ⟨a, b⟩⟩⟩
theorem NS_eq {h h' g : AH} (e3 : h' 15 3 = h 15 3) (e6 : ∀ x, h' 16 x = h 16 x) (e7 : ∀ x, h' 17 x = h 17 x) (hN : NS h g) : NS h' g := by
  obtain ⟨a, b, c⟩ := hN
  refine ⟨a, by rw [e3]; exact b, fun i i0 i1 => ?_⟩
  obtain ⟨c1, c2, c3⟩ := c i i0 i1
  refine ⟨c1, by rw [e6]; exact c2, fun f => ?_⟩
  have q := c3 f
  unfold cFl at q ⊢
  rw [show h' (15 + 2) (i * 11 + 0) = h (15 + 2) (i * 11 + 0) from e7 _, show h' (15 + 2) (i * 11 + 1) = h (15 + 2) (i * 11 + 1) from e7 _]
  exact q
/-- the ship that is named, on both sides -/
theorem named_X {S : Int → Int} {L p f x : Int} {h g : AH} (hT : TxS S L) (hp : 0 ≤ p ∧ p ≤ L) (hk : kP S p = 0) (h8 : bP S p - aP S p ≤ 8) (hS : NS h g) (hU : UN g) (hx : isFst (fun j => h 16 j = encN (nmv S p) 8) (g 141 3) x) : (¬ x = -1 ∧ fSail g f x → isFst (nmP S p (g 141) f) (g 141 3) x) ∧ (¬ (¬ x = -1 ∧ fSail g f x) → isFst (nmP S p (g 141) f) (g 141 3) (-1)) ∧ (¬ x = -1 → 0 ≤ x ∧ x < g 141 3) := by
  have nq : ∀ j, 0 ≤ j → j < g 141 3 → (h 16 j = encN (nmv S p) 8 ↔ nmQ S p (g 141) (46 + 25 * j + 17)) := fun j a b => by
    have s9 := (hS.2.2 j a b).1
    have s8 : h 16 j = encN (fun k => g 141 (46 + 25 * j + (17 + k))) 8 := (hS.2.2 j a b).2.1
    have ee : (fun y => g 141 (46 + 25 * j + (17 + y))) = fun y => g 141 (46 + 25 * j + 17 + y) := funext (fun y => by congr 1; omega)
    rw [ee] at s8 s9
    rw [s8]
    exact nm_iff hT hp hk h8 s9
  have un : ∀ i j, 0 ≤ i → i < g 141 3 → 0 ≤ j → j < g 141 3 → h 16 i = h 16 j → i = j := fun i j a b c d e => by
    rw [show h 16 i = encN (fun k => g 141 (46 + 25 * i + (17 + k))) 8 from (hS.2.2 i a b).2.1, show h 16 j = encN (fun k => g 141 (46 + 25 * j + (17 + k))) 8 from (hS.2.2 j c d).2.1] at e
    by_cases z : i < j
    · exact absurd e (hU i j a z d)
    · by_cases y : j < i
      · exact absurd e.symm (hU j i c y b)
      · omega
  unfold isFst at hx
  refine ⟨fun ⟨a, b⟩ => ?_, fun a => ?_, fun a => ?_⟩
  · rcases hx with ⟨x0, x1, x2, -⟩ | ⟨c, -⟩
    · refine Or.inl ⟨x0, x1, ⟨b, (nq x x0 x1).mp x2⟩, fun j j0 jx q => ?_⟩
      have e := (nq j j0 (by omega)).mpr q.2
      have := un j x j0 (by omega) x0 x1 (by rw [e]; exact x2.symm)
      omega
    · exact absurd c a
  · refine Or.inr ⟨rfl, fun j j0 j1 q => ?_⟩
    have e := (nq j j0 j1).mpr q.2
    rcases hx with ⟨x0, x1, x2, -⟩ | ⟨c, d⟩
    · have := un j x j0 j1 x0 x1 (by rw [e]; exact x2.symm)
      subst this
      exact a ⟨by omega, q.1⟩
    · exact d j j0 j1 e
  · rcases hx with ⟨x0, x1, -⟩ | ⟨c, -⟩
    · exact ⟨x0, x1⟩
    · exact absurd c a
theorem ac_clearOrders {f : Int} {h g : AH} {K : AO → Nat → AH → Prop} (hS : SR h 15 g) (k : ∀ h', (∀ k x, ¬ (k = 18 ∧ 0 ≤ x ∧ x < g 141 3 ∧ g 141 (46 + 25 * x + 0) = f) → h' k x = h k x) → (∀ i, 0 ≤ i → i < g 141 3 → g 141 (46 + 25 * i + 0) = f → h' 18 i = 37449) → K (.inl none) 159 h') : AC mX0_clearOrders 2 0 0 159 [(2, 15), (0, f)] h K := by
  have n3 := hS.2.2.2.1.2.2.1
  have d3 : h 15 3 = g 141 3 := hS.1.1.2.2.2.1
  refine ac_of (ls := [(2, 15), (0, f), (9, 0)]) pn_X0 rfl (Nat.le_of_ble_eq_true rfl) rfl ?_
  refine aw_iconst dX0_clearOrders_0 (by decide) ?_
  refine a_is2 rfl rfl dX0_clearOrders_1 ?_
  refine aw_loop (fun q : Int × AH => 0 ≤ q.1 ∧ q.1 ≤ g 141 3 ∧ (∀ k x, ¬ (k = 18 ∧ 0 ≤ x ∧ x < q.1 ∧ g 141 (46 + 25 * x + 0) = f) → q.2 k x = h k x) ∧ ∀ i, 0 ≤ i → i < q.1 → g 141 (46 + 25 * i + 0) = f → q.2 18 i = 37449) (fun q => (g 141 3 - q.1).toNat) (fun q => AW mX0_clearOrders 2 0 0 K 159 2 [(2, 15), (0, f), (0, q.1)] [] q.2) (fun q hq ih => ?_) (0, h) ⟨by dsimp only; omega, n3.1, fun _ _ _ => rfl, fun i a b => by dsimp only at b; omega⟩
  obtain ⟨i, h1⟩ := q
  obtain ⟨i0, i1, fr, hv⟩ := hq
  dsimp only at i0 i1 fr hv ih ⊢
  have e3 : h1 15 3 = g 141 3 := by rw [fr 15 3 (by omega), d3]
  refine a_il2 dX0_clearOrders_2 ?_
  refine a_al0 (by decide) dX0_clearOrders_3 ?_
  refine aw_get 3 dX0_clearOrders_4 fl_X0_114 at_15 rfl ?_
  refine aw_icmp_ge 34 dX0_clearOrders_7 (by decide) (fun c7 => ?_) (fun c7 => ?_)
  · refine aw_vret dX0_clearOrders_34 rfl ?_
    have ie : i = g 141 3 := by omega
    rw [ie] at fr hv
    exact k h1 fr hv
  · have s0 : h1 17 (i * 11 + 0) = g 141 (46 + 25 * i + 0) := by
      rw [fr 17 _ (by omega)]
      exact (hS.1.2.1 i i0 (by omega)).1 0 (by decide) (by decide)
    refine a_al0 (by decide) dX0_clearOrders_10 ?_
    refine a_il2 dX0_clearOrders_11 ?_
    refine aw_iconst dX0_clearOrders_12 (by decide) ?_
    refine aw_callV 1 0 0 dX0_clearOrders_13 yw_X3_get ml_X0_185 in_X3_get se_X3_get (ci := 2) rfl at_15 (as := [_, _]) rfl rfl ⟨by decide, by decide, by decide, Nat.le_of_ble_eq_true rfl⟩ ?_
    refine ac_get (Or.inr rfl) (by omega) (by decide) ?_
    rw [show h1 (15 + 2) (i * 11 + 0) = g 141 (46 + 25 * i + 0) from s0]
    refine am_ci ?_
    refine a_il1 dX0_clearOrders_16 ?_
    refine aw_icmp_ne 28 dX0_clearOrders_17 (by decide) (fun c17 => ?_) (fun c17 => ?_)
    · have ne : ¬ g 141 (46 + 25 * i + 0) = f := by assumption
      refine a_iiR2 (by omega) rfl rfl dX0_clearOrders_28 ?_
      refine aw_goto 2 dX0_clearOrders_31 (by decide) ?_
      refine ih (i + 1, h1) ⟨by dsimp only; omega, by dsimp only; omega, fun k x a => fr k x (fun z => a ⟨z.1, z.2.1, by dsimp only; omega, z.2.2.2⟩), fun j j0 j1 q => ?_⟩ (by dsimp only; omega)
      dsimp only at j1 ⊢
      by_cases z : j = i
      · subst z
        exact absurd q ne
      · exact hv j j0 (by omega) q
    · have ye : g 141 (46 + 25 * i + 0) = f := by omega
      refine a_al0 (by decide) dX0_clearOrders_20 ?_
      refine aw_getR (r := 18) 11 rfl dX0_clearOrders_21 fl_X0_188 at_15 rfl rfl ?_
      refine a_il2 dX0_clearOrders_24 ?_
      refine aw_ldc dX0_clearOrders_25 kc_X0_193 (by decide) ?_
      refine aw_iast dX0_clearOrders_27 ar_18 (by omega) ?_
      refine a_iiR2 (by omega) rfl rfl dX0_clearOrders_28 ?_
      refine aw_goto 2 dX0_clearOrders_31 (by decide) ?_
      refine ih (i + 1, up h1 18 i 37449) ⟨by dsimp only; omega, by dsimp only; omega, fun k x a => ?_, fun j j0 j1 q => ?_⟩ (by dsimp only; omega)
      · dsimp only at a ⊢
        rw [up_ne (fun z => a ⟨z.1, by omega, by omega, by rw [z.2]; exact ye⟩), fr k x (fun z => a ⟨z.1, z.2.1, by omega, z.2.2.2⟩)]
      · dsimp only at j1 ⊢
        by_cases z : j = i
        · rw [z, up_at]
        · rw [up_ne (by omega)]
          exact hv j j0 (by omega) q
