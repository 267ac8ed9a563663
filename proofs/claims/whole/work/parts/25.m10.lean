/-! the model: rams of a pulse -/
theorem st6_f {h : AH} {i j p li lj k x : Int} (h1 : k ≠ 140) (h2 : k ≠ 141) : st6 h i j p li lj k x = h k x := by
  unfold st6
  split <;> simp (disch := omega) only [up_ne]
theorem st6_a {h : AH} {i j p li lj x : Int} (h7 : 0 ≤ h 141 7) (h1 : x < 346) (h2 : x ≠ 7) : st6 h i j p li lj 141 x = h 141 x := by
  unfold st6
  split <;> simp (disch := omega) only [up_ne]
theorem st6_7 {h : AH} {i j p li lj : Int} : st6 h i j p li lj 141 7 = if h 141 7 = 30 then 30 else h 141 7 + 1 := by
  unfold st6
  split
  · rename_i q; rw [up_ne (by omega), q]
  · rw [up_at]
theorem st6_r {h : AH} {i j p li lj : Int} : st6 h i j p li lj 140 24 = h 140 24 + 1 := by
  unfold st6
  split <;> simp (disch := omega) only [up_at, up_ne]
theorem st5_f {h : AH} {i j p k x : Int} (h1 : k ≠ 154) : st5 h i j p k x = h k x := by
  unfold st5
  split
  · rw [up_ne (by omega)]
  · rfl
theorem st4_f {h : AH} {i j k x : Int} (h1 : k ≠ 149) : st4 h i j k x = h k x := by
  unfold st4
  rw [up_ne (by omega), up_ne (by omega)]
theorem st3_f {h : AH} {i j k x : Int} (h1 : k ≠ 152) : st3 h i j k x = h k x := by
  unfold st3
  split
  · rfl
  · rw [up_ne (by omega)]
theorem st2_f {h : AH} {i j k x : Int} (h1 : k ≠ 152) : st2 h i j k x = h k x := by
  unfold st2
  split
  · rfl
  · rw [up_ne (by omega)]
theorem st1_f {h : AH} {i j li lj k x : Int} (h1 : ¬ (k = 141 ∧ (x = 46 + 25 * i + 4 ∨ x = 46 + 25 * j + 4 ∨ x = 46 + 25 * i + 8 ∨ x = 46 + 25 * j + 8))) : st1 h i j li lj k x = h k x := by
  unfold st1
  simp (disch := omega) only [up_ne]
/-- rows of ships behind a ram: all that is not struck -/
theorem stH_a {h : AH} {i j p x : Int} (h7 : 0 ≤ h 141 7) (hi : 0 ≤ i) (hj : 0 ≤ j) (h1 : x < 346) (h2 : x ≠ 7) (h3 : ¬ (x = 46 + 25 * i + 4 ∨ x = 46 + 25 * j + 4 ∨ x = 46 + 25 * i + 8 ∨ x = 46 + 25 * j + 8)) : stH h i j p 141 x = h 141 x := by
  unfold stH
  rw [st6_a ?_ h1 h2, st5_f (by decide), st4_f (by decide), st3_f (by decide), st2_f (by decide), st1_f (by omega)]
  rw [st5_f (by decide), st4_f (by decide), st3_f (by decide), st2_f (by decide), st1_f (by omega)]
  exact h7
theorem stH_hi {h : AH} {i j p : Int} (h7 : 0 ≤ h 141 7) (hi : 0 ≤ i ∧ i ≤ 11) (hj : 0 ≤ j ∧ j ≤ 11) (hij : i ≠ j) : stH h i j p 141 (46 + 25 * i + 4) = h 141 (46 + 25 * i + 4) - mLoss h i j ∧ stH h i j p 141 (46 + 25 * j + 4) = h 141 (46 + 25 * j + 4) - mLoss h j i ∧ stH h i j p 141 (46 + 25 * i + 8) = 0 ∧ stH h i j p 141 (46 + 25 * j + 8) = 0 := by
  unfold stH
  have e7 : 0 ≤ st5 (st4 (st3 (st2 (st1 h i j (mLoss h i j) (mLoss h j i)) i j) i j) i j) i j p 141 7 := by
    rw [st5_f (by decide), st4_f (by decide), st3_f (by decide), st2_f (by decide), st1_f (by omega)]
    exact h7
  refine ⟨?_, ?_, ?_, ?_⟩ <;>
  · rw [st6_a e7 (by omega) (by omega), st5_f (by decide), st4_f (by decide), st3_f (by decide), st2_f (by decide)]
    unfold st1
    simp (disch := omega) only [up_at, up_ne]
theorem stH_149 {h : AH} {i j p x : Int} : stH h i j p 149 x = if x = j then (if mG1 h i j ∧ ¬ h 141 (46 + 25 * j + 5) ≤ h 141 (46 + 25 * i + 5) then 1 else 0) else if x = i then (if mG1 h i j ∧ h 141 (46 + 25 * j + 5) ≤ h 141 (46 + 25 * i + 5) then 1 else 0) else h 149 x := by
  unfold stH
  rw [st6_f (by decide) (by decide), st5_f (by decide)]
  obtain ⟨g, hg⟩ : ∃ g, g = st3 (st2 (st1 h i j (mLoss h i j) (mLoss h j i)) i j) i j := ⟨_, rfl⟩
  have e1 : ∀ y, g 149 y = h 149 y := fun y => by rw [hg, st3_f (by decide), st2_f (by decide), st1_f (by omega)]
  have e2 : ∀ y, g 150 y = h 150 y := fun y => by rw [hg, st3_f (by decide), st2_f (by decide), st1_f (by omega)]
  have e3 : ∀ y, g 151 y = h 151 y := fun y => by rw [hg, st3_f (by decide), st2_f (by decide), st1_f (by omega)]
  have e4 : g 141 (46 + 25 * i + 5) = h 141 (46 + 25 * i + 5) := by rw [hg, st3_f (by decide), st2_f (by decide), st1_f (by omega)]
  have e5 : g 141 (46 + 25 * j + 5) = h 141 (46 + 25 * j + 5) := by rw [hg, st3_f (by decide), st2_f (by decide), st1_f (by omega)]
  rw [← hg]
  have em : mG1 g i j ↔ mG1 h i j := by
    show (¬ g 149 i = 0 ∧ ¬ g 149 j = 0 ∧ g 150 i = g 150 j ∧ g 151 i = g 151 j) ↔ _
    rw [e1, e1, e2, e2, e3, e3]
  have hif : ∀ (P : Prop) [Decidable P], (if mG1 g i j ∧ P then (1 : Int) else 0) = if mG1 h i j ∧ P then 1 else 0 := fun P _ => by
    by_cases b : mG1 h i j
    · by_cases c : P
      · rw [if_pos ⟨em.mpr b, c⟩, if_pos ⟨b, c⟩]
      · rw [if_neg (fun q => c q.2), if_neg (fun q => c q.2)]
    · rw [if_neg (fun q => b (em.mp q.1)), if_neg (fun q => b q.1)]
  unfold st4
  rw [e4, e5]
  unfold up
  by_cases a : x = j
  · rw [if_pos ⟨rfl, a⟩, if_pos a]
    exact hif _
  · rw [if_neg (fun q => a q.2), if_neg a]
    by_cases b : x = i
    · rw [if_pos ⟨rfl, b⟩, if_pos b]
      exact hif _
    · rw [if_neg (fun q => b q.2), if_neg b, e1]
theorem stH_24 {h : AH} {i j p : Int} : stH h i j p 140 24 = h 140 24 + 1 := by
  unfold stH
  rw [st6_r, st5_f (by decide), st4_f (by decide), st3_f (by decide), st2_f (by decide), st1_f (by omega)]
theorem stH_7 {h : AH} {i j p : Int} (hi : 0 ≤ i) (hj : 0 ≤ j) : stH h i j p 141 7 = if h 141 7 = 30 then 30 else h 141 7 + 1 := by
  unfold stH
  rw [st6_7, st5_f (by decide), st4_f (by decide), st3_f (by decide), st2_f (by decide), st1_f (by omega)]
/-- how many are going -/
def cnt (g : Int → Int) : Nat → Int
  | 0 => 0
  | m + 1 => cnt g m + (if g m = 0 then 0 else 1)
theorem cnt_rg (g : Int → Int) : ∀ m : Nat, 0 ≤ cnt g m ∧ cnt g m ≤ m
  | 0 => ⟨Int.le_refl _, Int.le_refl _⟩
  | m + 1 => by
    have := cnt_rg g m
    unfold cnt
    split <;> omega
theorem cnt_eq {g g' : Int → Int} : ∀ m : Nat, (∀ x : Int, 0 ≤ x → x < m → g' x = g x) → cnt g' m = cnt g m
  | 0, _ => rfl
  | m + 1, h => by
    unfold cnt
    rw [cnt_eq m (fun x a b => h x a (by omega)), h m (by omega) (by omega)]
theorem cnt_one {g g' : Int → Int} {i : Int} (hi : 0 ≤ i) : ∀ m : Nat, i < m → (∀ x : Int, 0 ≤ x → x < m → x ≠ i → g' x = g x) → cnt g' m + (if g i = 0 then 0 else 1) = cnt g m + (if g' i = 0 then 0 else 1)
  | 0, a, _ => by omega
  | m + 1, a, h => by
    unfold cnt
    by_cases e : i = m
    · have e1 := cnt_eq (g := g) (g' := g') m (fun x b c => h x b (by omega) (by omega))
      rw [e1, ← e]
      omega
    · have e1 := cnt_one hi m (by omega) (fun x b c d => h x b (by omega) d)
      rw [h m (by omega) (by omega) (by omega)]
      omega
theorem bi_0 {x : Int} (h : x = 0) : (if x = 0 then (0 : Int) else 1) = 0 := if_pos h
theorem bi_1 {x : Int} (h : ¬ x = 0) : (if x = 0 then (0 : Int) else 1) = 1 := if_neg h
theorem bi_r (x : Int) : 0 ≤ (if x = 0 then (0 : Int) else 1) ∧ (if x = 0 then (0 : Int) else 1) ≤ 1 := by split <;> decide
theorem cnt_st {h : AH} {i j p : Int} (hi : 0 ≤ i) (hij : i < j) (hj : j ≤ 11) (hc : mCl h i j) : cnt (stH h i j p 149) 12 + 1 ≤ cnt (h 149) 12 := by
  obtain ⟨G, hG⟩ : ∃ G : Int → Int, ∀ x, G x = if x = i then stH h i j p 149 i else h 149 x := ⟨fun x => if x = i then stH h i j p 149 i else h 149 x, fun _ => rfl⟩
  have s1 := cnt_one (g := h 149) (g' := G) hi 12 (by omega) (fun x _ _ c => by rw [hG, if_neg c])
  have s2 := cnt_one (g := G) (g' := stH h i j p 149) (i := j) (by omega) 12 (by omega) (fun x _ _ c => by
    by_cases e : x = i
    · rw [hG, if_pos e, e]
    · rw [hG, if_neg e, stH_149, if_neg c, if_neg e])
  rw [hG i, if_pos rfl] at s1
  rw [hG j, if_neg (show ¬ j = i by omega)] at s2
  have hgo : ¬ h 149 i = 0 ∨ ¬ h 149 j = 0 := by
    rcases hc.2.2 with q | q | q
    · exact Or.inl q.1
    · exact Or.inl q.1.1
    · rcases q.2 with q | q
      · exact Or.inl q.1
      · exact Or.inr q.1
  have vi : stH h i j p 149 i = if mG1 h i j ∧ h 141 (46 + 25 * j + 5) ≤ h 141 (46 + 25 * i + 5) then 1 else 0 := by rw [stH_149, if_neg (by omega), if_pos rfl]
  have vj : stH h i j p 149 j = if mG1 h i j ∧ ¬ h 141 (46 + 25 * j + 5) ≤ h 141 (46 + 25 * i + 5) then 1 else 0 := by rw [stH_149, if_pos rfl]
  by_cases g : mG1 h i j
  · have b1 := bi_1 g.1
    have b2 := bi_1 g.2.1
    by_cases m : h 141 (46 + 25 * j + 5) ≤ h 141 (46 + 25 * i + 5)
    · rw [if_neg (fun q => q.2 m)] at vj
      have b3 := bi_0 vj
      have b4 := bi_r (stH h i j p 149 i)
      omega
    · rw [if_neg (fun q => m q.2)] at vi
      have b3 := bi_0 vi
      have b4 := bi_r (stH h i j p 149 j)
      omega
  · rw [if_neg (fun q => g q.1)] at vi
    rw [if_neg (fun q => g q.1)] at vj
    have b3 := bi_0 vi
    have b4 := bi_0 vj
    have b5 := bi_r (h 149 i)
    have b6 := bi_r (h 149 j)
    rcases hgo with q | q
    · have b7 := bi_1 q
      omega
    · have b7 := bi_1 q
      omega
def RR : Nat → Int → AH → AH → Prop
  | 0, _, h, h' => h' = h ∧ isFC h (-1)
  | m + 1, p, h, h' => ∃ i j, 0 ≤ i ∧ i < j ∧ j < h 141 3 ∧ isFC h (12 * i + j) ∧ RR m p (stH h i j p) h'
def rOk (h : AH) (c : Int) : Prop := (0 ≤ h 141 3 ∧ h 141 3 ≤ 12) ∧ (0 ≤ h 141 7 ∧ h 141 7 ≤ 30) ∧ (0 ≤ h 140 24 ∧ h 140 24 + c ≤ 1000000) ∧ ∀ x, 0 ≤ x → x < h 141 3 → (0 ≤ h 141 (46 + 25 * x + 3) ∧ h 141 (46 + 25 * x + 3) ≤ 7) ∧ (-100000 + 40 * c ≤ h 141 (46 + 25 * x + 4) ∧ h 141 (46 + 25 * x + 4) ≤ 1000) ∧ (0 ≤ h 141 (46 + 25 * x + 5) ∧ h 141 (46 + 25 * x + 5) ≤ 9)
theorem rOk_st {h : AH} {i j p c : Int} (hi : 0 ≤ i) (hij : i < j) (hj : j < h 141 3) (ho : rOk h (c + 1)) : rOk (stH h i j p) c := by
  obtain ⟨o1, o2, o3, o4⟩ := ho
  have e3 : stH h i j p 141 3 = h 141 3 := stH_a o2.1 (by omega) (by omega) (by omega) (by omega) (by omega)
  unfold rOk
  rw [e3, stH_7 (by omega) (by omega), stH_24]
  refine ⟨o1, by split <;> omega, by omega, fun x x0 x1 => ?_⟩
  obtain ⟨q1, q2, q3⟩ := o4 x x0 x1
  obtain ⟨a1, a2, a3⟩ := o4 i hi (by omega)
  obtain ⟨b1, b2, b3⟩ := o4 j (by omega) hj
  have l1 := mLoss_rg (i := i) b3
  have l2 := mLoss_rg (i := j) a3
  have hh := stH_hi (p := p) o2.1 (i := i) (j := j) (by omega) (by omega) (by omega)
  rw [stH_a o2.1 (by omega) (by omega) (by omega) (by omega) (by omega), stH_a (x := 46 + 25 * x + 5) o2.1 (by omega) (by omega) (by omega) (by omega) (by omega)]
  refine ⟨q1, ?_, q3⟩
  by_cases e : x = i
  · rw [e, hh.1]; rw [e] at q2; omega
  · by_cases e2 : x = j
    · rw [e2, hh.2.1]; rw [e2] at q2; omega
    · rw [stH_a o2.1 (by omega) (by omega) (by omega) (by omega) (by omega)]; omega
theorem pu_B66 {p : Int} {K : AO → Nat → AH → Prop} (hp : 0 ≤ p ∧ p ≤ 5) : ∀ (m : Nat) (h : AH) (x : Int), isFC h x → cnt (h 149) 12 ≤ m → rOk h m → (∀ m' h', RR m' p h h' → AW mX9_pulses 6 0 0 K 159 92 [(2, 140), (0, p), (0, -1)] [] h') → AW mX9_pulses 6 0 0 K 159 66 [(2, 140), (0, p), (0, x)] [] h := by
  intro m
  induction m with
  | zero =>
    intro h x hx hc ho k
    have o3 := ho.1
    rcases hx with ⟨i, j, i0, ij, jn, cl, rfl, hno⟩ | ⟨rfl, hno⟩
    · have := cnt_st (p := p) i0 ij (by omega) cl
      have := (cnt_rg (stH h i j p 149) 12).1
      omega
    · skip
      refine a_il2 dX9_pulses_66 ?_
      refine aw_iconst dX9_pulses_67 (by decide) ?_
      refine aw_icmp_eq 92 dX9_pulses_68 (by decide) (fun c68 => ?_) (fun c68 => ?_)
      · skip
        exact k 0 h ⟨rfl, Or.inr ⟨rfl, hno⟩⟩
      · exfalso; omega
  | succ m ih =>
    intro h x hx hc ho k
    have o3 := ho.1
    have hx2 := hx
    rcases hx with ⟨i, j, i0, ij, jn, cl, rfl, hno⟩ | ⟨rfl, hno⟩
    · have hd := cnt_st (p := p) i0 ij (by omega) cl
      have e1 : (12 * i + j).tdiv 12 = i := by rw [Int.tdiv_eq_ediv_of_nonneg (by omega)]; omega
      have e2 : (12 * i + j).tmod 12 = j := by rw [Int.tmod_eq_emod_of_nonneg (by omega)]; omega
      obtain ⟨a1, a2, a3⟩ := ho.2.2.2 i i0 (by omega)
      obtain ⟨b1, b2, b3⟩ := ho.2.2.2 j (by omega) jn
      have o1 := ho.2.1
      have o2 := ho.2.2.1
      have hR := rOk_st (p := p) i0 ij jn (c := m) (by have := ho; rwa [show ((m + 1 : Nat) : Int) = (m : Int) + 1 by omega] at this)
      refine a_il2 dX9_pulses_66 ?_
      refine aw_iconst dX9_pulses_67 (by decide) ?_
      refine aw_icmp_eq 92 dX9_pulses_68 (by decide) (fun c68 => ?_) (fun c68 => ?_)
      · exfalso; omega
      · refine a_al0 (by decide) dX9_pulses_71 ?_
        refine a_il2 dX9_pulses_72 ?_
        refine aw_bipush dX9_pulses_73 (by decide) ?_
        refine aw_idiv dX9_pulses_75 (by omega) ?_
        refine a_il2 dX9_pulses_76 ?_
        refine aw_bipush dX9_pulses_77 (by decide) ?_
        refine aw_irem dX9_pulses_79 (by omega) ?_
        refine a_il1 dX9_pulses_80 ?_
        refine aw_callV 4 0 0 dX9_pulses_81 yw_X9_strikes ml_X9_266 in_X9_strikes se_X9_strikes (ci := 8) rfl at_140 (as := [_, _, _]) rfl rfl ⟨by decide, by decide, by decide, Nat.le_of_ble_eq_true rfl⟩ ?_
        rw [e1, e2]
        refine ac_strikes (by omega) (by omega) (by omega) ⟨a1, by omega, a3⟩ ⟨b1, by omega, b3⟩ (by omega) o1 ?_
        refine am_cv ?_
        refine a_al0 (by decide) dX9_pulses_84 ?_
        refine aw_callV 4 0 0 dX9_pulses_85 yw_X9_firstClash ml_X9_263 in_X9_firstClash se_X9_firstClash (ci := 8) rfl at_140 (as := []) rfl rfl ⟨by decide, by decide, by decide, Nat.le_of_ble_eq_true rfl⟩ ?_
        refine ac_firstClash hR.1 (fun y hy => ?_)
        refine am_ci ?_
        try simp (disch := omega) only [up_at, up_ne]
        refine a_is2 rfl rfl dX9_pulses_88 ?_
        refine aw_goto 66 dX9_pulses_89 (by decide) ?_
        exact ih _ y hy (by omega) hR (fun m' h' q => k (m' + 1) h' ⟨i, j, i0, ij, jn, hx2, q⟩)
    · skip
      refine a_il2 dX9_pulses_66 ?_
      refine aw_iconst dX9_pulses_67 (by decide) ?_
      refine aw_icmp_eq 92 dX9_pulses_68 (by decide) (fun c68 => ?_) (fun c68 => ?_)
      · skip
        exact k 0 h ⟨rfl, Or.inr ⟨rfl, hno⟩⟩
      · exfalso; omega
theorem pu_B {p : Int} {v : AV} {h : AH} {K : AO → Nat → AH → Prop} (hp : 0 ≤ p ∧ p ≤ 5) (ho : rOk h 12) (k : ∀ m' h', RR m' p h h' → AW mX9_pulses 6 0 0 K 159 92 [(2, 140), (0, p), (0, -1)] [] h') : AW mX9_pulses 6 0 0 K 159 61 [(2, 140), (0, p), v] [] h := by
  refine a_al0 (by decide) dX9_pulses_61 ?_
  refine aw_callV 4 0 0 dX9_pulses_62 yw_X9_firstClash ml_X9_263 in_X9_firstClash se_X9_firstClash (ci := 8) rfl at_140 (as := []) rfl rfl ⟨by decide, by decide, by decide, Nat.le_of_ble_eq_true rfl⟩ ?_
  refine ac_firstClash ho.1 (fun x hx => ?_)
  refine am_ci ?_
  refine a_is2 rfl rfl dX9_pulses_65 ?_
  exact pu_B66 hp 12 h x hx (cnt_rg _ 12).2 ho k
