/-! the class' sheet and the model's row: a ram keeps them together -/
theorem hit_or {x y f n u : Int} {F : Int → Int} (hf : 0 ≤ f ∧ f ≤ 3) (hF : 0 ≤ F u ∧ F u ≤ 3) (hu : 0 ≤ u ∧ u < n) (hn : n ≤ 12) (hx : bitP x f ↔ ∃ j, 0 ≤ j ∧ j < n ∧ bitP y j ∧ F j = f) : bitP (i_or x (i_shl 1 (F u))) f ↔ ∃ j, 0 ≤ j ∧ j < n ∧ bitP (i_or y (i_shl 1 u)) j ∧ F j = f := by
  rw [bit_iff (by omega), gb_set (by omega) (by omega), ← bit_iff (by omega), hx]
  constructor
  · rintro (⟨j, j0, j1, j2, j3⟩ | q)
    · refine ⟨j, j0, j1, ?_, j3⟩
      rw [bit_iff (by omega), gb_set (by omega) (by omega), ← bit_iff (by omega)]
      exact Or.inl j2
    · refine ⟨u, hu.1, hu.2, ?_, q.symm⟩
      rw [bit_iff (by omega), gb_set (by omega) (by omega)]
      exact Or.inr rfl
  · rintro ⟨j, j0, j1, j2, j3⟩
    rw [bit_iff (by omega), gb_set (by omega) (by omega), ← bit_iff (by omega)] at j2
    rcases j2 with q | q
    · exact Or.inl ⟨j, j0, j1, q, j3⟩
    · rw [q] at j3
      exact Or.inr j3.symm
theorem cSt_b {h : AH} {b u v p x : Int} (hB : b = 5 ∨ b = 15) (hx : x ≠ 8) : cStH h b u v p b x = h b x := cSt_f hB (by omega) (by omega) (by omega) (by omega) (by omega)
theorem cSt_c {h : AH} {b u v p i w : Int} (hB : b = 5 ∨ b = 15) (hw : 0 ≤ w ∧ w ≤ 10 ∧ w ≠ 4 ∧ w ≠ 8) : cStH h b u v p (b + 2) (i * 11 + w) = h (b + 2) (i * 11 + w) := cSt_f hB (by omega) (by omega) (by omega) (by omega) (by omega)
theorem cSt_c2 {h : AH} {b u v p i w : Int} (hB : b = 5 ∨ b = 15) (hw : 0 ≤ w ∧ w ≤ 10) (hiu : i ≠ u) (hiv : i ≠ v) : cStH h b u v p (b + 2) (i * 11 + w) = h (b + 2) (i * 11 + w) := cSt_f hB (by omega) (by omega) (by omega) (by omega) (by omega)
theorem cSt_k {h : AH} {b u v p k x : Int} (hB : b = 5 ∨ b = 15) (hk : k = b + 3 ∨ k = b + 6 ∨ k = 27 ∨ k = 28 ∨ k = 30) : cStH h b u v p k x = h k x := cSt_f hB (by omega) (by omega) (by omega) (by omega) (by omega)
theorem stH_d {g : AH} {u v p x : Int} (h7 : 0 ≤ g 141 7) (hu : 0 ≤ u) (hv : 0 ≤ v) (hx : x < 46 ∧ x ≠ 7) : stH g u v p 141 x = g 141 x := stH_a h7 hu hv (by omega) hx.2 (by omega)
theorem stH_i {g : AH} {u v p i w : Int} (h7 : 0 ≤ g 141 7) (hu : 0 ≤ u) (hv : 0 ≤ v) (hi : 0 ≤ i ∧ i ≤ 11) (hw : 0 ≤ w ∧ w ≤ 24 ∧ w ≠ 4 ∧ w ≠ 8) : stH g u v p 141 (46 + 25 * i + w) = g 141 (46 + 25 * i + w) := stH_a h7 hu hv (by omega) (by omega) (by omega)
theorem stH_i2 {g : AH} {u v p i w : Int} (h7 : 0 ≤ g 141 7) (hu : 0 ≤ u) (hv : 0 ≤ v) (hi : 0 ≤ i ∧ i ≤ 11) (hw : 0 ≤ w ∧ w ≤ 24) (hiu : i ≠ u) (hiv : i ≠ v) : stH g u v p 141 (46 + 25 * i + w) = g 141 (46 + 25 * i + w) := stH_a h7 hu hv (by omega) (by omega) (by omega)
theorem L_ramP {fl : Prop} {h g : AH} {b u v p : Int} (hB : b = 5 ∨ b = 15) (hn : 0 ≤ g 141 3 ∧ g 141 3 ≤ 12) (h7 : 0 ≤ g 141 7 ∧ g 141 7 ≤ 30) (hf : 0 ≤ g 141 2 ∧ g 141 2 ≤ 4) (hu : 0 ≤ u) (huv : u < v) (hv : v < g 141 3) (hP : PR0 fl h b g) (lu : cLoss h b u v = mLoss g u v) (lv : cLoss h b v u = mLoss g v u) : PR0 fl (cStH h b u v p) b (stH g u v p) := by
  obtain ⟨⟨d0, d1, d2, d3, d4, d5, d6, d8⟩, hS, hp6, hr, hq, hx⟩ := hP
  have v0 : 0 ≤ v := by omega
  have u11 : u ≤ 11 := by omega
  have v11 : v ≤ 11 := by omega
  have su := (hS u hu (by omega)).1
  have sv := (hS v v0 hv).1
  have mh := stH_hi (p := p) h7.1 (i := u) (j := v) ⟨hu, u11⟩ ⟨v0, v11⟩ (by omega)
  have ch := cSt_hu (h := h) (p := p) hB (show u ≠ v by omega) hu v0
  rw [lu, lv] at ch
  have E3 : stH g u v p 141 3 = g 141 3 := stH_d h7.1 hu v0 (by decide)
  have E2 : stH g u v p 141 2 = g 141 2 := stH_d h7.1 hu v0 (by decide)
  refine ⟨⟨?_, ?_, ?_, ?_, ?_, ?_, ?_, ?_⟩, fun i i0 i1 => ?_, fun f f0 f1 => ?_, fun k w k0 k1 w0 w1 => ?_, ?_, fun i j i0 ij jn => ?_⟩
  · rw [cSt_b hB (by decide), stH_d h7.1 hu v0 (by decide), d0]
  · rw [cSt_b hB (by decide), stH_d h7.1 hu v0 (by decide), d1]
  · rw [cSt_b hB (by decide), E2, d2]
  · rw [cSt_b hB (by decide), E3, d3]
  · rw [cSt_b hB (by decide), stH_d h7.1 hu v0 (by decide), d4]
  · rw [cSt_b hB (by decide), stH_d h7.1 hu v0 (by decide), d5]
  · rw [cSt_b hB (by decide), stH_d h7.1 hu v0 (by decide), d6]
  · rw [cSt_8 hB, d8, stH_7 hu v0]
    clear hS hp6 hr hx su sv mh ch
    split <;> split <;> omega
  · rw [E3] at i1
    obtain ⟨s1, s2, s3, s4, s5, s6⟩ := hS i i0 i1
    clear hS hp6 hr hx
    have i11 : i ≤ 11 := by omega
    refine ⟨fun w w0 w1 => ?_, ?_, fun q => ?_, fun p p0 p1 => ?_, ?_, ?_⟩
    · by_cases iu : i = u
      · by_cases w4 : w = 4
        · rw [iu, w4, ch.1, mh.1, su 4 (by decide) (by decide)]
        · by_cases w8 : w = 8
          · rw [iu, w8, ch.2.2.1, mh.2.2.1]
          · rw [cSt_c hB ⟨w0, by omega, w4, w8⟩, stH_i h7.1 hu v0 ⟨i0, i11⟩ ⟨w0, by omega, w4, w8⟩]
            exact s1 w w0 w1
      · by_cases iv : i = v
        · by_cases w4 : w = 4
          · rw [iv, w4, ch.2.1, mh.2.1, sv 4 (by decide) (by decide)]
          · by_cases w8 : w = 8
            · rw [iv, w8, ch.2.2.2, mh.2.2.2]
            · rw [cSt_c hB ⟨w0, by omega, w4, w8⟩, stH_i h7.1 hu v0 ⟨i0, i11⟩ ⟨w0, by omega, w4, w8⟩]
              exact s1 w w0 w1
        · rw [cSt_c2 hB ⟨w0, by omega⟩ iu iv, stH_i2 h7.1 hu v0 ⟨i0, i11⟩ ⟨w0, by omega⟩ iu iv]
          exact s1 w w0 w1
    · rw [stH_i h7.1 hu v0 ⟨i0, i11⟩ (by decide), cSt_c hB (by decide)]
      exact s2
    · rw [stH_i h7.1 hu v0 ⟨i0, i11⟩ (by decide), cSt_c hB (by decide)]
      exact s3 q
    · rw [cSt_k hB (Or.inl rfl), stH_i h7.1 hu v0 ⟨i0, i11⟩ (by omega)]
      exact s4 p p0 p1
    · rw [cSt_k (k := 30) hB (by omega), stH_k (by decide)]
      exact s5
    · rw [cSt_31 hB, if_neg]
      · exact s6
      · intro q
        clear s1 s2 s3 s4 su sv
        omega
  · rw [E2] at f1
    rw [cSt_k hB (Or.inr (Or.inl rfl)), stH_d h7.1 hu v0 (by omega)]
    exact hp6 f f0 f1
  · rw [stH_rm h7.1 ⟨hu, u11⟩ ⟨v0, v11⟩ k0 ⟨w0, w1⟩, cSt_rm hB (by rw [d8]; exact h7.1) k0 ⟨w0, w1⟩, d8, lu, lv]
    rw [stH_7 hu v0] at k1
    by_cases z : g 141 7 = 30
    · rw [if_pos z] at k1
      rw [if_neg (fun q => q.1 (by omega)), if_neg (fun q => q.1 z)]
      exact hr k w k0 (by rw [z]; exact k1) w0 w1
    · rw [if_neg z] at k1
      by_cases y : k = g 141 7
      · rw [if_pos ⟨by omega, y⟩, if_pos ⟨z, y⟩]
      · rw [if_neg (fun q => y q.2), if_neg (fun q => y q.2)]
        exact hr k w k0 (by omega) w0 w1
  · rw [cSt_25 hB, stH_24, hq]
  · rw [E3] at jn
    obtain ⟨a1, a2⟩ := hx i j i0 ij jn
    have a3 := (hx u v hu huv hv).1
    clear hS hp6 hr hx su sv mh ch
    rw [cSt_31 hB, cSt_31 hB, stH_154, a3]
    by_cases z : i = u ∧ j = v
    · rw [z.1, z.2]
      rw [z.1, z.2] at a1 a2
      by_cases y : g 154 (12 * u + v) = -1
      · rw [if_pos (show (u * 12 + v = u * 12 + v ∨ u * 12 + v = v * 12 + u) ∧ g 154 (12 * u + v) = -1 from ⟨Or.inl rfl, y⟩), if_pos (show (v * 12 + u = u * 12 + v ∨ v * 12 + u = v * 12 + u) ∧ g 154 (12 * u + v) = -1 from ⟨Or.inr rfl, y⟩), if_pos (show 12 * u + v = 12 * u + v ∧ g 154 (12 * u + v) = -1 from ⟨rfl, y⟩)]
        exact ⟨rfl, rfl⟩
      · rw [if_neg (fun q => y q.2), if_neg (fun q => y q.2), if_neg (fun q => y q.2)]
        exact ⟨a1, a2⟩
    · rw [if_neg (fun q => by omega), if_neg (fun q => by omega), if_neg (fun q => by omega)]
      exact ⟨a1, a2⟩
theorem L_ram {fl : Prop} {h g : AH} {b u v p c : Int} (hB : b = 5 ∨ b = 15) (hb : bdOk g) (hf : 0 ≤ g 141 2 ∧ g 141 2 ≤ 4) (ho : rOk g c) (hu : 0 ≤ u) (huv : u < v) (hv : v < g 141 3) (hP : PR0 fl h b g) (hO : PO g) (hK : Stk h g) (hG : Gng h g) : PR0 fl (cStH h b u v p) b (stH g u v p) ∧ PO (stH g u v p) ∧ Stk (cStH h b u v p) (stH g u v p) ∧ Gng (cStH h b u v p) (stH g u v p) := by
  obtain ⟨hn, h7, -, -⟩ := ho
  have v0 : 0 ≤ v := by omega
  have u11 : u ≤ 11 := by omega
  have v11 : v ≤ 11 := by omega
  have un : u < g 141 3 := by omega
  have ne : u ≠ v := by omega
  have su := (hP.2.1 u hu un).1
  have sv := (hP.2.1 v v0 hv).1
  obtain ⟨gu1, gu2, -⟩ := hG u hu un
  obtain ⟨gv1, gv2, -⟩ := hG v v0 hv
  have lu : cLoss h b u v = mLoss g u v := by
    unfold cLoss mLoss
    rw [gu1, gv1, sv 5 (by decide) (by decide), su 3 (by decide) (by decide), sv 3 (by decide) (by decide)]
  have lv : cLoss h b v u = mLoss g v u := by
    unfold cLoss mLoss
    rw [gu1, gv1, su 5 (by decide) (by decide), su 3 (by decide) (by decide), sv 3 (by decide) (by decide)]
  have E3 : stH g u v p 141 3 = g 141 3 := stH_d h7.1 hu v0 (by decide)
  have E2 : stH g u v p 141 2 = g 141 2 := stH_d h7.1 hu v0 (by decide)
  have E1 : stH g u v p 141 1 = g 141 1 := stH_d h7.1 hu v0 (by decide)
  have E0 : stH g u v p 141 0 = g 141 0 := stH_d h7.1 hu v0 (by decide)
  have em : cG1 h u v ↔ mG1 g u v := by
    unfold cG1 mG1
    rw [gu1, gv1]
    obtain ⟨⟨b1, b2⟩, ⟨b3, b4⟩, -⟩ := hb
    constructor
    · rintro ⟨q1, q2, q3⟩
      obtain ⟨-, a1, a2, a3⟩ := gu2 q1
      obtain ⟨-, c1, c2, c3⟩ := gv2 q2
      clear gu2 gv2 su sv
      exact ⟨q1, q2, by omega, by omega⟩
    · rintro ⟨q1, q2, q3, q4⟩
      obtain ⟨-, a1, a2, a3⟩ := gu2 q1
      obtain ⟨-, c1, c2, c3⟩ := gv2 q2
      clear gu2 gv2 su sv
      exact ⟨q1, q2, by omega⟩
  have hif : ∀ (P Q : Prop) [Decidable P] [Decidable Q], (P ↔ Q) → (if cG1 h u v ∧ P then (1 : Int) else 0) = if mG1 g u v ∧ Q then 1 else 0 := fun P Q _ _ e => by
    by_cases z : mG1 g u v ∧ Q
    · rw [if_pos z, if_pos ⟨em.mpr z.1, e.mpr z.2⟩]
    · rw [if_neg z, if_neg (fun y => z ⟨em.mp y.1, e.mp y.2⟩)]
  refine ⟨L_ramP hB hn h7 hf hu huv hv hP lu lv, fun i i0 i1 => ?_, fun i f i0 i1 f0 f1 => ?_, fun i i0 i1 => ?_⟩
  · rw [E3] at i1
    have i11 : 0 ≤ i ∧ i ≤ 11 := ⟨i0, by omega⟩
    rw [stH_i h7.1 hu v0 i11 (by decide), stH_i h7.1 hu v0 i11 (by decide), stH_i h7.1 hu v0 i11 (by decide), stH_i h7.1 hu v0 i11 (by decide), E0, E1, E2]
    exact hO i i0 i1
  · rw [E3] at i1
    have k := hK i f i0 i1 f0 f1
    have Fu := (hO u hu un).1
    have Fv := (hO v v0 hv).1
    have mf : mHit (stH g u v p) i f (stH g u v p 141 3) ↔ ∃ j, 0 ≤ j ∧ j < g 141 3 ∧ bitP (stH g u v p 152 i) j ∧ g 141 (46 + 25 * j + 0) = f := by
      unfold mHit
      rw [E3]
      constructor
      · rintro ⟨j, j0, j1, j2, j3⟩
        rw [stH_i h7.1 hu v0 ⟨j0, by omega⟩ (by decide)] at j3
        exact ⟨j, j0, j1, j2, j3⟩
      · rintro ⟨j, j0, j1, j2, j3⟩
        refine ⟨j, j0, j1, j2, ?_⟩
        rw [stH_i h7.1 hu v0 ⟨j0, by omega⟩ (by decide)]
        exact j3
    rw [mf, cSt_29 hB ne, gu1, gv1, su 0 (by decide) (by decide), sv 0 (by decide) (by decide), stH_152 ne]
    by_cases z : i = v ∧ ¬ g 149 u = 0
    · rw [if_pos z, if_pos z]
      rw [z.1] at k
      exact hit_or (F := fun j => g 141 (46 + 25 * j + 0)) ⟨f0, f1⟩ (by omega) ⟨hu, un⟩ hn.2 k
    · rw [if_neg z, if_neg z]
      by_cases y : i = u ∧ ¬ g 149 v = 0
      · rw [if_pos y, if_pos y]
        rw [y.1] at k
        exact hit_or (F := fun j => g 141 (46 + 25 * j + 0)) ⟨f0, f1⟩ (by omega) ⟨v0, hv⟩ hn.2 k
      · rw [if_neg y, if_neg y]
        exact k
  · rw [E3] at i1
    have i11 : 0 ≤ i ∧ i ≤ 11 := ⟨i0, by omega⟩
    rw [stH_i h7.1 hu v0 i11 (by decide), stH_i h7.1 hu v0 i11 (by decide), stH_i h7.1 hu v0 i11 (by decide), E0, E1, stH_k (Or.inl rfl), stH_k (Or.inr (Or.inl rfl)), cSt_k (k := 28) hB (by omega), cSt_k (k := 27) hB (by omega)]
    obtain ⟨t1, t2, t3, t4⟩ := hG i i0 i1
    have ems : h (b + 2) (v * 11 + 5) ≤ h (b + 2) (u * 11 + 5) ↔ g 141 (46 + 25 * v + 5) ≤ g 141 (46 + 25 * u + 5) := by rw [su 5 (by decide) (by decide), sv 5 (by decide) (by decide)]
    refine ⟨?_, fun q => ?_, t3, t4⟩
    · rw [cSt_26 hB hu v0, stH_149]
      by_cases iv : i = v
      · rw [if_pos iv, if_pos iv]
        exact hif _ _ ⟨fun a c => a (ems.mpr c), fun a c => a (ems.mp c)⟩
      · rw [if_neg iv, if_neg iv]
        by_cases iu : i = u
        · rw [if_pos iu, if_pos iu]
          exact hif _ _ ems
        · rw [if_neg iu, if_neg iu]
          exact t1
    · refine t2 (fun y => q ?_)
      rw [stH_149]
      by_cases iv : i = v
      · rw [if_pos iv, if_neg (fun w => w.1.2.1 (by rw [← iv]; exact y))]
      · rw [if_neg iv]
        by_cases iu : i = u
        · rw [if_pos iu, if_neg (fun w => w.1.1 (by rw [← iu]; exact y))]
        · rw [if_neg iu]
          exact y
