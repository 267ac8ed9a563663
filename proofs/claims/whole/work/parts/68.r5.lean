/-! what a pulse leaves is there; how it stays in range -/
def gsW (g : AH) (p j : Int) : Int := if g 141 (46 + 25 * j + 10) = -1 then (if g 141 (46 + 25 * j + (11 + p)) = 4 then g 141 (46 + 25 * j + 8) else if gWay (g 141 (46 + 25 * j + 8)) (g 141 (46 + 25 * j + 6)) (g 141 6) (gHd (g 141 (46 + 25 * j + (11 + p))) (g 141 (46 + 25 * j + 9)) (g 141 (46 + 25 * j + 7)) (g 141 (46 + 25 * j + 3))) (g 141 5) < 90 then gWay (g 141 (46 + 25 * j + 8)) (g 141 (46 + 25 * j + 6)) (g 141 6) (gHd (g 141 (46 + 25 * j + (11 + p))) (g 141 (46 + 25 * j + 9)) (g 141 (46 + 25 * j + 7)) (g 141 (46 + 25 * j + 3))) (g 141 5) else if 0 ≤ g 141 (46 + 25 * j + 1) + tab1 (gHd (g 141 (46 + 25 * j + (11 + p))) (g 141 (46 + 25 * j + 9)) (g 141 (46 + 25 * j + 7)) (g 141 (46 + 25 * j + 3))) ∧ g 141 (46 + 25 * j + 1) + tab1 (gHd (g 141 (46 + 25 * j + (11 + p))) (g 141 (46 + 25 * j + 9)) (g 141 (46 + 25 * j + 7)) (g 141 (46 + 25 * j + 3))) < g 141 0 ∧ 0 ≤ g 141 (46 + 25 * j + 2) + tab2 (gHd (g 141 (46 + 25 * j + (11 + p))) (g 141 (46 + 25 * j + 9)) (g 141 (46 + 25 * j + 7)) (g 141 (46 + 25 * j + 3))) ∧ g 141 (46 + 25 * j + 2) + tab2 (gHd (g 141 (46 + 25 * j + (11 + p))) (g 141 (46 + 25 * j + 9)) (g 141 (46 + 25 * j + 7)) (g 141 (46 + 25 * j + 3))) < g 141 1 then gWay (g 141 (46 + 25 * j + 8)) (g 141 (46 + 25 * j + 6)) (g 141 6) (gHd (g 141 (46 + 25 * j + (11 + p))) (g 141 (46 + 25 * j + 9)) (g 141 (46 + 25 * j + 7)) (g 141 (46 + 25 * j + 3))) (g 141 5) else 0) else g 141 (46 + 25 * j + 8)
def gsG (g : AH) (p j : Int) : Int := if g 141 (46 + 25 * j + 10) = -1 ∧ ¬ g 141 (46 + 25 * j + (11 + p)) = 4 ∧ ¬ gWay (g 141 (46 + 25 * j + 8)) (g 141 (46 + 25 * j + 6)) (g 141 6) (gHd (g 141 (46 + 25 * j + (11 + p))) (g 141 (46 + 25 * j + 9)) (g 141 (46 + 25 * j + 7)) (g 141 (46 + 25 * j + 3))) (g 141 5) < 90 ∧ (0 ≤ g 141 (46 + 25 * j + 1) + tab1 (gHd (g 141 (46 + 25 * j + (11 + p))) (g 141 (46 + 25 * j + 9)) (g 141 (46 + 25 * j + 7)) (g 141 (46 + 25 * j + 3))) ∧ g 141 (46 + 25 * j + 1) + tab1 (gHd (g 141 (46 + 25 * j + (11 + p))) (g 141 (46 + 25 * j + 9)) (g 141 (46 + 25 * j + 7)) (g 141 (46 + 25 * j + 3))) < g 141 0 ∧ 0 ≤ g 141 (46 + 25 * j + 2) + tab2 (gHd (g 141 (46 + 25 * j + (11 + p))) (g 141 (46 + 25 * j + 9)) (g 141 (46 + 25 * j + 7)) (g 141 (46 + 25 * j + 3))) ∧ g 141 (46 + 25 * j + 2) + tab2 (gHd (g 141 (46 + 25 * j + (11 + p))) (g 141 (46 + 25 * j + 9)) (g 141 (46 + 25 * j + 7)) (g 141 (46 + 25 * j + 3))) < g 141 1) then 1 else 0
def gsF (g : AH) (p n : Int) : AH := fun k x => if k = 141 ∧ 46 ≤ x ∧ x < 46 + 25 * n then (if (x - 46) % 25 = 3 then (if g 141 (46 + 25 * ((x - 46) / 25) + 10) = -1 then gHd (g 141 (46 + 25 * ((x - 46) / 25) + (11 + p))) (g 141 (46 + 25 * ((x - 46) / 25) + 9)) (g 141 (46 + 25 * ((x - 46) / 25) + 7)) (g 141 (46 + 25 * ((x - 46) / 25) + 3)) else g k x) else if (x - 46) % 25 = 8 then gsW g p ((x - 46) / 25) else if (x - 46) % 25 = 9 then (if g 141 (46 + 25 * ((x - 46) / 25) + 10) = -1 then gSi (g 141 (46 + 25 * ((x - 46) / 25) + (11 + p))) (g 141 (46 + 25 * ((x - 46) / 25) + 9)) (g 141 (46 + 25 * ((x - 46) / 25) + 7)) else g k x) else g k x) else if 0 ≤ x ∧ x < n then (if k = 149 then gsG g p x else if k = 150 then g 141 (46 + 25 * x + 1) + tab1 (gHd (g 141 (46 + 25 * x + (11 + p))) (g 141 (46 + 25 * x + 9)) (g 141 (46 + 25 * x + 7)) (g 141 (46 + 25 * x + 3))) else if k = 151 then g 141 (46 + 25 * x + 2) + tab2 (gHd (g 141 (46 + 25 * x + (11 + p))) (g 141 (46 + 25 * x + 9)) (g 141 (46 + 25 * x + 7)) (g 141 (46 + 25 * x + 3))) else if k = 152 then 0 else g k x) else g k x
theorem E_steer (g : AH) (p n : Int) : ∃ g', Steered g p n g' := by
  refine ⟨gsF g p n, fun k x a c => ?_, fun j j0 j1 => ?_⟩
  · unfold gsF
    by_cases z : k = 141 ∧ 46 ≤ x ∧ x < 46 + 25 * n
    · rw [if_pos z, if_neg (by omega), if_neg (by omega), if_neg (by omega)]
    · rw [if_neg z]
      by_cases y : 0 ≤ x ∧ x < n
      · rw [if_pos y, if_neg (by omega), if_neg (by omega), if_neg (by omega), if_neg (by omega)]
      · rw [if_neg y]
  · have q3 : gsF g p n 141 (46 + 25 * j + 3) = if g 141 (46 + 25 * j + 10) = -1 then gHd (g 141 (46 + 25 * j + (11 + p))) (g 141 (46 + 25 * j + 9)) (g 141 (46 + 25 * j + 7)) (g 141 (46 + 25 * j + 3)) else g 141 (46 + 25 * j + 3) := by
      unfold gsF
      rw [if_pos (by omega), if_pos (by omega), show (46 + 25 * j + 3 - 46) / 25 = j by omega]
    have q8 : gsF g p n 141 (46 + 25 * j + 8) = gsW g p j := by
      unfold gsF
      rw [if_pos (by omega), if_neg (by omega), if_pos (by omega), show (46 + 25 * j + 8 - 46) / 25 = j by omega]
    have q9 : gsF g p n 141 (46 + 25 * j + 9) = if g 141 (46 + 25 * j + 10) = -1 then gSi (g 141 (46 + 25 * j + (11 + p))) (g 141 (46 + 25 * j + 9)) (g 141 (46 + 25 * j + 7)) else g 141 (46 + 25 * j + 9) := by
      unfold gsF
      rw [if_pos (by omega), if_neg (by omega), if_neg (by omega), if_pos (by omega), show (46 + 25 * j + 9 - 46) / 25 = j by omega]
    have q149 : gsF g p n 149 j = gsG g p j := by
      unfold gsF
      rw [if_neg (by omega), if_pos ⟨j0, j1⟩, if_pos rfl]
    have q150 : gsF g p n 150 j = g 141 (46 + 25 * j + 1) + tab1 (gHd (g 141 (46 + 25 * j + (11 + p))) (g 141 (46 + 25 * j + 9)) (g 141 (46 + 25 * j + 7)) (g 141 (46 + 25 * j + 3))) := by
      unfold gsF
      rw [if_neg (by omega), if_pos ⟨j0, j1⟩, if_neg (by decide), if_pos rfl]
    have q151 : gsF g p n 151 j = g 141 (46 + 25 * j + 2) + tab2 (gHd (g 141 (46 + 25 * j + (11 + p))) (g 141 (46 + 25 * j + 9)) (g 141 (46 + 25 * j + 7)) (g 141 (46 + 25 * j + 3))) := by
      unfold gsF
      rw [if_neg (by omega), if_pos ⟨j0, j1⟩, if_neg (by decide), if_neg (by decide), if_pos rfl]
    have q152 : gsF g p n 152 j = 0 := by
      unfold gsF
      rw [if_neg (by omega), if_pos ⟨j0, j1⟩, if_neg (by decide), if_neg (by decide), if_neg (by decide), if_pos rfl]
    refine ⟨fun fl l hd w el eh ew => ?_, fun nf => ?_, q152⟩
    · rw [if_pos fl] at q3 q9
      unfold gsW at q8
      unfold gsG at q149
      rw [← el] at q3 q8 q9 q149 q150 q151
      rw [← eh] at q3 q8 q149 q150 q151
      rw [← ew] at q8 q149
      rw [if_pos fl] at q8
      refine ⟨q3, q9, fun l4 => ?_, fun l4 w9 => ?_, fun l4 w9 hin => ?_, fun l4 w9 hin => ?_⟩
      · rw [if_pos l4] at q8
        rw [if_neg (fun q => q.2.1 l4)] at q149
        exact ⟨q8, q149⟩
      · rw [if_neg l4, if_pos w9] at q8
        rw [if_neg (fun q => q.2.2.1 w9)] at q149
        exact ⟨q8, q149⟩
      · rw [if_neg l4, if_neg (by omega), if_pos hin] at q8
        rw [if_pos ⟨fl, l4, by omega, hin⟩] at q149
        exact ⟨q8, q149, q150, q151⟩
      · rw [if_neg l4, if_neg (by omega), if_neg hin] at q8
        rw [if_neg (fun q => hin q.2.2.2)] at q149
        exact ⟨q8, q149⟩
    · rw [if_neg nf] at q3 q9
      unfold gsW at q8
      unfold gsG at q149
      rw [if_neg nf] at q8
      rw [if_neg (fun q => nf q.1)] at q149
      exact ⟨q3, q8, q9, q149⟩
def gcF (g : AH) (n : Int) : AH := fun k x => if k = 141 ∧ 46 ≤ x ∧ x < 46 + 25 * n ∧ ¬ g 149 ((x - 46) / 25) = 0 then (if (x - 46) % 25 = 1 then g 150 ((x - 46) / 25) else if (x - 46) % 25 = 2 then g 151 ((x - 46) / 25) else if (x - 46) % 25 = 8 then mx 0 (g 141 (46 + 25 * ((x - 46) / 25) + 8) - 90) else g k x) else if (k = 153 ∧ 0 ≤ x ∧ x < n) ∧ ¬ g 149 x = 0 then g 153 x + 1 else g k x
theorem E_came (g : AH) (n : Int) : ∃ g', Came g n g' := by
  refine ⟨gcF g n, fun k x a c => ?_, fun j j0 j1 => ?_⟩
  · unfold gcF
    by_cases z : k = 141 ∧ 46 ≤ x ∧ x < 46 + 25 * n ∧ ¬ g 149 ((x - 46) / 25) = 0
    · rw [if_pos z, if_neg (by omega), if_neg (by omega), if_neg (by omega)]
    · rw [if_neg z, if_neg (fun q => c q.1)]
  · have e1 : (46 + 25 * j + 1 - 46) / 25 = j := by omega
    have e2 : (46 + 25 * j + 2 - 46) / 25 = j := by omega
    have e8 : (46 + 25 * j + 8 - 46) / 25 = j := by omega
    refine ⟨fun z => ?_, fun z => ?_⟩
    · unfold gcF
      rw [e1, e2, e8, if_neg (fun q => q.2.2.2 z), if_neg (by omega), if_neg (fun q => q.2.2.2 z), if_neg (by omega), if_neg (fun q => q.2.2.2 z), if_neg (by omega), if_neg (by omega), if_neg (fun q => q.2 z)]
      exact ⟨rfl, rfl, rfl, rfl⟩
    · unfold gcF
      rw [e1, e2, e8, if_pos ⟨rfl, by omega, by omega, z⟩, if_pos (by omega), if_pos ⟨rfl, by omega, by omega, z⟩, if_neg (by omega), if_pos (by omega), if_pos ⟨rfl, by omega, by omega, z⟩, if_neg (by omega), if_neg (by omega), if_pos (by omega), if_neg (by omega), if_pos ⟨⟨rfl, j0, j1⟩, z⟩]
      exact ⟨rfl, rfl, rfl, rfl⟩
noncomputable def gkF (g : AH) (i : Int) : AH := fun k x => if k = 141 ∧ (x = 46 + 25 * i + 1 ∨ x = 46 + 25 * i + 2) then -1 else if k = 141 ∧ x = 46 + 25 * i + 4 then 0 else if k = 141 ∧ x = 46 + 25 * i + 10 then g 141 4 else if k = 141 ∧ 34 ≤ x ∧ x < 34 + 3 * g 141 2 ∧ (x - 34) % 3 = 0 then g 141 x + cif (mHit g i ((x - 34) / 3) (g 141 3) ∧ ¬ (x - 34) / 3 = g 141 (46 + 25 * i + 0)) (g 141 (46 + 25 * i + 5)) 0 else g k x
theorem E_sunk (g : AH) {i : Int} (hi : 0 ≤ i) (hf : g 141 2 ≤ 4) : ∃ g', Sunk g i g' := by
  refine ⟨gkF g i, fun k x a => ?_, fun f f0 f1 => ?_, ?_, ?_, ?_, ?_⟩
  · unfold gkF
    rw [if_neg (by omega), if_neg (by omega), if_neg (by omega), if_neg (by omega)]
  · unfold gkF
    rw [if_neg (by omega), if_neg (by omega), if_neg (by omega), if_pos (by omega), show (34 + 3 * f - 34) / 3 = f by omega]
    refine ⟨fun q => by rw [cif_pos q], fun q => by rw [cif_neg q, Int.add_zero]⟩
  · unfold gkF
    rw [if_pos ⟨rfl, Or.inl rfl⟩]
  · unfold gkF
    rw [if_pos ⟨rfl, Or.inr rfl⟩]
  · unfold gkF
    rw [if_neg (by omega), if_pos ⟨rfl, rfl⟩]
  · unfold gkF
    rw [if_neg (by omega), if_neg (by omega), if_pos ⟨rfl, rfl⟩]
theorem E_SK : ∀ (m : Nat) (i : Int) (g : AH), 0 ≤ i → 0 ≤ g 141 2 ∧ g 141 2 ≤ 4 → ∃ g', SK m i g g'
  | 0, i, g, _, _ => ⟨g, rfl⟩
  | m + 1, i, g, hi, hf => by
    by_cases z : g 141 (46 + 25 * i + 10) = -1 ∧ g 141 (46 + 25 * i + 4) ≤ 0
    · obtain ⟨g1, h1⟩ := E_sunk g hi hf.2
      have e2 : g1 141 2 = g 141 2 := h1.1 _ _ (by omega)
      obtain ⟨g', h2⟩ := E_SK m (i + 1) g1 (by omega) (by omega)
      exact ⟨g', g1, ⟨fun _ => h1, fun q => absurd z q⟩, h2⟩
    · obtain ⟨g', h2⟩ := E_SK m (i + 1) g (by omega) hf
      exact ⟨g', g, ⟨fun q => absurd q z, fun _ => rfl⟩, h2⟩
/-- in range between the parts of a pulse -/
def wOk (g : AH) (c : Int) : Prop := bdOk g ∧ rOk g c ∧ (∀ j, 0 ≤ j → j < g 141 3 → (0 ≤ g 141 (46 + 25 * j + 8) ∧ g 141 (46 + 25 * j + 8) ≤ 180) ∧ (0 ≤ g 153 j ∧ g 153 j ≤ 1000000)) ∧ dOk g 12 ∧ 0 ≤ g 141 4
theorem W_steer {g g' : AH} {p : Int} (ho : puOk g p) (h4 : 0 ≤ g 141 4) (hm : Steered g p (g 141 3) g') : wOk g' 12 := by
  obtain ⟨hb, hs, hr, hmv, hd⟩ := ho
  obtain ⟨f1, p1⟩ := hm
  have E : ∀ x, x < 46 → g' 141 x = g 141 x := fun x a => f1 _ _ (by omega) (by omega)
  have E3 := E 3 (by decide)
  have E2 := E 2 (by decide)
  have Em : ∀ i w, 0 ≤ w → w ≤ 24 → w ≠ 3 → w ≠ 8 → w ≠ 9 → g' 141 (46 + 25 * i + w) = g 141 (46 + 25 * i + w) := fun i w a c e f k => f1 _ _ (by omega) (by omega)
  refine ⟨?_, ?_, fun j j0 j1 => ?_, ?_, by rw [E 4 (by decide)]; exact h4⟩
  · unfold bdOk
    rw [E 0 (by decide), E 1 (by decide), E 5 (by decide), E 6 (by decide)]
    exact hb
  · obtain ⟨o1, o2, o3, o4⟩ := hr
    unfold rOk
    rw [E3, E 7 (by decide), f1 140 24 (by omega) (by omega)]
    refine ⟨o1, o2, o3, fun x x0 x1 => ?_⟩
    obtain ⟨q1, q2, q3⟩ := o4 x x0 x1
    rw [Em x 4 (by decide) (by decide) (by decide) (by decide) (by decide), Em x 5 (by decide) (by decide) (by decide) (by decide) (by decide)]
    exact ⟨(StP_rg (hs x x0 x1).1 hb (p1 x x0 x1)).1, q2, q3⟩
  · rw [E3] at j1
    rw [f1 153 j (by omega) (by omega)]
    exact ⟨(StP_rg (hs j j0 j1).1 hb (p1 j j0 j1)).2.1, hmv j j0 j1⟩
  · obtain ⟨o1, o2, o3, o4⟩ := hd
    unfold dOk
    rw [E3, E2]
    refine ⟨o1, o2, fun x x0 x1 => ?_, fun f f0 f1 => ?_⟩
    · rw [Em x 5 (by decide) (by decide) (by decide) (by decide) (by decide)]
      exact o3 x x0 x1
    · rw [E _ (by omega)]
      exact o4 f f0 f1
theorem W_ram {g : AH} {c u v p : Int} (ho : wOk g (c + 1)) (hu : 0 ≤ u) (huv : u < v) (hv : v < g 141 3) : wOk (stH g u v p) c := by
  obtain ⟨hb, hr, hw, hd, h4⟩ := ho
  have h7 := hr.2.1
  have hn := hr.1
  have v0 : 0 ≤ v := by omega
  have E : ∀ x, x < 46 ∧ x ≠ 7 → stH g u v p 141 x = g 141 x := fun x a => stH_d h7.1 hu v0 a
  have E3 := E 3 (by decide)
  have E2 := E 2 (by decide)
  refine ⟨?_, rOk_st hu huv hv hr, fun j j0 j1 => ?_, ?_, by rw [E 4 (by decide)]; exact h4⟩
  · unfold bdOk
    rw [E 0 (by decide), E 1 (by decide), E 5 (by decide), E 6 (by decide)]
    exact hb
  · rw [E3] at j1
    rw [stH_k (k := 153) (by decide)]
    obtain ⟨w1, w2⟩ := hw j j0 j1
    refine ⟨?_, w2⟩
    have mh := stH_hi (p := p) h7.1 (i := u) (j := v) (by omega) (by omega) (by omega)
    by_cases ju : j = u
    · rw [ju, mh.2.2.1]; decide
    · by_cases jv : j = v
      · rw [jv, mh.2.2.2]; decide
      · rw [stH_i2 h7.1 hu v0 ⟨j0, by omega⟩ (w := 8) (by decide) ju jv]
        exact w1
  · obtain ⟨o1, o2, o3, o4⟩ := hd
    unfold dOk
    rw [E3, E2]
    refine ⟨o1, o2, fun x x0 x1 => ?_, fun f f0 f1 => ?_⟩
    · rw [stH_i h7.1 hu v0 ⟨x0, by omega⟩ (by decide)]
      exact o3 x x0 x1
    · rw [E _ (by omega)]
      exact o4 f f0 f1
theorem W_came {g g' : AH} {c : Int} (ho : wOk g c) (hm : Came g (g 141 3) g') : dOk g' 12 ∧ 0 ≤ g' 141 4 ∧ 0 ≤ g' 141 7 := by
  obtain ⟨hb, hr, hw, hd, h4⟩ := ho
  obtain ⟨f1, -⟩ := hm
  have E : ∀ x, x < 46 → g' 141 x = g 141 x := fun x a => f1 _ _ (by omega) (by omega)
  have E3 := E 3 (by decide)
  have E2 := E 2 (by decide)
  refine ⟨?_, by rw [E 4 (by decide)]; exact h4, by rw [E 7 (by decide)]; exact hr.2.1.1⟩
  obtain ⟨o1, o2, o3, o4⟩ := hd
  unfold dOk
  rw [E3, E2]
  refine ⟨o1, o2, fun x x0 x1 => ?_, fun f f0 f1' => ?_⟩
  · rw [f1 _ _ (by omega) (by omega)]
    exact o3 x x0 x1
  · rw [E _ (by omega)]
    exact o4 f f0 f1'
theorem L_SK {fl : Prop} {b : Int} (hB : b = 5 ∨ b = 15) : ∀ (m : Nat) (i : Int) (h g h' g' : AH), 0 ≤ i → i + m = g 141 3 → 0 ≤ g 141 2 ∧ g 141 2 ≤ 4 → g 141 3 ≤ 12 → 0 ≤ g 141 4 → 0 ≤ g 141 7 → PR0 fl h b g → PO g → Stk h g → cSK b m i h h' → SK m i g g' → PR0 fl h' b g' ∧ PO g'
  | 0, i, h, g, h', g', _, _, _, _, _, _, hP, hO, _, hc, hm => by
    rw [show h' = h from hc, show g' = g from hm]
    exact ⟨hP, hO⟩
  | m + 1, i, h, g, h', g', i0, im, hf, hn, h4, h7, hP, hO, hK, hc, hm => by
    obtain ⟨h1, ⟨c1, c2⟩, c3⟩ := hc
    obtain ⟨g1, ⟨m1, m2⟩, m3⟩ := hm
    have il : i < g 141 3 := by omega
    obtain ⟨s1, s2, -⟩ := hP.2.1 i i0 il
    have e4 := s1 4 (by decide) (by decide)
    rw [e4, ← s2] at c1 c2
    by_cases z : g 141 (46 + 25 * i + 10) = -1 ∧ g 141 (46 + 25 * i + 4) ≤ 0
    · have hc1 := c1 z
      have hm1 := m1 z
      obtain ⟨p1, p2, p3⟩ := L_sunk hB hf hn h4 ⟨i0, il⟩ h7 hP hO hK hc1 hm1
      have E : ∀ x, x < 34 → g1 141 x = g 141 x := fun x a => hm1.1 _ _ (by omega)
      have E2 := E 2 (by decide)
      have E3 := E 3 (by decide)
      have E4 := E 4 (by decide)
      have E7 := E 7 (by decide)
      exact L_SK hB m (i + 1) h1 g1 h' g' (by omega) (by omega) (by omega) (by omega) (by omega) (by omega) p1 p2 p3 c3 m3
    · have hc1 := c2 z
      have hm1 := m2 z
      rw [hc1] at c3
      rw [hm1] at m3
      exact L_SK hB m (i + 1) h g h' g' (by omega) (by omega) hf hn h4 h7 hP hO hK c3 m3
