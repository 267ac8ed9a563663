/-! the class' sheet and the model's row: a ram -/
theorem stH_152 {g : AH} {u v p x : Int} (huv : u ≠ v) : stH g u v p 152 x = if x = v ∧ ¬ g 149 u = 0 then i_or (g 152 v) (i_shl 1 u) else if x = u ∧ ¬ g 149 v = 0 then i_or (g 152 u) (i_shl 1 v) else g 152 x := by
  unfold stH
  rw [st6_f (by decide) (by decide), st5_f (by decide), st4_f (by decide)]
  obtain ⟨a, ha⟩ : ∃ a, a = st1 g u v (mLoss g u v) (mLoss g v u) := ⟨_, rfl⟩
  have e1 : ∀ y, a 149 y = g 149 y := fun y => by rw [ha, st1_f (by omega)]
  have e2 : ∀ y, a 152 y = g 152 y := fun y => by rw [ha, st1_f (by omega)]
  rw [← ha]
  obtain ⟨c, hc⟩ : ∃ c, c = st2 a u v := ⟨_, rfl⟩
  have e3 : c 149 u = g 149 u := by rw [hc, st2_f (by decide), e1]
  have e4 : ∀ y, c 152 y = if y = u ∧ ¬ g 149 v = 0 then i_or (g 152 u) (i_shl 1 v) else g 152 y := fun y => by
    rw [hc]
    unfold st2
    rw [e1]
    by_cases z : g 149 v = 0
    · rw [if_pos z, if_neg (fun q => q.2 z), e2]
    · rw [if_neg z]
      by_cases y2 : y = u
      · rw [y2, up_at, if_pos ⟨rfl, z⟩, e2]
      · rw [up_ne (by omega), if_neg (fun q => y2 q.1), e2]
  rw [← hc]
  unfold st3
  rw [e3]
  by_cases z : g 149 u = 0
  · rw [if_pos z, if_neg (show ¬ (x = v ∧ ¬ g 149 u = 0) from fun q => q.2 z), e4]
  · rw [if_neg z]
    by_cases y2 : x = v
    · rw [y2, up_at, if_pos ⟨rfl, z⟩, e4, if_neg (fun q => huv q.1.symm)]
    · rw [up_ne (by omega), if_neg (show ¬ (x = v ∧ ¬ g 149 u = 0) from fun q => y2 q.1), e4]
theorem stH_k {g : AH} {u v p k x : Int} (hk : k = 150 ∨ k = 151 ∨ k = 153) : stH g u v p k x = g k x := by
  unfold stH
  rw [st6_f (by omega) (by omega), st5_f (by omega), st4_f (by omega), st3_f (by omega), st2_f (by omega), st1_f (by omega)]
theorem stH_154 {g : AH} {u v p x : Int} : stH g u v p 154 x = if x = 12 * u + v ∧ g 154 (12 * u + v) = -1 then p else g 154 x := by
  unfold stH
  rw [st6_f (by decide) (by decide)]
  obtain ⟨a, ha⟩ : ∃ a, a = st4 (st3 (st2 (st1 g u v (mLoss g u v) (mLoss g v u)) u v) u v) u v := ⟨_, rfl⟩
  have e : ∀ y, a 154 y = g 154 y := fun y => by rw [ha, st4_f (by decide), st3_f (by decide), st2_f (by decide), st1_f (by omega)]
  rw [← ha]
  unfold st5
  rw [e]
  by_cases z : g 154 (12 * u + v) = -1
  · rw [if_pos z]
    by_cases y : x = 12 * u + v
    · rw [y, up_at, if_pos ⟨rfl, z⟩]
    · rw [up_ne (by omega), if_neg (fun q => y q.1), e]
  · rw [if_neg z, if_neg (fun q => z q.2), e]
def ramV (w p u v li lj : Int) : Int := if w = 0 then p else if w = 1 then u else if w = 2 then v else if w = 3 then li else lj
theorem stH_rm {g : AH} {u v p k w : Int} (h7 : 0 ≤ g 141 7) (hu : 0 ≤ u ∧ u ≤ 11) (hv : 0 ≤ v ∧ v ≤ 11) (hk : 0 ≤ k) (hw : 0 ≤ w ∧ w ≤ 4) : stH g u v p 141 (346 + 5 * k + w) = if ¬ g 141 7 = 30 ∧ k = g 141 7 then ramV w p u v (mLoss g u v) (mLoss g v u) else g 141 (346 + 5 * k + w) := by
  unfold stH
  obtain ⟨a, ha⟩ : ∃ a, a = st5 (st4 (st3 (st2 (st1 g u v (mLoss g u v) (mLoss g v u)) u v) u v) u v) u v p := ⟨_, rfl⟩
  have e : ∀ y, (346 ≤ y ∨ y = 7) → a 141 y = g 141 y := fun y hy => by rw [ha, st5_f (by decide), st4_f (by decide), st3_f (by decide), st2_f (by decide), st1_f (by omega)]
  rw [← ha]
  obtain ⟨li, hli⟩ : ∃ li, li = mLoss g u v := ⟨_, rfl⟩
  obtain ⟨lj, hlj⟩ : ∃ lj, lj = mLoss g v u := ⟨_, rfl⟩
  rw [← hli, ← hlj]
  obtain ⟨s, hs⟩ : ∃ s, s = g 141 7 := ⟨_, rfl⟩
  have e7 : a 141 7 = s := by rw [e 7 (by decide), hs]
  rw [← hs]
  rw [← hs] at h7
  unfold st6
  rw [e7]
  by_cases z : s = 30
  · rw [if_pos z, if_neg (fun q => q.1 z), up_ne (by omega), e _ (by omega)]
  · rw [if_neg z]
    by_cases y : k = s
    · rw [if_pos ⟨z, y⟩, y]
      have : w = 0 ∨ w = 1 ∨ w = 2 ∨ w = 3 ∨ w = 4 := by omega
      unfold ramV
      rcases this with rfl | rfl | rfl | rfl | rfl
      · rw [Int.add_zero]
        simp (disch := omega) only [up_at, up_ne]
        rfl
      · simp (disch := omega) only [up_at, up_ne]
        rfl
      · simp (disch := omega) only [up_at, up_ne]
        rfl
      · simp (disch := omega) only [up_at, up_ne]
        rfl
      · simp (disch := omega) only [up_at, up_ne]
        rfl
    · rw [if_neg (fun q => y q.2), up_ne (by omega), up_ne (by omega), up_ne (by omega), up_ne (by omega), up_ne (by omega), up_ne (by omega), up_ne (by omega), e _ (by omega)]
theorem cNr_f {h : AH} {p u v k x : Int} (h1 : ¬ (k = 25 ∧ x = 6)) (h2 : ¬ (k = 31 ∧ (x = u * 12 + v ∨ x = v * 12 + u))) : cNr h p u v k x = h k x := by
  unfold cNr
  split
  · rw [up_ne (by omega), up_ne (by omega), up_ne (by omega)]
  · rw [up_ne (by omega)]
theorem cGo_f {h : AH} {b u v k x : Int} (h1 : k ≠ 26) : cGo h b u v k x = h k x := by
  unfold cGo
  rw [up_ne (by omega), up_ne (by omega)]
theorem ckR_f {h : AH} {b p u v li lj k x : Int} (h1 : k ≠ b + 5) (h2 : ¬ (k = b ∧ x = 8)) : ckR h b p u v li lj k x = h k x := by
  unfold ckR
  split
  · rfl
  · rw [up_ne (by omega), up_ne (by omega), up_ne (by omega), up_ne (by omega), up_ne (by omega), up_ne (by omega)]
/-- what a ram leaves alone -/
theorem cSt_f {h : AH} {b u v p k x : Int} (hB : b = 5 ∨ b = 15) (h1 : ¬ (k = b + 2 ∧ (x = u * 11 + 4 ∨ x = u * 11 + 8 ∨ x = v * 11 + 4 ∨ x = v * 11 + 8))) (h2 : k ≠ 26 ∧ k ≠ 29 ∧ k ≠ b + 5) (h3 : ¬ (k = b ∧ x = 8)) (h4 : ¬ (k = 25 ∧ x = 6)) (h5 : ¬ (k = 31 ∧ (x = u * 12 + v ∨ x = v * 12 + u))) : cStH h b u v p k x = h k x := by
  unfold cStH
  rw [ckR_f h2.2.2 h3, cNr_f h4 h5, cGo_f h2.1, cHu_f (by omega), cHu_f (by omega), cNs_f h2.2.1, cNs_f h2.2.1]
theorem cSt_hu {h : AH} {b u v p : Int} (hB : b = 5 ∨ b = 15) (huv : u ≠ v) (hu : 0 ≤ u) (hv : 0 ≤ v) : cStH h b u v p (b + 2) (u * 11 + 4) = h (b + 2) (u * 11 + 4) - cLoss h b u v ∧ cStH h b u v p (b + 2) (v * 11 + 4) = h (b + 2) (v * 11 + 4) - cLoss h b v u ∧ cStH h b u v p (b + 2) (u * 11 + 8) = 0 ∧ cStH h b u v p (b + 2) (v * 11 + 8) = 0 := by
  have J : ∀ x, cStH h b u v p (b + 2) x = cHu (cHu (cNs (cNs h b u v) b v u) b u (cLoss h b u v)) b v (cLoss h b v u) (b + 2) x := fun x => by
    unfold cStH
    rw [ckR_f (by omega) (by omega), cNr_f (by omega) (by omega), cGo_f (by omega)]
  rw [J, J, J, J]
  unfold cHu
  simp (disch := omega) only [up_at, up_ne]
  rw [cNs_f (by omega), cNs_f (by omega), cNs_f (by omega), cNs_f (by omega)]
  exact ⟨rfl, rfl, trivial, trivial⟩
theorem cSt_26 {h : AH} {b u v p x : Int} (hB : b = 5 ∨ b = 15) (hu : 0 ≤ u) (hv : 0 ≤ v) : cStH h b u v p 26 x = if x = v then (if cG1 h u v ∧ ¬ h (b + 2) (v * 11 + 5) ≤ h (b + 2) (u * 11 + 5) then 1 else 0) else if x = u then (if cG1 h u v ∧ h (b + 2) (v * 11 + 5) ≤ h (b + 2) (u * 11 + 5) then 1 else 0) else h 26 x := by
  unfold cStH
  rw [ckR_f (by omega) (by omega), cNr_f (by omega) (by omega)]
  obtain ⟨a, ha⟩ : ∃ a, a = cHu (cHu (cNs (cNs h b u v) b v u) b u (cLoss h b u v)) b v (cLoss h b v u) := ⟨_, rfl⟩
  have e : ∀ k y, ¬ (k = b + 2 ∧ (y = u * 11 + 4 ∨ y = u * 11 + 8 ∨ y = v * 11 + 4 ∨ y = v * 11 + 8)) → k ≠ 29 → a k y = h k y := fun k y h1 h2 => by rw [ha, cHu_f (by omega), cHu_f (by omega), cNs_f h2, cNs_f h2]
  rw [← ha]
  unfold cGo
  rw [e (b + 2) (v * 11 + 5) (by omega) (by omega), e (b + 2) (u * 11 + 5) (by omega) (by omega)]
  have em : cG1 a u v ↔ cG1 h u v := by
    show (¬ a 26 u = 0 ∧ ¬ a 26 v = 0 ∧ a 28 u = a 28 v) ↔ _
    rw [e 26 u (by omega) (by decide), e 26 v (by omega) (by decide), e 28 u (by omega) (by decide), e 28 v (by omega) (by decide)]
  have hif : ∀ (P : Prop) [Decidable P], (if cG1 a u v ∧ P then (1 : Int) else 0) = if cG1 h u v ∧ P then 1 else 0 := fun P _ => by
    by_cases b : cG1 h u v
    · by_cases c : P
      · rw [if_pos ⟨em.mpr b, c⟩, if_pos ⟨b, c⟩]
      · rw [if_neg (fun q => c q.2), if_neg (fun q => c q.2)]
    · rw [if_neg (fun q => b (em.mp q.1)), if_neg (fun q => b q.1)]
  unfold up
  by_cases z : x = v
  · rw [if_pos ⟨rfl, z⟩, if_pos z]
    exact hif _
  · rw [if_neg (fun q => z q.2), if_neg z]
    by_cases y : x = u
    · rw [if_pos ⟨rfl, y⟩, if_pos y]
      exact hif _
    · rw [if_neg (fun q => y q.2), if_neg y, e _ _ (by omega) (by decide)]
theorem cSt_29 {h : AH} {b u v p x : Int} (hB : b = 5 ∨ b = 15) (huv : u ≠ v) : cStH h b u v p 29 x = if x = v ∧ ¬ h 26 u = 0 then i_or (h 29 v) (i_shl 1 (h (b + 2) (u * 11 + 0))) else if x = u ∧ ¬ h 26 v = 0 then i_or (h 29 u) (i_shl 1 (h (b + 2) (v * 11 + 0))) else h 29 x := by
  unfold cStH
  rw [ckR_f (by omega) (by omega), cNr_f (by omega) (by omega), cGo_f (by omega), cHu_f (by omega), cHu_f (by omega)]
  have e4 : ∀ y, cNs h b u v 29 y = if y = v ∧ ¬ h 26 u = 0 then i_or (h 29 v) (i_shl 1 (h (b + 2) (u * 11 + 0))) else h 29 y := fun y => by
    unfold cNs
    by_cases z : h 26 u = 0
    · rw [if_pos z, if_neg (fun q => q.2 z)]
    · rw [if_neg z]
      by_cases y2 : y = v
      · rw [y2, up_at, if_pos ⟨rfl, z⟩]
      · rw [up_ne (by omega), if_neg (fun q => y2 q.1)]
  obtain ⟨a, ha⟩ : ∃ a, a = cNs h b u v := ⟨_, rfl⟩
  have e1 : a 26 v = h 26 v := by rw [ha, cNs_f (by decide)]
  have e2 : a (b + 2) (v * 11 + 0) = h (b + 2) (v * 11 + 0) := by rw [ha, cNs_f (by omega)]
  rw [← ha] at e4 ⊢
  unfold cNs
  rw [e1, e2]
  by_cases z : h 26 v = 0
  · rw [if_pos z, e4]
    by_cases y : x = v ∧ ¬ h 26 u = 0
    · rw [if_pos y, if_pos y]
    · rw [if_neg y, if_neg y, if_neg (show ¬ (x = u ∧ ¬ h 26 v = 0) from fun q => q.2 z)]
  · rw [if_neg z]
    by_cases y2 : x = u
    · rw [y2, up_at, if_neg (show ¬ (u = v ∧ ¬ h 26 u = 0) from fun q => huv q.1), if_pos ⟨rfl, z⟩, e4, if_neg (show ¬ (u = v ∧ ¬ h 26 u = 0) from fun q => huv q.1)]
    · rw [up_ne (by omega), e4]
      by_cases y : x = v ∧ ¬ h 26 u = 0
      · rw [if_pos y, if_pos y]
      · rw [if_neg y, if_neg y, if_neg (show ¬ (x = u ∧ ¬ h 26 v = 0) from fun q => y2 q.1)]
theorem cSt_25 {h : AH} {b u v p : Int} (hB : b = 5 ∨ b = 15) : cStH h b u v p 25 6 = h 25 6 + 1 := by
  unfold cStH
  rw [ckR_f (by omega) (by omega)]
  obtain ⟨a, ha⟩ : ∃ a, a = cGo (cHu (cHu (cNs (cNs h b u v) b v u) b u (cLoss h b u v)) b v (cLoss h b v u)) b u v := ⟨_, rfl⟩
  have e : a 25 6 = h 25 6 := by rw [ha, cGo_f (by decide), cHu_f (by omega), cHu_f (by omega), cNs_f (by decide), cNs_f (by decide)]
  rw [← ha]
  unfold cNr
  split
  · rw [up_ne (by omega), up_ne (by omega), up_at, e]
  · rw [up_at, e]
theorem cSt_31 {h : AH} {b u v p x : Int} (hB : b = 5 ∨ b = 15) : cStH h b u v p 31 x = if (x = u * 12 + v ∨ x = v * 12 + u) ∧ h 31 (u * 12 + v) = -1 then p else h 31 x := by
  unfold cStH
  rw [ckR_f (by omega) (by omega)]
  obtain ⟨a, ha⟩ : ∃ a, a = cGo (cHu (cHu (cNs (cNs h b u v) b v u) b u (cLoss h b u v)) b v (cLoss h b v u)) b u v := ⟨_, rfl⟩
  have e : ∀ x, a 31 x = h 31 x := fun x => by rw [ha, cGo_f (by decide), cHu_f (by omega), cHu_f (by omega), cNs_f (by decide), cNs_f (by decide)]
  rw [← ha]
  unfold cNr
  rw [e]
  by_cases z : h 31 (u * 12 + v) = -1
  · rw [if_pos z]
    by_cases y : x = v * 12 + u
    · rw [y, up_at, if_pos ⟨Or.inr rfl, z⟩]
    · rw [up_ne (by omega)]
      by_cases y2 : x = u * 12 + v
      · rw [y2, up_at, if_pos ⟨Or.inl rfl, z⟩]
      · rw [up_ne (by omega), up_ne (by omega), e, if_neg (fun q => q.1.elim y2 y)]
  · rw [if_neg z, up_ne (by omega), e, if_neg (fun q => z q.2)]
theorem cSt_8 {h : AH} {b u v p : Int} (hB : b = 5 ∨ b = 15) : cStH h b u v p b 8 = if 30 ≤ h b 8 then h b 8 else h b 8 + 1 := by
  unfold cStH
  obtain ⟨a, ha⟩ : ∃ a, a = cNr (cGo (cHu (cHu (cNs (cNs h b u v) b v u) b u (cLoss h b u v)) b v (cLoss h b v u)) b u v) p u v := ⟨_, rfl⟩
  have e : a b 8 = h b 8 := by rw [ha, cNr_f (by omega) (by omega), cGo_f (by omega), cHu_f (by omega), cHu_f (by omega), cNs_f (by omega), cNs_f (by omega)]
  rw [← ha]
  unfold ckR
  rw [e]
  split
  · exact e
  · rw [up_at]
theorem cSt_rm {h : AH} {b u v p k w : Int} (hB : b = 5 ∨ b = 15) (h8 : 0 ≤ h b 8) (hk : 0 ≤ k) (hw : 0 ≤ w ∧ w ≤ 4) : cStH h b u v p (b + 5) (k * 5 + w) = if ¬ 30 ≤ h b 8 ∧ k = h b 8 then ramV w p u v (cLoss h b u v) (cLoss h b v u) else h (b + 5) (k * 5 + w) := by
  unfold cStH
  obtain ⟨a, ha⟩ : ∃ a, a = cNr (cGo (cHu (cHu (cNs (cNs h b u v) b v u) b u (cLoss h b u v)) b v (cLoss h b v u)) b u v) p u v := ⟨_, rfl⟩
  have e : ∀ k y, k = b + 5 ∨ k = b → a k y = h k y := fun k y hk => by rw [ha, cNr_f (by omega) (by omega), cGo_f (by omega), cHu_f (by omega), cHu_f (by omega), cNs_f (by omega), cNs_f (by omega)]
  rw [← ha]
  obtain ⟨li, hli⟩ : ∃ li, li = cLoss h b u v := ⟨_, rfl⟩
  obtain ⟨lj, hlj⟩ : ∃ lj, lj = cLoss h b v u := ⟨_, rfl⟩
  rw [← hli, ← hlj]
  obtain ⟨s, hs⟩ : ∃ s, s = h b 8 := ⟨_, rfl⟩
  have e7 : a b 8 = s := by rw [e b 8 (Or.inr rfl), hs]
  rw [← hs]
  rw [← hs] at h8
  unfold ckR
  rw [e7]
  by_cases z : 30 ≤ s
  · rw [if_pos z, if_neg (fun q => q.1 z), e _ _ (Or.inl rfl)]
  · rw [if_neg z]
    by_cases y : k = s
    · rw [if_pos ⟨z, y⟩, y]
      have : w = 0 ∨ w = 1 ∨ w = 2 ∨ w = 3 ∨ w = 4 := by omega
      unfold ramV
      rcases this with rfl | rfl | rfl | rfl | rfl
      · rw [Int.add_zero]
        simp (disch := omega) only [up_at, up_ne]
        rfl
      · simp (disch := omega) only [up_at, up_ne]
        rfl
      · simp (disch := omega) only [up_at, up_ne]
        rfl
      · simp (disch := omega) only [up_at, up_ne]
        rfl
      · simp (disch := omega) only [up_at, up_ne]
        rfl
    · rw [if_neg (fun q => y q.2), up_ne (by omega), up_ne (by omega), up_ne (by omega), up_ne (by omega), up_ne (by omega), up_ne (by omega), e _ _ (Or.inl rfl)]
