theorem tw_IllegalStateException : am_tw RX8 87 91 "java/lang/IllegalStateException" := ⟨by decide +kernel, by decide, (am_mt 576 (by decide +kernel) (by decide +kernel)), (am_mt 15 (by decide +kernel) (by decide +kernel)), by
  have h : ∀ w ∈ (vx_atS RX8 91 "java/lang/IllegalStateException" ["java/lang/RuntimeException", "java/lang/Exception"]).filter (fun w => !decide (w = .castable "java/lang/IllegalStateException" "java/lang/IllegalStateException") && !am_isDC w), w ∈ lw_tbl ∧ goodWord w = true := by decide +kernel
  intro w hw
  by_cases e : w = .castable "java/lang/IllegalStateException" "java/lang/IllegalStateException"
  · exact Or.inr (Or.inl e)
  · by_cases e2 : am_isDC w = true
    · exact Or.inr (Or.inr e2)
    exact Or.inl (List.mem_filter.mpr (h w (List.mem_filter.mpr ⟨hw, by simp [e, e2]⟩)))⟩
theorem tw_IndexOutOfBoundsException : am_tw RX8 182 186 "java/lang/IndexOutOfBoundsException" := ⟨by decide +kernel, by decide, (am_mt 707 (by decide +kernel) (by decide +kernel)), (am_mt 23 (by decide +kernel) (by decide +kernel)), by
  have h : ∀ w ∈ (vx_atS RX8 186 "java/lang/IndexOutOfBoundsException" ["java/lang/RuntimeException", "java/lang/Exception"]).filter (fun w => !decide (w = .castable "java/lang/IndexOutOfBoundsException" "java/lang/IndexOutOfBoundsException") && !am_isDC w), w ∈ lw_tbl ∧ goodWord w = true := by decide +kernel
  intro w hw
  by_cases e : w = .castable "java/lang/IndexOutOfBoundsException" "java/lang/IndexOutOfBoundsException"
  · exact Or.inr (Or.inl e)
  · by_cases e2 : am_isDC w = true
    · exact Or.inr (Or.inr e2)
    exact Or.inl (List.mem_filter.mpr (h w (List.mem_filter.mpr ⟨hw, by simp [e, e2]⟩)))⟩
theorem tw_IllegalArgumentException : am_tw RX8 142 146 "java/lang/IllegalArgumentException" := ⟨by decide +kernel, by decide, (am_mt 679 (by decide +kernel) (by decide +kernel)), (am_mt 22 (by decide +kernel) (by decide +kernel)), by
  have h : ∀ w ∈ (vx_atS RX8 146 "java/lang/IllegalArgumentException" ["java/lang/RuntimeException", "java/lang/Exception"]).filter (fun w => !decide (w = .castable "java/lang/IllegalArgumentException" "java/lang/IllegalArgumentException") && !am_isDC w), w ∈ lw_tbl ∧ goodWord w = true := by decide +kernel
  intro w hw
  by_cases e : w = .castable "java/lang/IllegalArgumentException" "java/lang/IllegalArgumentException"
  · exact Or.inr (Or.inl e)
  · by_cases e2 : am_isDC w = true
    · exact Or.inr (Or.inr e2)
    exact Or.inl (List.mem_filter.mpr (h w (List.mem_filter.mpr ⟨hw, by simp [e, e2]⟩)))⟩
