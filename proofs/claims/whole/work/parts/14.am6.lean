theorem pn_X0 : plainName RX0 = true := by decide +kernel
theorem pn_X1 : plainName RX1 = true := by decide +kernel
theorem pn_X2 : plainName RX2 = true := by decide +kernel
theorem pn_X3 : plainName RX3 = true := by decide +kernel
theorem pn_X4 : plainName RX4 = true := by decide +kernel
theorem pn_X5 : plainName RX5 = true := by decide +kernel
theorem pn_X6 : plainName RX6 = true := by decide +kernel
theorem pn_X7 : plainName RX7 = true := by decide +kernel
theorem pn_X8 : plainName RX8 = true := by decide +kernel
theorem pn_X9 : plainName RX9 = true := by decide +kernel
theorem pn_J0 : plainName RJ0 = true := by decide +kernel
theorem pn_J1 : plainName RJ1 = true := by decide +kernel
theorem pn_J2 : plainName RJ2 = true := by decide +kernel
theorem pn_J3 : plainName RJ3 = true := by decide +kernel
theorem pn_J6 : plainName RJ6 = true := by decide +kernel
theorem pn_J7 : plainName RJ7 = true := by decide +kernel
theorem pn_L : plainName RL = true := by decide +kernel
theorem pf_J9 : plainFor mJ9_floorMod_7cf53.1 = true := by decide +kernel
/-- the sheets' first cells -/
def am_sh (b : Int) : Prop := b = 5 ∨ b = 15 ∨ b = 35 ∨ b = 45 ∨ b = 55 ∨ b = 65 ∨ b = 75 ∨ b = 85 ∨ b = 95 ∨ b = 105 ∨ b = 117 ∨ b = 127
theorem sh_5 : am_sh 5 := by unfold am_sh; decide
theorem sh_15 : am_sh 15 := by unfold am_sh; decide
theorem sh_35 : am_sh 35 := by unfold am_sh; decide
theorem sh_45 : am_sh 45 := by unfold am_sh; decide
theorem sh_55 : am_sh 55 := by unfold am_sh; decide
theorem sh_65 : am_sh 65 := by unfold am_sh; decide
theorem sh_75 : am_sh 75 := by unfold am_sh; decide
theorem sh_85 : am_sh 85 := by unfold am_sh; decide
theorem sh_95 : am_sh 95 := by unfold am_sh; decide
theorem sh_105 : am_sh 105 := by unfold am_sh; decide
theorem sh_117 : am_sh 117 := by unfold am_sh; decide
theorem sh_127 : am_sh 127 := by unfold am_sh; decide
theorem am_sh_at {b : Int} (hb : am_sh b) : am_at 159 b 2 := by
  rcases hb with rfl | rfl | rfl | rfl | rfl | rfl | rfl | rfl | rfl | rfl | rfl | rfl <;> exact ⟨by decide, by decide, by decide, rfl⟩
theorem am_sh_rg {b : Int} (hb : am_sh b) : 0 ≤ b ∧ b < 1000 := by
  rcases hb with rfl | rfl | rfl | rfl | rfl | rfl | rfl | rfl | rfl | rfl | rfl | rfl <;> decide
theorem am_sa_1 {b : Int} (hb : am_sh b) : am_ar 159 (b + 1) 101 12 := by
  rcases hb with rfl | rfl | rfl | rfl | rfl | rfl | rfl | rfl | rfl | rfl | rfl | rfl <;> exact ⟨by decide, by decide, by decide, rfl⟩
theorem am_sa_2 {b : Int} (hb : am_sh b) : am_ar 159 (b + 2) 100 132 := by
  rcases hb with rfl | rfl | rfl | rfl | rfl | rfl | rfl | rfl | rfl | rfl | rfl | rfl <;> exact ⟨by decide, by decide, by decide, rfl⟩
theorem am_sa_3 {b : Int} (hb : am_sh b) : am_ar 159 (b + 3) 100 12 := by
  rcases hb with rfl | rfl | rfl | rfl | rfl | rfl | rfl | rfl | rfl | rfl | rfl | rfl <;> exact ⟨by decide, by decide, by decide, rfl⟩
theorem am_sa_4 {b : Int} (hb : am_sh b) : am_ar 159 (b + 4) 100 24 := by
  rcases hb with rfl | rfl | rfl | rfl | rfl | rfl | rfl | rfl | rfl | rfl | rfl | rfl <;> exact ⟨by decide, by decide, by decide, rfl⟩
theorem am_sa_5 {b : Int} (hb : am_sh b) : am_ar 159 (b + 5) 100 150 := by
  rcases hb with rfl | rfl | rfl | rfl | rfl | rfl | rfl | rfl | rfl | rfl | rfl | rfl <;> exact ⟨by decide, by decide, by decide, rfl⟩
theorem am_sa_6 {b : Int} (hb : am_sh b) : am_ar 159 (b + 6) 100 4 := by
  rcases hb with rfl | rfl | rfl | rfl | rfl | rfl | rfl | rfl | rfl | rfl | rfl | rfl <;> exact ⟨by decide, by decide, by decide, rfl⟩
theorem am_sa_7 {b : Int} (hb : am_sh b) : am_ar 159 (b + 7) 100 4 := by
  rcases hb with rfl | rfl | rfl | rfl | rfl | rfl | rfl | rfl | rfl | rfl | rfl | rfl <;> exact ⟨by decide, by decide, by decide, rfl⟩
theorem am_sa_8 {b : Int} (hb : am_sh b) : am_ar 159 (b + 8) 100 120 := by
  rcases hb with rfl | rfl | rfl | rfl | rfl | rfl | rfl | rfl | rfl | rfl | rfl | rfl <;> exact ⟨by decide, by decide, by decide, rfl⟩
theorem am_sa_9 {b : Int} (hb : am_sh b) : am_ar 159 (b + 9) 100 40 := by
  rcases hb with rfl | rfl | rfl | rfl | rfl | rfl | rfl | rfl | rfl | rfl | rfl | rfl <;> exact ⟨by decide, by decide, by decide, rfl⟩
theorem am_sa_rg {n : Nat} {x : Int} {kd len : Nat} (h : am_ar n x kd len) (hn : n ≤ 159 := by first | decide | omega) : 0 ≤ x ∧ x < 1000 := ⟨h.1, by have := h.2.1; omega⟩
theorem am_sh_rv {b f r : Int} (hb : am_sh b) (hf : 9 ≤ f ∧ f < 18 ∧ r = f - 8) : am_RV b.toNat f.toNat = some (b + r) := by
  obtain ⟨h1, h2, rfl⟩ := hf
  obtain ⟨k, rfl⟩ : ∃ k : Nat, f = k := ⟨f.toNat, by omega⟩
  have h3 : k = 9 ∨ k = 10 ∨ k = 11 ∨ k = 12 ∨ k = 13 ∨ k = 14 ∨ k = 15 ∨ k = 16 ∨ k = 17 := by omega
  rcases hb with rfl | rfl | rfl | rfl | rfl | rfl | rfl | rfl | rfl | rfl | rfl | rfl <;> rcases h3 with rfl | rfl | rfl | rfl | rfl | rfl | rfl | rfl | rfl <;> decide
theorem aw_shR {M : AMM} {d mc ms : Nat} {K : AO → Nat → AH → Prop} {pc : Nat} {ls st : List AV} {h : AH} {b : Int} {idx : Nat} (f r : Int) (hb : am_sh b) (hdg : decode M.2.1 pc = .ok (.getfield idx, 3)) (hw : am_fl M.1.cls idx 2 f) (hf : 9 ≤ f ∧ f < 18 ∧ r = f - 8) (k : AW M d mc ms K 159 (pc + 3) ls ((2, b + r) :: st) h) : AW M d mc ms K 159 pc ls ((2, b) :: st) h := by
  refine aw_getR f rfl hdg hw (am_sh_at hb) ?_ (am_sh_rv hb hf) k
  obtain ⟨h1, h2, -⟩ := hf
  obtain ⟨j, rfl⟩ : ∃ j : Nat, f = j := ⟨f.toNat, by omega⟩
  have h3 : j = 9 ∨ j = 10 ∨ j = 11 ∨ j = 12 ∨ j = 13 ∨ j = 14 ∨ j = 15 ∨ j = 16 ∨ j = 17 := by omega
  rcases h3 with rfl | rfl | rfl | rfl | rfl | rfl | rfl | rfl | rfl <;> rfl
theorem aw_iaddR {M : AMM} {d mc ms : Nat} {K : AO → Nat → AH → Prop} {n pc : Nat} {ls st : List AV} {h : AH} {a b : Int} (hr : -2147483648 ≤ a + b ∧ a + b < 2147483648) (hdg : decode M.2.1 pc = .ok (.iadd, 1)) (k : AW M d mc ms K n (pc + 1) ls ((0, a + b) :: st) h) : AW M d mc ms K n pc ls ((0, b) :: (0, a) :: st) h := aw_iadd hdg (by rw [wr_id hr.1 hr.2]; exact k)
theorem aw_isubR {M : AMM} {d mc ms : Nat} {K : AO → Nat → AH → Prop} {n pc : Nat} {ls st : List AV} {h : AH} {a b : Int} (hr : -2147483648 ≤ a - b ∧ a - b < 2147483648) (hdg : decode M.2.1 pc = .ok (.isub, 1)) (k : AW M d mc ms K n (pc + 1) ls ((0, a - b) :: st) h) : AW M d mc ms K n pc ls ((0, b) :: (0, a) :: st) h := aw_isub hdg (by rw [wr_id hr.1 hr.2]; exact k)
theorem aw_imulR {M : AMM} {d mc ms : Nat} {K : AO → Nat → AH → Prop} {n pc : Nat} {ls st : List AV} {h : AH} {a b : Int} (hr : -2147483648 ≤ a * b ∧ a * b < 2147483648) (hdg : decode M.2.1 pc = .ok (.imul, 1)) (k : AW M d mc ms K n (pc + 1) ls ((0, a * b) :: st) h) : AW M d mc ms K n pc ls ((0, b) :: (0, a) :: st) h := aw_imul hdg (by rw [wr_id hr.1 hr.2]; exact k)
theorem aw_laddR {M : AMM} {d mc ms : Nat} {K : AO → Nat → AH → Prop} {n pc : Nat} {ls st : List AV} {h : AH} {a b : Int} (hr : -9223372036854775808 ≤ a + b ∧ a + b < 9223372036854775808) (hdg : decode M.2.1 pc = .ok (.ladd, 1)) (k : AW M d mc ms K n (pc + 1) ls ((1, a + b) :: st) h) : AW M d mc ms K n pc ls ((1, b) :: (1, a) :: st) h := aw_ladd hdg (by rw [wrl_id hr.1 hr.2]; exact k)
theorem aw_lsubR {M : AMM} {d mc ms : Nat} {K : AO → Nat → AH → Prop} {n pc : Nat} {ls st : List AV} {h : AH} {a b : Int} (hr : -9223372036854775808 ≤ a - b ∧ a - b < 9223372036854775808) (hdg : decode M.2.1 pc = .ok (.lsub, 1)) (k : AW M d mc ms K n (pc + 1) ls ((1, a - b) :: st) h) : AW M d mc ms K n pc ls ((1, b) :: (1, a) :: st) h := aw_lsub hdg (by rw [wrl_id hr.1 hr.2]; exact k)
theorem aw_lmulR {M : AMM} {d mc ms : Nat} {K : AO → Nat → AH → Prop} {n pc : Nat} {ls st : List AV} {h : AH} {a b : Int} (hr : -9223372036854775808 ≤ a * b ∧ a * b < 9223372036854775808) (hdg : decode M.2.1 pc = .ok (.lmul, 1)) (k : AW M d mc ms K n (pc + 1) ls ((1, a * b) :: st) h) : AW M d mc ms K n pc ls ((1, b) :: (1, a) :: st) h := aw_lmul hdg (by rw [wrl_id hr.1 hr.2]; exact k)
theorem aw_inegR {M : AMM} {d mc ms : Nat} {K : AO → Nat → AH → Prop} {n pc : Nat} {ls st : List AV} {h : AH} {a : Int} (hr : -2147483648 ≤ -a ∧ -a < 2147483648) (hdg : decode M.2.1 pc = .ok (.ineg, 1)) (k : AW M d mc ms K n (pc + 1) ls ((0, -a) :: st) h) : AW M d mc ms K n pc ls ((0, a) :: st) h := aw_ineg hdg (by rw [wr_id hr.1 hr.2]; exact k)
theorem a_iiR0 {d mc ms : Nat} {M : AMM} {K : AO → Nat → AH → Prop} {n pc : Nat} {t st : List AV} {h : AH} {x a : Int} (hr : -2147483648 ≤ x + a ∧ x + a < 2147483648) (hl : ((0, x) :: t).length = M.2.2.1) (hdg : decode M.2.1 pc = .ok (.iinc 0 a, 3)) (k : AW M d mc ms K n (pc + 3) ((0, x + a) :: t) st h) : AW M d mc ms K n pc ((0, x) :: t) st h := a_ii0 hl hdg (by rw [wr_id hr.1 hr.2]; exact k)
theorem a_iiR1 {d mc ms : Nat} {M : AMM} {K : AO → Nat → AH → Prop} {n pc : Nat} {v0 : AV} {t st : List AV} {h : AH} {x a : Int} (hr : -2147483648 ≤ x + a ∧ x + a < 2147483648) (hl : (v0 :: (0, x) :: t).length = M.2.2.1) (h2 : am_n2 v0 = true) (hdg : decode M.2.1 pc = .ok (.iinc 1 a, 3)) (k : AW M d mc ms K n (pc + 3) (v0 :: (0, x + a) :: t) st h) : AW M d mc ms K n pc (v0 :: (0, x) :: t) st h := a_ii1 hl h2 hdg (by rw [wr_id hr.1 hr.2]; exact k)
theorem a_iiR2 {d mc ms : Nat} {M : AMM} {K : AO → Nat → AH → Prop} {n pc : Nat} {v0 v1 : AV} {t st : List AV} {h : AH} {x a : Int} (hr : -2147483648 ≤ x + a ∧ x + a < 2147483648) (hl : (v0 :: v1 :: (0, x) :: t).length = M.2.2.1) (h2 : am_n2 v1 = true) (hdg : decode M.2.1 pc = .ok (.iinc 2 a, 3)) (k : AW M d mc ms K n (pc + 3) (v0 :: v1 :: (0, x + a) :: t) st h) : AW M d mc ms K n pc (v0 :: v1 :: (0, x) :: t) st h := a_ii2 hl h2 hdg (by rw [wr_id hr.1 hr.2]; exact k)
theorem a_iiR3 {d mc ms : Nat} {M : AMM} {K : AO → Nat → AH → Prop} {n pc : Nat} {v0 v1 v2 : AV} {t st : List AV} {h : AH} {x a : Int} (hr : -2147483648 ≤ x + a ∧ x + a < 2147483648) (hl : (v0 :: v1 :: v2 :: (0, x) :: t).length = M.2.2.1) (h2 : am_n2 v2 = true) (hdg : decode M.2.1 pc = .ok (.iinc 3 a, 3)) (k : AW M d mc ms K n (pc + 3) (v0 :: v1 :: v2 :: (0, x + a) :: t) st h) : AW M d mc ms K n pc (v0 :: v1 :: v2 :: (0, x) :: t) st h := a_ii3 hl h2 hdg (by rw [wr_id hr.1 hr.2]; exact k)
theorem a_iiR4 {d mc ms : Nat} {M : AMM} {K : AO → Nat → AH → Prop} {n pc : Nat} {v0 v1 v2 v3 : AV} {t st : List AV} {h : AH} {x a : Int} (hr : -2147483648 ≤ x + a ∧ x + a < 2147483648) (hl : (v0 :: v1 :: v2 :: v3 :: (0, x) :: t).length = M.2.2.1) (h2 : am_n2 v3 = true) (hdg : decode M.2.1 pc = .ok (.iinc 4 a, 3)) (k : AW M d mc ms K n (pc + 3) (v0 :: v1 :: v2 :: v3 :: (0, x + a) :: t) st h) : AW M d mc ms K n pc (v0 :: v1 :: v2 :: v3 :: (0, x) :: t) st h := a_ii4 hl h2 hdg (by rw [wr_id hr.1 hr.2]; exact k)
theorem a_iiR5 {d mc ms : Nat} {M : AMM} {K : AO → Nat → AH → Prop} {n pc : Nat} {v0 v1 v2 v3 v4 : AV} {t st : List AV} {h : AH} {x a : Int} (hr : -2147483648 ≤ x + a ∧ x + a < 2147483648) (hl : (v0 :: v1 :: v2 :: v3 :: v4 :: (0, x) :: t).length = M.2.2.1) (h2 : am_n2 v4 = true) (hdg : decode M.2.1 pc = .ok (.iinc 5 a, 3)) (k : AW M d mc ms K n (pc + 3) (v0 :: v1 :: v2 :: v3 :: v4 :: (0, x + a) :: t) st h) : AW M d mc ms K n pc (v0 :: v1 :: v2 :: v3 :: v4 :: (0, x) :: t) st h := a_ii5 hl h2 hdg (by rw [wr_id hr.1 hr.2]; exact k)
theorem a_iiR6 {d mc ms : Nat} {M : AMM} {K : AO → Nat → AH → Prop} {n pc : Nat} {v0 v1 v2 v3 v4 v5 : AV} {t st : List AV} {h : AH} {x a : Int} (hr : -2147483648 ≤ x + a ∧ x + a < 2147483648) (hl : (v0 :: v1 :: v2 :: v3 :: v4 :: v5 :: (0, x) :: t).length = M.2.2.1) (h2 : am_n2 v5 = true) (hdg : decode M.2.1 pc = .ok (.iinc 6 a, 3)) (k : AW M d mc ms K n (pc + 3) (v0 :: v1 :: v2 :: v3 :: v4 :: v5 :: (0, x + a) :: t) st h) : AW M d mc ms K n pc (v0 :: v1 :: v2 :: v3 :: v4 :: v5 :: (0, x) :: t) st h := a_ii6 hl h2 hdg (by rw [wr_id hr.1 hr.2]; exact k)
theorem a_iiR7 {d mc ms : Nat} {M : AMM} {K : AO → Nat → AH → Prop} {n pc : Nat} {v0 v1 v2 v3 v4 v5 v6 : AV} {t st : List AV} {h : AH} {x a : Int} (hr : -2147483648 ≤ x + a ∧ x + a < 2147483648) (hl : (v0 :: v1 :: v2 :: v3 :: v4 :: v5 :: v6 :: (0, x) :: t).length = M.2.2.1) (h2 : am_n2 v6 = true) (hdg : decode M.2.1 pc = .ok (.iinc 7 a, 3)) (k : AW M d mc ms K n (pc + 3) (v0 :: v1 :: v2 :: v3 :: v4 :: v5 :: v6 :: (0, x + a) :: t) st h) : AW M d mc ms K n pc (v0 :: v1 :: v2 :: v3 :: v4 :: v5 :: v6 :: (0, x) :: t) st h := a_ii7 hl h2 hdg (by rw [wr_id hr.1 hr.2]; exact k)
theorem a_iiR8 {d mc ms : Nat} {M : AMM} {K : AO → Nat → AH → Prop} {n pc : Nat} {v0 v1 v2 v3 v4 v5 v6 v7 : AV} {t st : List AV} {h : AH} {x a : Int} (hr : -2147483648 ≤ x + a ∧ x + a < 2147483648) (hl : (v0 :: v1 :: v2 :: v3 :: v4 :: v5 :: v6 :: v7 :: (0, x) :: t).length = M.2.2.1) (h2 : am_n2 v7 = true) (hdg : decode M.2.1 pc = .ok (.iinc 8 a, 3)) (k : AW M d mc ms K n (pc + 3) (v0 :: v1 :: v2 :: v3 :: v4 :: v5 :: v6 :: v7 :: (0, x + a) :: t) st h) : AW M d mc ms K n pc (v0 :: v1 :: v2 :: v3 :: v4 :: v5 :: v6 :: v7 :: (0, x) :: t) st h := a_ii8 hl h2 hdg (by rw [wr_id hr.1 hr.2]; exact k)
theorem a_iiR9 {d mc ms : Nat} {M : AMM} {K : AO → Nat → AH → Prop} {n pc : Nat} {v0 v1 v2 v3 v4 v5 v6 v7 v8 : AV} {t st : List AV} {h : AH} {x a : Int} (hr : -2147483648 ≤ x + a ∧ x + a < 2147483648) (hl : (v0 :: v1 :: v2 :: v3 :: v4 :: v5 :: v6 :: v7 :: v8 :: (0, x) :: t).length = M.2.2.1) (h2 : am_n2 v8 = true) (hdg : decode M.2.1 pc = .ok (.iinc 9 a, 3)) (k : AW M d mc ms K n (pc + 3) (v0 :: v1 :: v2 :: v3 :: v4 :: v5 :: v6 :: v7 :: v8 :: (0, x + a) :: t) st h) : AW M d mc ms K n pc (v0 :: v1 :: v2 :: v3 :: v4 :: v5 :: v6 :: v7 :: v8 :: (0, x) :: t) st h := a_ii9 hl h2 hdg (by rw [wr_id hr.1 hr.2]; exact k)
theorem a_iiR10 {d mc ms : Nat} {M : AMM} {K : AO → Nat → AH → Prop} {n pc : Nat} {v0 v1 v2 v3 v4 v5 v6 v7 v8 v9 : AV} {t st : List AV} {h : AH} {x a : Int} (hr : -2147483648 ≤ x + a ∧ x + a < 2147483648) (hl : (v0 :: v1 :: v2 :: v3 :: v4 :: v5 :: v6 :: v7 :: v8 :: v9 :: (0, x) :: t).length = M.2.2.1) (h2 : am_n2 v9 = true) (hdg : decode M.2.1 pc = .ok (.iinc 10 a, 3)) (k : AW M d mc ms K n (pc + 3) (v0 :: v1 :: v2 :: v3 :: v4 :: v5 :: v6 :: v7 :: v8 :: v9 :: (0, x + a) :: t) st h) : AW M d mc ms K n pc (v0 :: v1 :: v2 :: v3 :: v4 :: v5 :: v6 :: v7 :: v8 :: v9 :: (0, x) :: t) st h := a_ii10 hl h2 hdg (by rw [wr_id hr.1 hr.2]; exact k)
theorem a_iiR11 {d mc ms : Nat} {M : AMM} {K : AO → Nat → AH → Prop} {n pc : Nat} {v0 v1 v2 v3 v4 v5 v6 v7 v8 v9 v10 : AV} {t st : List AV} {h : AH} {x a : Int} (hr : -2147483648 ≤ x + a ∧ x + a < 2147483648) (hl : (v0 :: v1 :: v2 :: v3 :: v4 :: v5 :: v6 :: v7 :: v8 :: v9 :: v10 :: (0, x) :: t).length = M.2.2.1) (h2 : am_n2 v10 = true) (hdg : decode M.2.1 pc = .ok (.iinc 11 a, 3)) (k : AW M d mc ms K n (pc + 3) (v0 :: v1 :: v2 :: v3 :: v4 :: v5 :: v6 :: v7 :: v8 :: v9 :: v10 :: (0, x + a) :: t) st h) : AW M d mc ms K n pc (v0 :: v1 :: v2 :: v3 :: v4 :: v5 :: v6 :: v7 :: v8 :: v9 :: v10 :: (0, x) :: t) st h := a_ii11 hl h2 hdg (by rw [wr_id hr.1 hr.2]; exact k)
theorem a_iiR12 {d mc ms : Nat} {M : AMM} {K : AO → Nat → AH → Prop} {n pc : Nat} {v0 v1 v2 v3 v4 v5 v6 v7 v8 v9 v10 v11 : AV} {t st : List AV} {h : AH} {x a : Int} (hr : -2147483648 ≤ x + a ∧ x + a < 2147483648) (hl : (v0 :: v1 :: v2 :: v3 :: v4 :: v5 :: v6 :: v7 :: v8 :: v9 :: v10 :: v11 :: (0, x) :: t).length = M.2.2.1) (h2 : am_n2 v11 = true) (hdg : decode M.2.1 pc = .ok (.iinc 12 a, 3)) (k : AW M d mc ms K n (pc + 3) (v0 :: v1 :: v2 :: v3 :: v4 :: v5 :: v6 :: v7 :: v8 :: v9 :: v10 :: v11 :: (0, x + a) :: t) st h) : AW M d mc ms K n pc (v0 :: v1 :: v2 :: v3 :: v4 :: v5 :: v6 :: v7 :: v8 :: v9 :: v10 :: v11 :: (0, x) :: t) st h := a_ii12 hl h2 hdg (by rw [wr_id hr.1 hr.2]; exact k)
theorem a_iiR13 {d mc ms : Nat} {M : AMM} {K : AO → Nat → AH → Prop} {n pc : Nat} {v0 v1 v2 v3 v4 v5 v6 v7 v8 v9 v10 v11 v12 : AV} {t st : List AV} {h : AH} {x a : Int} (hr : -2147483648 ≤ x + a ∧ x + a < 2147483648) (hl : (v0 :: v1 :: v2 :: v3 :: v4 :: v5 :: v6 :: v7 :: v8 :: v9 :: v10 :: v11 :: v12 :: (0, x) :: t).length = M.2.2.1) (h2 : am_n2 v12 = true) (hdg : decode M.2.1 pc = .ok (.iinc 13 a, 3)) (k : AW M d mc ms K n (pc + 3) (v0 :: v1 :: v2 :: v3 :: v4 :: v5 :: v6 :: v7 :: v8 :: v9 :: v10 :: v11 :: v12 :: (0, x + a) :: t) st h) : AW M d mc ms K n pc (v0 :: v1 :: v2 :: v3 :: v4 :: v5 :: v6 :: v7 :: v8 :: v9 :: v10 :: v11 :: v12 :: (0, x) :: t) st h := a_ii13 hl h2 hdg (by rw [wr_id hr.1 hr.2]; exact k)
def tab0 (j : Int) : Int := ([0, 1, 3, 4, 3] : List Int).getD j.toNat 0
theorem tab0_rg (j : Int) : -1 ≤ tab0 j ∧ tab0 j ≤ 4 := by
  unfold tab0
  generalize j.toNat = k
  match k with
  | 0 => decide
  | 1 => decide
  | 2 => decide
  | 3 => decide
  | 4 => decide
  | k + 5 => exact ⟨by simp, by simp⟩
theorem aw_tab0 {M : AMM} {d mc ms : Nat} {K : AO → Nat → AH → Prop} {n pc : Nat} {ls st : List AV} {h : AH} {j : Int} (hdg : decode M.2.1 pc = .ok (.iaload, 1)) (hj : 0 ≤ j ∧ j < 5) (k : AW M d mc ms K n (pc + 1) ls ((0, tab0 j) :: st) h) : AW M d mc ms K n pc ls ((0, j) :: (2, 1000) :: st) h := aw_tald (i := 0) hdg rfl rfl hj (v := tab0 j) rfl (by have := tab0_rg j; omega) k
def tab1 (j : Int) : Int := ([0, 1, 1, 1, 0, -1, -1, -1] : List Int).getD j.toNat 0
theorem tab1_rg (j : Int) : -1 ≤ tab1 j ∧ tab1 j ≤ 4 := by
  unfold tab1
  generalize j.toNat = k
  match k with
  | 0 => decide
  | 1 => decide
  | 2 => decide
  | 3 => decide
  | 4 => decide
  | 5 => decide
  | 6 => decide
  | 7 => decide
  | k + 8 => exact ⟨by simp, by simp⟩
theorem aw_tab1 {M : AMM} {d mc ms : Nat} {K : AO → Nat → AH → Prop} {n pc : Nat} {ls st : List AV} {h : AH} {j : Int} (hdg : decode M.2.1 pc = .ok (.iaload, 1)) (hj : 0 ≤ j ∧ j < 8) (k : AW M d mc ms K n (pc + 1) ls ((0, tab1 j) :: st) h) : AW M d mc ms K n pc ls ((0, j) :: (2, 1001) :: st) h := aw_tald (i := 1) hdg rfl rfl hj (v := tab1 j) rfl (by have := tab1_rg j; omega) k
def tab2 (j : Int) : Int := ([-1, -1, 0, 1, 1, 1, 0, -1] : List Int).getD j.toNat 0
theorem tab2_rg (j : Int) : -1 ≤ tab2 j ∧ tab2 j ≤ 4 := by
  unfold tab2
  generalize j.toNat = k
  match k with
  | 0 => decide
  | 1 => decide
  | 2 => decide
  | 3 => decide
  | 4 => decide
  | 5 => decide
  | 6 => decide
  | 7 => decide
  | k + 8 => exact ⟨by simp, by simp⟩
theorem aw_tab2 {M : AMM} {d mc ms : Nat} {K : AO → Nat → AH → Prop} {n pc : Nat} {ls st : List AV} {h : AH} {j : Int} (hdg : decode M.2.1 pc = .ok (.iaload, 1)) (hj : 0 ≤ j ∧ j < 8) (k : AW M d mc ms K n (pc + 1) ls ((0, tab2 j) :: st) h) : AW M d mc ms K n pc ls ((0, j) :: (2, 1002) :: st) h := aw_tald (i := 2) hdg rfl rfl hj (v := tab2 j) rfl (by have := tab2_rg j; omega) k
def tab3 (j : Int) : Int := ([1, 1, 3, 2, 2] : List Int).getD j.toNat 0
theorem tab3_rg (j : Int) : -1 ≤ tab3 j ∧ tab3 j ≤ 4 := by
  unfold tab3
  generalize j.toNat = k
  match k with
  | 0 => decide
  | 1 => decide
  | 2 => decide
  | 3 => decide
  | 4 => decide
  | k + 5 => exact ⟨by simp, by simp⟩
theorem aw_tab3 {M : AMM} {d mc ms : Nat} {K : AO → Nat → AH → Prop} {n pc : Nat} {ls st : List AV} {h : AH} {j : Int} (hdg : decode M.2.1 pc = .ok (.iaload, 1)) (hj : 0 ≤ j ∧ j < 5) (k : AW M d mc ms K n (pc + 1) ls ((0, tab3 j) :: st) h) : AW M d mc ms K n pc ls ((0, j) :: (2, 1003) :: st) h := aw_tald (i := 3) hdg rfl rfl hj (v := tab3 j) rfl (by have := tab3_rg j; omega) k
theorem am_ci {M : AMM} {d mc ms pc nx n : Nat} {K : AO → Nat → AH → Prop} {ls rest : List AV} {h : AH} {v : AV} (k : AW M d mc ms K n nx ls (v :: rest) h) : am_cont M d mc ms K pc nx ls rest (.inl (some v)) n h := k
theorem am_cv {M : AMM} {d mc ms pc nx n : Nat} {K : AO → Nat → AH → Prop} {ls rest : List AV} {h : AH} (k : AW M d mc ms K n nx ls rest h) : am_cont M d mc ms K pc nx ls rest (.inl none) n h := k
theorem am_cx {M : AMM} {d mc ms pc nx n : Nat} {K : AO → Nat → AH → Prop} {ls rest : List AV} {h : AH} {E : String} (hh : M.2.2.2.2 = []) (k : K (.inr E) n h) : am_cont M d mc ms K pc nx ls rest (.inr E) n h := ax_out hh k
theorem aw_inv {M : AMM} {d mc ms : Nat} {K : AO → Nat → AH → Prop} {n pc : Nat} {ls st : List AV} {h : AH} (k : am_inv n h → am_oks ls → am_oks st → AW M d mc ms K n pc ls st h) : AW M d mc ms K n pc ls st h := fun z p l e R s m args below meth c H locs cells slots MC MS la X => k X.2.2.2.2.1 X.2.2.2.2.2.1 X.2.2.2.2.2.2.1 z p l e R s m args below meth c H locs cells slots MC MS la X
theorem ac_inv {M : AMM} {d mc ms n : Nat} {as : List AV} {h : AH} {K : AO → Nat → AH → Prop} (k : am_oks as → am_inv n h → AC M d mc ms n as h K) : AC M d mc ms n as h K := fun h1 h2 => k h1 h2 h1 h2
theorem vx_mono {l : Launch} {y : MethodName} {ws : List Cond} {rm : Room} {Pc : Array Value → State → Prop} {Qc Qc' : Array Value → State → Outcome → State → Prop} {XC XC' : String → State → State → Prop} {mc ms : Nat} {free : Addr → Prop} (h1 : ∀ a st o t, Qc a st o t → Qc' a st o t) (h2 : ∀ E st t, XC E st t → XC' E st t) (hM : vx_Met l y ws rm Pc Qc XC mc ms free) : vx_Met l y ws rm Pc Qc' XC' mc ms free := by
  intro p e ha hc hk s m args below hf happ hP hK
  obtain ⟨t, o, q1, q2, q3, q4⟩ := hM p e ha hc hk s m args below hf happ hP hK
  refine ⟨t, o, q1, q2, q3, ?_⟩
  rcases q4 with ⟨q4, q5⟩ | ⟨q, e0, E, ce, L, q5, q6⟩
  · exact Or.inl ⟨h1 _ _ _ _ q4, q5⟩
  · exact Or.inr ⟨q, e0, E, ce, L, h2 _ _ _ q5, q6⟩
theorem AC.mono {M : AMM} {d mc ms n : Nat} {as : List AV} {h : AH} {K K' : AO → Nat → AH → Prop} (hK : ∀ o n h, K o n h → K' o n h) (k : AC M d mc ms n as h K) : AC M d mc ms n as h K' := by
  intro h1 h2 z l hl
  have hm := k h1 h2 z l hl
  exact vx_mono (fun a st o t q => by obtain ⟨r, n', h', q1, q2⟩ := q; exact ⟨r, n', h', hK _ _ _ q1, q2⟩) (fun E st t q => by obtain ⟨n', h', q1, q2⟩ := q; exact ⟨n', h', hK _ _ _ q1, q2⟩) hm
theorem aw_if_eq_y {M : AMM} {d mc ms : Nat} {K : AO → Nat → AH → Prop} {n pc : Nat} {ls st : List AV} {h : AH} {a off : Int} (tgt : Nat) (hdg : decode M.2.1 pc = .ok (.ifCond .eq off, 3)) (ht : (pc : Int) + off = (tgt : Int)) (hc : a = 0) (k : AW M d mc ms K n tgt ls st h) : AW M d mc ms K n pc ls ((0, a) :: st) h := aw_if_eq tgt hdg ht (fun _ => k) (fun q => absurd hc q)
theorem aw_if_eq_n {M : AMM} {d mc ms : Nat} {K : AO → Nat → AH → Prop} {n pc : Nat} {ls st : List AV} {h : AH} {a off : Int} (tgt : Nat) (hdg : decode M.2.1 pc = .ok (.ifCond .eq off, 3)) (ht : (pc : Int) + off = (tgt : Int)) (hc : ¬ (a = 0)) (k : AW M d mc ms K n (pc + 3) ls st h) : AW M d mc ms K n pc ls ((0, a) :: st) h := aw_if_eq tgt hdg ht (fun q => absurd q hc) (fun _ => k)
theorem aw_if_ne_y {M : AMM} {d mc ms : Nat} {K : AO → Nat → AH → Prop} {n pc : Nat} {ls st : List AV} {h : AH} {a off : Int} (tgt : Nat) (hdg : decode M.2.1 pc = .ok (.ifCond .ne off, 3)) (ht : (pc : Int) + off = (tgt : Int)) (hc : ¬ a = 0) (k : AW M d mc ms K n tgt ls st h) : AW M d mc ms K n pc ls ((0, a) :: st) h := aw_if_ne tgt hdg ht (fun _ => k) (fun q => absurd hc (fun x => x q))
theorem aw_if_ne_n {M : AMM} {d mc ms : Nat} {K : AO → Nat → AH → Prop} {n pc : Nat} {ls st : List AV} {h : AH} {a off : Int} (tgt : Nat) (hdg : decode M.2.1 pc = .ok (.ifCond .ne off, 3)) (ht : (pc : Int) + off = (tgt : Int)) (hc : a = 0) (k : AW M d mc ms K n (pc + 3) ls st h) : AW M d mc ms K n pc ls ((0, a) :: st) h := aw_if_ne tgt hdg ht (fun q => absurd hc q) (fun _ => k)
theorem aw_if_lt_y {M : AMM} {d mc ms : Nat} {K : AO → Nat → AH → Prop} {n pc : Nat} {ls st : List AV} {h : AH} {a off : Int} (tgt : Nat) (hdg : decode M.2.1 pc = .ok (.ifCond .lt off, 3)) (ht : (pc : Int) + off = (tgt : Int)) (hc : a < 0) (k : AW M d mc ms K n tgt ls st h) : AW M d mc ms K n pc ls ((0, a) :: st) h := aw_if_lt tgt hdg ht (fun _ => k) (fun q => absurd hc q)
theorem aw_if_lt_n {M : AMM} {d mc ms : Nat} {K : AO → Nat → AH → Prop} {n pc : Nat} {ls st : List AV} {h : AH} {a off : Int} (tgt : Nat) (hdg : decode M.2.1 pc = .ok (.ifCond .lt off, 3)) (ht : (pc : Int) + off = (tgt : Int)) (hc : ¬ (a < 0)) (k : AW M d mc ms K n (pc + 3) ls st h) : AW M d mc ms K n pc ls ((0, a) :: st) h := aw_if_lt tgt hdg ht (fun q => absurd q hc) (fun _ => k)
theorem aw_if_ge_y {M : AMM} {d mc ms : Nat} {K : AO → Nat → AH → Prop} {n pc : Nat} {ls st : List AV} {h : AH} {a off : Int} (tgt : Nat) (hdg : decode M.2.1 pc = .ok (.ifCond .ge off, 3)) (ht : (pc : Int) + off = (tgt : Int)) (hc : 0 ≤ a) (k : AW M d mc ms K n tgt ls st h) : AW M d mc ms K n pc ls ((0, a) :: st) h := aw_if_ge tgt hdg ht (fun _ => k) (fun q => absurd hc q)
theorem aw_if_ge_n {M : AMM} {d mc ms : Nat} {K : AO → Nat → AH → Prop} {n pc : Nat} {ls st : List AV} {h : AH} {a off : Int} (tgt : Nat) (hdg : decode M.2.1 pc = .ok (.ifCond .ge off, 3)) (ht : (pc : Int) + off = (tgt : Int)) (hc : ¬ (0 ≤ a)) (k : AW M d mc ms K n (pc + 3) ls st h) : AW M d mc ms K n pc ls ((0, a) :: st) h := aw_if_ge tgt hdg ht (fun q => absurd q hc) (fun _ => k)
theorem aw_if_gt_y {M : AMM} {d mc ms : Nat} {K : AO → Nat → AH → Prop} {n pc : Nat} {ls st : List AV} {h : AH} {a off : Int} (tgt : Nat) (hdg : decode M.2.1 pc = .ok (.ifCond .gt off, 3)) (ht : (pc : Int) + off = (tgt : Int)) (hc : 0 < a) (k : AW M d mc ms K n tgt ls st h) : AW M d mc ms K n pc ls ((0, a) :: st) h := aw_if_gt tgt hdg ht (fun _ => k) (fun q => absurd hc q)
theorem aw_if_gt_n {M : AMM} {d mc ms : Nat} {K : AO → Nat → AH → Prop} {n pc : Nat} {ls st : List AV} {h : AH} {a off : Int} (tgt : Nat) (hdg : decode M.2.1 pc = .ok (.ifCond .gt off, 3)) (ht : (pc : Int) + off = (tgt : Int)) (hc : ¬ (0 < a)) (k : AW M d mc ms K n (pc + 3) ls st h) : AW M d mc ms K n pc ls ((0, a) :: st) h := aw_if_gt tgt hdg ht (fun q => absurd q hc) (fun _ => k)
theorem aw_if_le_y {M : AMM} {d mc ms : Nat} {K : AO → Nat → AH → Prop} {n pc : Nat} {ls st : List AV} {h : AH} {a off : Int} (tgt : Nat) (hdg : decode M.2.1 pc = .ok (.ifCond .le off, 3)) (ht : (pc : Int) + off = (tgt : Int)) (hc : a ≤ 0) (k : AW M d mc ms K n tgt ls st h) : AW M d mc ms K n pc ls ((0, a) :: st) h := aw_if_le tgt hdg ht (fun _ => k) (fun q => absurd hc q)
theorem aw_if_le_n {M : AMM} {d mc ms : Nat} {K : AO → Nat → AH → Prop} {n pc : Nat} {ls st : List AV} {h : AH} {a off : Int} (tgt : Nat) (hdg : decode M.2.1 pc = .ok (.ifCond .le off, 3)) (ht : (pc : Int) + off = (tgt : Int)) (hc : ¬ (a ≤ 0)) (k : AW M d mc ms K n (pc + 3) ls st h) : AW M d mc ms K n pc ls ((0, a) :: st) h := aw_if_le tgt hdg ht (fun q => absurd q hc) (fun _ => k)
theorem at_0 : am_at 159 0 7 := ⟨by decide, by decide, by decide, rfl⟩
theorem at_1 : am_at 159 1 0 := ⟨by decide, by decide, by decide, rfl⟩
theorem at_2 : am_at 159 2 4 := ⟨by decide, by decide, by decide, rfl⟩
theorem ar_3 : am_ar 159 3 100 600 := ⟨by decide, by decide, by decide, rfl⟩
theorem ar_4 : am_ar 159 4 101 4 := ⟨by decide, by decide, by decide, rfl⟩
theorem at_5 : am_at 159 5 2 := ⟨by decide, by decide, by decide, rfl⟩
theorem ar_6 : am_ar 159 6 101 12 := ⟨by decide, by decide, by decide, rfl⟩
theorem ar_7 : am_ar 159 7 100 132 := ⟨by decide, by decide, by decide, rfl⟩
theorem ar_8 : am_ar 159 8 100 12 := ⟨by decide, by decide, by decide, rfl⟩
theorem ar_9 : am_ar 159 9 100 24 := ⟨by decide, by decide, by decide, rfl⟩
theorem ar_10 : am_ar 159 10 100 150 := ⟨by decide, by decide, by decide, rfl⟩
theorem ar_11 : am_ar 159 11 100 4 := ⟨by decide, by decide, by decide, rfl⟩
theorem ar_12 : am_ar 159 12 100 4 := ⟨by decide, by decide, by decide, rfl⟩
theorem ar_13 : am_ar 159 13 100 120 := ⟨by decide, by decide, by decide, rfl⟩
theorem ar_14 : am_ar 159 14 100 40 := ⟨by decide, by decide, by decide, rfl⟩
theorem at_15 : am_at 159 15 2 := ⟨by decide, by decide, by decide, rfl⟩
theorem ar_16 : am_ar 159 16 101 12 := ⟨by decide, by decide, by decide, rfl⟩
theorem ar_17 : am_ar 159 17 100 132 := ⟨by decide, by decide, by decide, rfl⟩
theorem ar_18 : am_ar 159 18 100 12 := ⟨by decide, by decide, by decide, rfl⟩
theorem ar_19 : am_ar 159 19 100 24 := ⟨by decide, by decide, by decide, rfl⟩
theorem ar_20 : am_ar 159 20 100 150 := ⟨by decide, by decide, by decide, rfl⟩
theorem ar_21 : am_ar 159 21 100 4 := ⟨by decide, by decide, by decide, rfl⟩
theorem ar_22 : am_ar 159 22 100 4 := ⟨by decide, by decide, by decide, rfl⟩
theorem ar_23 : am_ar 159 23 100 120 := ⟨by decide, by decide, by decide, rfl⟩
theorem ar_24 : am_ar 159 24 100 40 := ⟨by decide, by decide, by decide, rfl⟩
theorem at_25 : am_at 159 25 5 := ⟨by decide, by decide, by decide, rfl⟩
theorem ar_26 : am_ar 159 26 110 12 := ⟨by decide, by decide, by decide, rfl⟩
theorem ar_27 : am_ar 159 27 100 12 := ⟨by decide, by decide, by decide, rfl⟩
theorem ar_28 : am_ar 159 28 100 12 := ⟨by decide, by decide, by decide, rfl⟩
theorem ar_29 : am_ar 159 29 100 12 := ⟨by decide, by decide, by decide, rfl⟩
theorem ar_30 : am_ar 159 30 100 12 := ⟨by decide, by decide, by decide, rfl⟩
theorem ar_31 : am_ar 159 31 100 144 := ⟨by decide, by decide, by decide, rfl⟩
theorem at_32 : am_at 159 32 1 := ⟨by decide, by decide, by decide, rfl⟩
theorem at_33 : am_at 159 33 3 := ⟨by decide, by decide, by decide, rfl⟩
theorem ar_34 : am_ar 159 34 102 8 := ⟨by decide, by decide, by decide, rfl⟩
theorem at_35 : am_at 159 35 2 := ⟨by decide, by decide, by decide, rfl⟩
theorem ar_36 : am_ar 159 36 101 12 := ⟨by decide, by decide, by decide, rfl⟩
theorem ar_37 : am_ar 159 37 100 132 := ⟨by decide, by decide, by decide, rfl⟩
theorem ar_38 : am_ar 159 38 100 12 := ⟨by decide, by decide, by decide, rfl⟩
theorem ar_39 : am_ar 159 39 100 24 := ⟨by decide, by decide, by decide, rfl⟩
theorem ar_40 : am_ar 159 40 100 150 := ⟨by decide, by decide, by decide, rfl⟩
theorem ar_41 : am_ar 159 41 100 4 := ⟨by decide, by decide, by decide, rfl⟩
theorem ar_42 : am_ar 159 42 100 4 := ⟨by decide, by decide, by decide, rfl⟩
theorem ar_43 : am_ar 159 43 100 120 := ⟨by decide, by decide, by decide, rfl⟩
theorem ar_44 : am_ar 159 44 100 40 := ⟨by decide, by decide, by decide, rfl⟩
theorem at_45 : am_at 159 45 2 := ⟨by decide, by decide, by decide, rfl⟩
theorem ar_46 : am_ar 159 46 101 12 := ⟨by decide, by decide, by decide, rfl⟩
theorem ar_47 : am_ar 159 47 100 132 := ⟨by decide, by decide, by decide, rfl⟩
theorem ar_48 : am_ar 159 48 100 12 := ⟨by decide, by decide, by decide, rfl⟩
theorem ar_49 : am_ar 159 49 100 24 := ⟨by decide, by decide, by decide, rfl⟩
theorem ar_50 : am_ar 159 50 100 150 := ⟨by decide, by decide, by decide, rfl⟩
theorem ar_51 : am_ar 159 51 100 4 := ⟨by decide, by decide, by decide, rfl⟩
theorem ar_52 : am_ar 159 52 100 4 := ⟨by decide, by decide, by decide, rfl⟩
theorem ar_53 : am_ar 159 53 100 120 := ⟨by decide, by decide, by decide, rfl⟩
theorem ar_54 : am_ar 159 54 100 40 := ⟨by decide, by decide, by decide, rfl⟩
theorem at_55 : am_at 159 55 2 := ⟨by decide, by decide, by decide, rfl⟩
theorem ar_56 : am_ar 159 56 101 12 := ⟨by decide, by decide, by decide, rfl⟩
theorem ar_57 : am_ar 159 57 100 132 := ⟨by decide, by decide, by decide, rfl⟩
theorem ar_58 : am_ar 159 58 100 12 := ⟨by decide, by decide, by decide, rfl⟩
theorem ar_59 : am_ar 159 59 100 24 := ⟨by decide, by decide, by decide, rfl⟩
theorem ar_60 : am_ar 159 60 100 150 := ⟨by decide, by decide, by decide, rfl⟩
theorem ar_61 : am_ar 159 61 100 4 := ⟨by decide, by decide, by decide, rfl⟩
theorem ar_62 : am_ar 159 62 100 4 := ⟨by decide, by decide, by decide, rfl⟩
theorem ar_63 : am_ar 159 63 100 120 := ⟨by decide, by decide, by decide, rfl⟩
theorem ar_64 : am_ar 159 64 100 40 := ⟨by decide, by decide, by decide, rfl⟩
theorem at_65 : am_at 159 65 2 := ⟨by decide, by decide, by decide, rfl⟩
theorem ar_66 : am_ar 159 66 101 12 := ⟨by decide, by decide, by decide, rfl⟩
theorem ar_67 : am_ar 159 67 100 132 := ⟨by decide, by decide, by decide, rfl⟩
theorem ar_68 : am_ar 159 68 100 12 := ⟨by decide, by decide, by decide, rfl⟩
theorem ar_69 : am_ar 159 69 100 24 := ⟨by decide, by decide, by decide, rfl⟩
theorem ar_70 : am_ar 159 70 100 150 := ⟨by decide, by decide, by decide, rfl⟩
theorem ar_71 : am_ar 159 71 100 4 := ⟨by decide, by decide, by decide, rfl⟩
theorem ar_72 : am_ar 159 72 100 4 := ⟨by decide, by decide, by decide, rfl⟩
theorem ar_73 : am_ar 159 73 100 120 := ⟨by decide, by decide, by decide, rfl⟩
theorem ar_74 : am_ar 159 74 100 40 := ⟨by decide, by decide, by decide, rfl⟩
theorem at_75 : am_at 159 75 2 := ⟨by decide, by decide, by decide, rfl⟩
theorem ar_76 : am_ar 159 76 101 12 := ⟨by decide, by decide, by decide, rfl⟩
theorem ar_77 : am_ar 159 77 100 132 := ⟨by decide, by decide, by decide, rfl⟩
theorem ar_78 : am_ar 159 78 100 12 := ⟨by decide, by decide, by decide, rfl⟩
theorem ar_79 : am_ar 159 79 100 24 := ⟨by decide, by decide, by decide, rfl⟩
theorem ar_80 : am_ar 159 80 100 150 := ⟨by decide, by decide, by decide, rfl⟩
theorem ar_81 : am_ar 159 81 100 4 := ⟨by decide, by decide, by decide, rfl⟩
theorem ar_82 : am_ar 159 82 100 4 := ⟨by decide, by decide, by decide, rfl⟩
theorem ar_83 : am_ar 159 83 100 120 := ⟨by decide, by decide, by decide, rfl⟩
theorem ar_84 : am_ar 159 84 100 40 := ⟨by decide, by decide, by decide, rfl⟩
theorem at_85 : am_at 159 85 2 := ⟨by decide, by decide, by decide, rfl⟩
theorem ar_86 : am_ar 159 86 101 12 := ⟨by decide, by decide, by decide, rfl⟩
theorem ar_87 : am_ar 159 87 100 132 := ⟨by decide, by decide, by decide, rfl⟩
theorem ar_88 : am_ar 159 88 100 12 := ⟨by decide, by decide, by decide, rfl⟩
theorem ar_89 : am_ar 159 89 100 24 := ⟨by decide, by decide, by decide, rfl⟩
theorem ar_90 : am_ar 159 90 100 150 := ⟨by decide, by decide, by decide, rfl⟩
theorem ar_91 : am_ar 159 91 100 4 := ⟨by decide, by decide, by decide, rfl⟩
theorem ar_92 : am_ar 159 92 100 4 := ⟨by decide, by decide, by decide, rfl⟩
theorem ar_93 : am_ar 159 93 100 120 := ⟨by decide, by decide, by decide, rfl⟩
theorem ar_94 : am_ar 159 94 100 40 := ⟨by decide, by decide, by decide, rfl⟩
theorem at_95 : am_at 159 95 2 := ⟨by decide, by decide, by decide, rfl⟩
theorem ar_96 : am_ar 159 96 101 12 := ⟨by decide, by decide, by decide, rfl⟩
theorem ar_97 : am_ar 159 97 100 132 := ⟨by decide, by decide, by decide, rfl⟩
theorem ar_98 : am_ar 159 98 100 12 := ⟨by decide, by decide, by decide, rfl⟩
theorem ar_99 : am_ar 159 99 100 24 := ⟨by decide, by decide, by decide, rfl⟩
theorem ar_100 : am_ar 159 100 100 150 := ⟨by decide, by decide, by decide, rfl⟩
theorem ar_101 : am_ar 159 101 100 4 := ⟨by decide, by decide, by decide, rfl⟩
theorem ar_102 : am_ar 159 102 100 4 := ⟨by decide, by decide, by decide, rfl⟩
theorem ar_103 : am_ar 159 103 100 120 := ⟨by decide, by decide, by decide, rfl⟩
theorem ar_104 : am_ar 159 104 100 40 := ⟨by decide, by decide, by decide, rfl⟩
theorem at_105 : am_at 159 105 2 := ⟨by decide, by decide, by decide, rfl⟩
theorem ar_106 : am_ar 159 106 101 12 := ⟨by decide, by decide, by decide, rfl⟩
theorem ar_107 : am_ar 159 107 100 132 := ⟨by decide, by decide, by decide, rfl⟩
theorem ar_108 : am_ar 159 108 100 12 := ⟨by decide, by decide, by decide, rfl⟩
theorem ar_109 : am_ar 159 109 100 24 := ⟨by decide, by decide, by decide, rfl⟩
theorem ar_110 : am_ar 159 110 100 150 := ⟨by decide, by decide, by decide, rfl⟩
theorem ar_111 : am_ar 159 111 100 4 := ⟨by decide, by decide, by decide, rfl⟩
theorem ar_112 : am_ar 159 112 100 4 := ⟨by decide, by decide, by decide, rfl⟩
theorem ar_113 : am_ar 159 113 100 120 := ⟨by decide, by decide, by decide, rfl⟩
theorem ar_114 : am_ar 159 114 100 40 := ⟨by decide, by decide, by decide, rfl⟩
theorem at_115 : am_at 159 115 3 := ⟨by decide, by decide, by decide, rfl⟩
theorem ar_116 : am_ar 159 116 102 2 := ⟨by decide, by decide, by decide, rfl⟩
theorem at_117 : am_at 159 117 2 := ⟨by decide, by decide, by decide, rfl⟩
theorem ar_118 : am_ar 159 118 101 12 := ⟨by decide, by decide, by decide, rfl⟩
theorem ar_119 : am_ar 159 119 100 132 := ⟨by decide, by decide, by decide, rfl⟩
theorem ar_120 : am_ar 159 120 100 12 := ⟨by decide, by decide, by decide, rfl⟩
theorem ar_121 : am_ar 159 121 100 24 := ⟨by decide, by decide, by decide, rfl⟩
theorem ar_122 : am_ar 159 122 100 150 := ⟨by decide, by decide, by decide, rfl⟩
theorem ar_123 : am_ar 159 123 100 4 := ⟨by decide, by decide, by decide, rfl⟩
theorem ar_124 : am_ar 159 124 100 4 := ⟨by decide, by decide, by decide, rfl⟩
theorem ar_125 : am_ar 159 125 100 120 := ⟨by decide, by decide, by decide, rfl⟩
theorem ar_126 : am_ar 159 126 100 40 := ⟨by decide, by decide, by decide, rfl⟩
theorem at_127 : am_at 159 127 2 := ⟨by decide, by decide, by decide, rfl⟩
theorem ar_128 : am_ar 159 128 101 12 := ⟨by decide, by decide, by decide, rfl⟩
theorem ar_129 : am_ar 159 129 100 132 := ⟨by decide, by decide, by decide, rfl⟩
theorem ar_130 : am_ar 159 130 100 12 := ⟨by decide, by decide, by decide, rfl⟩
theorem ar_131 : am_ar 159 131 100 24 := ⟨by decide, by decide, by decide, rfl⟩
theorem ar_132 : am_ar 159 132 100 150 := ⟨by decide, by decide, by decide, rfl⟩
theorem ar_133 : am_ar 159 133 100 4 := ⟨by decide, by decide, by decide, rfl⟩
theorem ar_134 : am_ar 159 134 100 4 := ⟨by decide, by decide, by decide, rfl⟩
theorem ar_135 : am_ar 159 135 100 120 := ⟨by decide, by decide, by decide, rfl⟩
theorem ar_136 : am_ar 159 136 100 40 := ⟨by decide, by decide, by decide, rfl⟩
theorem ar_137 : am_ar 159 137 110 2 := ⟨by decide, by decide, by decide, rfl⟩
theorem at_138 : am_at 159 138 6 := ⟨by decide, by decide, by decide, rfl⟩
theorem ar_139 : am_ar 159 139 100 240 := ⟨by decide, by decide, by decide, rfl⟩
theorem at_140 : am_at 159 140 8 := ⟨by decide, by decide, by decide, rfl⟩
theorem ar_141 : am_ar 159 141 100 1256 := ⟨by decide, by decide, by decide, rfl⟩
theorem ar_142 : am_ar 159 142 100 1256 := ⟨by decide, by decide, by decide, rfl⟩
theorem ar_143 : am_ar 159 143 100 1256 := ⟨by decide, by decide, by decide, rfl⟩
theorem ar_144 : am_ar 159 144 100 10048 := ⟨by decide, by decide, by decide, rfl⟩
theorem ar_145 : am_ar 159 145 100 2512 := ⟨by decide, by decide, by decide, rfl⟩
theorem ar_146 : am_ar 159 146 110 2 := ⟨by decide, by decide, by decide, rfl⟩
theorem ar_147 : am_ar 159 147 100 600 := ⟨by decide, by decide, by decide, rfl⟩
theorem ar_148 : am_ar 159 148 100 32 := ⟨by decide, by decide, by decide, rfl⟩
theorem ar_149 : am_ar 159 149 110 12 := ⟨by decide, by decide, by decide, rfl⟩
theorem ar_150 : am_ar 159 150 100 12 := ⟨by decide, by decide, by decide, rfl⟩
theorem ar_151 : am_ar 159 151 100 12 := ⟨by decide, by decide, by decide, rfl⟩
theorem ar_152 : am_ar 159 152 100 12 := ⟨by decide, by decide, by decide, rfl⟩
theorem ar_153 : am_ar 159 153 100 12 := ⟨by decide, by decide, by decide, rfl⟩
theorem ar_154 : am_ar 159 154 100 144 := ⟨by decide, by decide, by decide, rfl⟩
theorem ar_155 : am_ar 159 155 100 72 := ⟨by decide, by decide, by decide, rfl⟩
theorem ar_156 : am_ar 159 156 100 400 := ⟨by decide, by decide, by decide, rfl⟩
theorem ar_157 : am_ar 159 157 101 1 := ⟨by decide, by decide, by decide, rfl⟩
theorem ar_158 : am_ar 159 158 104 1 := ⟨by decide, by decide, by decide, rfl⟩
theorem inv_i {n : Nat} {h : AH} (hI : am_inv n h) {k j : Int} (hk : 0 ≤ k) (hj : 0 ≤ j) (ht : am_T k.toNat j.toNat = 0) : -2147483648 ≤ h k j ∧ h k j < 2147483648 := by
  have := (am_okh hI hk hj).1 ht
  exact this
theorem inv_ar {n m : Nat} {h : AH} {len : Nat} (hI : am_inv n h) {k j : Int} (hk : am_ar m k 100 len) (hj : 0 ≤ j) : -2147483648 ≤ h k j ∧ h k j < 2147483648 := inv_i hI hk.1 hj (by rw [am_T_ar hk])
theorem inv_a {n : Nat} {h : AH} (hI : am_inv n h) (j : Int) (hj : 0 ≤ j) : -2147483648 ≤ h 141 j ∧ h 141 j < 2147483648 := inv_ar hI ar_141 hj
theorem aw_loop {σ : Type} (inv : σ → Prop) (mu : σ → Nat) (G : σ → Prop) (step : ∀ x, inv x → (∀ y, inv y → mu y < mu x → G y) → G x) : ∀ x, inv x → G x := by
  have key : ∀ m x, mu x ≤ m → inv x → G x := by
    intro m
    induction m with
    | zero => intro x hx hi; exact step x hi (fun y _ hlt => absurd hlt (by omega))
    | succ m ih => intro x hx hi; exact step x hi (fun y hy hlt => ih y (by omega) hy)
  exact fun x hi => key (mu x) x (Nat.le_refl _) hi
