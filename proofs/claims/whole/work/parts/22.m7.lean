/-! the model: the first clash, a ram -/
def isFC (h : AH) (x : Int) : Prop := (∃ i j, 0 ≤ i ∧ i < j ∧ j < h 141 3 ∧ mCl h i j ∧ x = 12 * i + j ∧ ∀ a b, 0 ≤ a → a < b → b < h 141 3 → (a < i ∨ (a = i ∧ b < j)) → ¬ mCl h a b) ∨ (x = -1 ∧ ∀ a b, 0 ≤ a → a < b → b < h 141 3 → ¬ mCl h a b)
theorem ac_firstClash {h : AH} {K : AO → Nat → AH → Prop} (hn : 0 ≤ h 141 3 ∧ h 141 3 ≤ 12) (k : ∀ x, isFC h x → K (.inl (some (0, x))) 159 h) : AC mX9_firstClash 4 0 0 159 [(2, 140)] h K := by
  refine ac_of (ls := [(2, 140), (9, 0), (9, 0)]) pn_X9 rfl (Nat.le_of_ble_eq_true rfl) rfl ?_
  refine aw_iconst dX9_firstClash_0 (by decide) ?_
  refine a_is1 rfl rfl dX9_firstClash_1 ?_
  refine aw_loop (fun q : Int × AV => 0 ≤ q.1 ∧ q.1 ≤ h 141 3 ∧ ∀ a b, 0 ≤ a → a < b → b < h 141 3 → a < q.1 → ¬ mCl h a b) (fun q => (h 141 3 - q.1).toNat) (fun q => AW mX9_firstClash 4 0 0 K 159 2 [(2, 140), (0, q.1), q.2] [] h) (fun q hq ih => ?_) (0, (9, 0)) ⟨by decide, hn.1, fun a b h1 h2 h3 h4 => by dsimp only at h4; omega⟩
  obtain ⟨i, v⟩ := q
  obtain ⟨h0, h1, hno⟩ := hq
  dsimp only at h0 h1 hno ih ⊢
  refine a_il1 dX9_firstClash_2 ?_
  refine a_al0 (by decide) dX9_firstClash_3 ?_
  refine aw_getR (r := 141) 0 rfl dX9_firstClash_4 fl_X9_7 at_140 rfl rfl ?_
  refine aw_iconst dX9_firstClash_7 (by decide) ?_
  refine aw_iald dX9_firstClash_8 ar_141 (by omega) ?_
  refine aw_icmp_ge 54 dX9_firstClash_9 (by decide) (fun c9 => ?_) (fun c9 => ?_)
  · refine aw_iconst dX9_firstClash_54 (by decide) ?_
    refine aw_iret dX9_firstClash_55 rfl ?_
    exact k _ (Or.inr ⟨rfl, fun a b h2 h3 h4 => hno a b h2 h3 h4 (by omega)⟩)
  · refine a_il1 dX9_firstClash_12 ?_
    refine aw_iconst dX9_firstClash_13 (by decide) ?_
    refine aw_iaddR (by omega) dX9_firstClash_14 ?_
    refine a_is2 rfl rfl dX9_firstClash_15 ?_
    refine aw_loop (fun j : Int => i + 1 ≤ j ∧ j ≤ h 141 3 ∧ ∀ b, i < b → b < j → ¬ mCl h i b) (fun j => (h 141 3 - j).toNat) (fun j => AW mX9_firstClash 4 0 0 K 159 16 [(2, 140), (0, i), (0, j)] [] h) (fun j hj ih2 => ?_) (i + 1) ⟨by omega, by omega, fun b h2 h3 => by omega⟩
    obtain ⟨g0, g1, gno⟩ := hj
    refine a_il2 dX9_firstClash_16 ?_
    refine a_al0 (by decide) dX9_firstClash_17 ?_
    refine aw_getR (r := 141) 0 rfl dX9_firstClash_18 fl_X9_7 at_140 rfl rfl ?_
    refine aw_iconst dX9_firstClash_21 (by decide) ?_
    refine aw_iald dX9_firstClash_22 ar_141 (by omega) ?_
    refine aw_icmp_ge 48 dX9_firstClash_23 (by decide) (fun c23 => ?_) (fun c23 => ?_)
    · refine a_iiR1 (by omega) rfl rfl dX9_firstClash_48 ?_
      refine aw_goto 2 dX9_firstClash_51 (by decide) ?_
      exact ih (i + 1, (0, j)) ⟨by dsimp only; omega, by dsimp only; omega, fun a b h2 h3 h4 h5 => by
        dsimp only at h5
        by_cases e : a = i
        · rw [e]; exact gno b (by omega) (by omega)
        · exact hno a b h2 h3 h4 (by omega)⟩ (by dsimp only; omega)
    · refine a_al0 (by decide) dX9_firstClash_26 ?_
      refine a_il1 dX9_firstClash_27 ?_
      refine a_il2 dX9_firstClash_28 ?_
      refine aw_callV 3 0 0 dX9_firstClash_29 yw_X9_clash ml_X9_248 in_X9_clash se_X9_clash (ci := 8) rfl at_140 (as := [_, _]) rfl rfl ⟨by decide, by decide, by decide, Nat.le_of_ble_eq_true rfl⟩ ?_
      refine ac_clash (by omega) (by omega) (fun q1 => ?_) (fun q1 => ?_)
      · refine am_ci ?_
        refine aw_if_eq_n 42 dX9_firstClash_32 (by decide) (by decide) ?_
        refine aw_bipush dX9_firstClash_35 (by decide) ?_
        refine a_il1 dX9_firstClash_37 ?_
        refine aw_imulR (by omega) dX9_firstClash_38 ?_
        refine a_il2 dX9_firstClash_39 ?_
        refine aw_iaddR (by omega) dX9_firstClash_40 ?_
        refine aw_iret dX9_firstClash_41 rfl ?_
        exact k _ (Or.inl ⟨i, j, h0, by omega, by omega, q1, rfl, fun a b h2 h3 h4 h5 => by
          rcases h5 with h5 | ⟨rfl, h5⟩
          · exact hno a b h2 h3 h4 h5
          · exact gno b h3 h5⟩)
      · refine am_ci ?_
        refine aw_if_eq_y 42 dX9_firstClash_32 (by decide) (by decide) ?_
        refine a_iiR2 (by omega) rfl rfl dX9_firstClash_42 ?_
        refine aw_goto 16 dX9_firstClash_45 (by decide) ?_
        exact ih2 (j + 1) ⟨by omega, by omega, fun b h2 h3 => by
          by_cases e : b = j
          · rw [e]; exact q1
          · exact gno b h2 (by omega)⟩ (by omega)
def mLoss (h : AH) (i j : Int) : Int := (if h 149 j = 0 then 0 else h 141 (46 + 25 * j + 5) * tab3 (ang (h 141 (46 + 25 * i + 3)) (h 141 (46 + 25 * j + 3)))) + (if h 149 i = 0 then 0 else (h 141 (46 + 25 * j + 5)).tdiv 2)
theorem tab3_r (j : Int) : 0 ≤ tab3 j ∧ tab3 j ≤ 4 := by
  unfold tab3
  generalize j.toNat = k
  match k with
  | 0 => decide
  | 1 => decide
  | 2 => decide
  | 3 => decide
  | 4 => decide
  | k + 5 => exact ⟨by simp, by simp⟩
theorem half_r {m : Int} (h : 0 ≤ m ∧ m ≤ 9) : 0 ≤ m.tdiv 2 ∧ m.tdiv 2 ≤ 4 := by
  rw [Int.tdiv_eq_ediv_of_nonneg h.1]
  omega
theorem mLoss_rg {h : AH} {i j : Int} (hm : 0 ≤ h 141 (46 + 25 * j + 5) ∧ h 141 (46 + 25 * j + 5) ≤ 9) : 0 ≤ mLoss h i j ∧ mLoss h i j ≤ 40 := by
  have p := mulr hm (tab3_r (ang (h 141 (46 + 25 * i + 3)) (h 141 (46 + 25 * j + 3))))
  have q := half_r hm
  unfold mLoss
  split <;> split <;> omega
theorem ac_lossOf {i j : Int} {h : AH} {K : AO → Nat → AH → Prop} (hi : 0 ≤ i ∧ i ≤ 11) (hj : 0 ≤ j ∧ j ≤ 11) (d1 : 0 ≤ h 141 (46 + 25 * i + 3) ∧ h 141 (46 + 25 * i + 3) ≤ 7) (d2 : 0 ≤ h 141 (46 + 25 * j + 3) ∧ h 141 (46 + 25 * j + 3) ≤ 7) (hm : 0 ≤ h 141 (46 + 25 * j + 5) ∧ h 141 (46 + 25 * j + 5) ≤ 9) (k : K (.inl (some (0, mLoss h i j))) 159 h) : AC mX9_lossOf 3 0 0 159 [(2, 140), (0, i), (0, j)] h K := by
  have p := mulr hm (tab3_r (ang (h 141 (46 + 25 * i + 3)) (h 141 (46 + 25 * j + 3))))
  have p2 := half_r hm
  refine ac_of (ls := [(2, 140), (0, i), (0, j), (9, 0)]) pn_X9 rfl (Nat.le_of_ble_eq_true rfl) rfl ?_
  refine a_al0 (by decide) dX9_lossOf_0 ?_
  refine a_il1 dX9_lossOf_1 ?_
  refine aw_iconst dX9_lossOf_2 (by decide) ?_
  refine aw_callV 1 0 0 dX9_lossOf_3 yw_X9_of ml_X9_213 in_X9_of se_X9_of (ci := 8) rfl at_140 (as := [_, _]) rfl rfl ⟨by decide, by decide, by decide, Nat.le_of_ble_eq_true rfl⟩ ?_
  refine ac_of_ (by omega) (by decide) ?_
  refine am_ci ?_
  refine a_al0 (by decide) dX9_lossOf_6 ?_
  refine a_il2 dX9_lossOf_7 ?_
  refine aw_iconst dX9_lossOf_8 (by decide) ?_
  refine aw_callV 1 0 0 dX9_lossOf_9 yw_X9_of ml_X9_213 in_X9_of se_X9_of (ci := 8) rfl at_140 (as := [_, _]) rfl rfl ⟨by decide, by decide, by decide, Nat.le_of_ble_eq_true rfl⟩ ?_
  refine ac_of_ (by omega) (by decide) ?_
  refine am_ci ?_
  refine aw_callS 2 0 0 dX9_lossOf_12 yw_X9_angle ml_X9_222 sm_X9_angle (as := [_, _]) rfl rfl ⟨by decide, by decide, by decide, Nat.le_of_ble_eq_true rfl⟩ ?_
  refine ac_angle d1 d2 ?_
  refine am_ci ?_
  refine aw_callS 1 0 0 dX9_lossOf_15 yw_X9_hurt ml_X9_251 sm_X9_hurt (as := [_]) rfl rfl ⟨by decide, by decide, by decide, Nat.le_of_ble_eq_true rfl⟩ ?_
  refine ac_hurt (ang_rg _ _) ?_
  refine am_ci ?_
  refine a_is3 rfl rfl dX9_lossOf_18 ?_
  refine a_al0 (by decide) dX9_lossOf_19 ?_
  refine aw_getR (r := 149) 18 rfl dX9_lossOf_20 fl_X9_39 at_140 rfl rfl ?_
  refine a_il2 dX9_lossOf_23 ?_
  refine aw_zald dX9_lossOf_24 ar_149 (by omega) ?_
  refine aw_if_eq 39 dX9_lossOf_25 (by decide) (fun c25 => ?_) (fun c25 => ?_)
  · refine aw_iconst dX9_lossOf_39 (by decide) ?_
    refine a_al0 (by decide) dX9_lossOf_40 ?_
    refine aw_getR (r := 149) 18 rfl dX9_lossOf_41 fl_X9_39 at_140 rfl rfl ?_
    refine a_il1 dX9_lossOf_44 ?_
    refine aw_zald dX9_lossOf_45 ar_149 (by omega) ?_
    refine aw_if_eq 60 dX9_lossOf_46 (by decide) (fun c46 => ?_) (fun c46 => ?_)
    · refine aw_iconst dX9_lossOf_60 (by decide) ?_
      refine aw_iaddR (by omega) dX9_lossOf_61 ?_
      refine aw_iret dX9_lossOf_62 rfl ?_
      have e : mLoss h i j = 0 + 0 := by unfold mLoss; rw [if_pos (by assumption), if_pos (by assumption)]
      rw [← e]; exact k
    · refine a_al0 (by decide) dX9_lossOf_49 ?_
      refine a_il2 dX9_lossOf_50 ?_
      refine aw_iconst dX9_lossOf_51 (by decide) ?_
      refine aw_callV 1 0 0 dX9_lossOf_52 yw_X9_of ml_X9_213 in_X9_of se_X9_of (ci := 8) rfl at_140 (as := [_, _]) rfl rfl ⟨by decide, by decide, by decide, Nat.le_of_ble_eq_true rfl⟩ ?_
      refine ac_of_ (by omega) (by decide) ?_
      refine am_ci ?_
      refine aw_iconst dX9_lossOf_55 (by decide) ?_
      refine aw_idiv dX9_lossOf_56 (by omega) ?_
      refine aw_goto 61 dX9_lossOf_57 (by decide) ?_
      refine aw_iaddR (by omega) dX9_lossOf_61 ?_
      refine aw_iret dX9_lossOf_62 rfl ?_
      have e : mLoss h i j = 0 + (h 141 (46 + 25 * j + 5)).tdiv 2 := by unfold mLoss; rw [if_pos (by assumption), if_neg (by assumption)]
      rw [← e]; exact k
  · refine a_al0 (by decide) dX9_lossOf_28 ?_
    refine a_il2 dX9_lossOf_29 ?_
    refine aw_iconst dX9_lossOf_30 (by decide) ?_
    refine aw_callV 1 0 0 dX9_lossOf_31 yw_X9_of ml_X9_213 in_X9_of se_X9_of (ci := 8) rfl at_140 (as := [_, _]) rfl rfl ⟨by decide, by decide, by decide, Nat.le_of_ble_eq_true rfl⟩ ?_
    refine ac_of_ (by omega) (by decide) ?_
    refine am_ci ?_
    refine a_il3 dX9_lossOf_34 ?_
    refine aw_imulR (by omega) dX9_lossOf_35 ?_
    refine aw_goto 40 dX9_lossOf_36 (by decide) ?_
    refine a_al0 (by decide) dX9_lossOf_40 ?_
    refine aw_getR (r := 149) 18 rfl dX9_lossOf_41 fl_X9_39 at_140 rfl rfl ?_
    refine a_il1 dX9_lossOf_44 ?_
    refine aw_zald dX9_lossOf_45 ar_149 (by omega) ?_
    refine aw_if_eq 60 dX9_lossOf_46 (by decide) (fun c46 => ?_) (fun c46 => ?_)
    · refine aw_iconst dX9_lossOf_60 (by decide) ?_
      refine aw_iaddR (by omega) dX9_lossOf_61 ?_
      refine aw_iret dX9_lossOf_62 rfl ?_
      have e : mLoss h i j = h 141 (46 + 25 * j + 5) * tab3 (ang (h 141 (46 + 25 * i + 3)) (h 141 (46 + 25 * j + 3))) + 0 := by unfold mLoss; rw [if_neg (by assumption), if_pos (by assumption)]
      rw [← e]; exact k
    · refine a_al0 (by decide) dX9_lossOf_49 ?_
      refine a_il2 dX9_lossOf_50 ?_
      refine aw_iconst dX9_lossOf_51 (by decide) ?_
      refine aw_callV 1 0 0 dX9_lossOf_52 yw_X9_of ml_X9_213 in_X9_of se_X9_of (ci := 8) rfl at_140 (as := [_, _]) rfl rfl ⟨by decide, by decide, by decide, Nat.le_of_ble_eq_true rfl⟩ ?_
      refine ac_of_ (by omega) (by decide) ?_
      refine am_ci ?_
      refine aw_iconst dX9_lossOf_55 (by decide) ?_
      refine aw_idiv dX9_lossOf_56 (by omega) ?_
      refine aw_goto 61 dX9_lossOf_57 (by decide) ?_
      refine aw_iaddR (by omega) dX9_lossOf_61 ?_
      refine aw_iret dX9_lossOf_62 rfl ?_
      have e : mLoss h i j = h 141 (46 + 25 * j + 5) * tab3 (ang (h 141 (46 + 25 * i + 3)) (h 141 (46 + 25 * j + 3))) + (h 141 (46 + 25 * j + 5)).tdiv 2 := by unfold mLoss; rw [if_neg (by assumption), if_neg (by assumption)]
      rw [← e]; exact k
def st1 (h : AH) (i j li lj : Int) : AH := up (up (up (up h 141 (46 + 25 * i + 4) (h 141 (46 + 25 * i + 4) - li)) 141 (46 + 25 * j + 4) (h 141 (46 + 25 * j + 4) - lj)) 141 (46 + 25 * i + 8) 0) 141 (46 + 25 * j + 8) 0
def st2 (h : AH) (i j : Int) : AH := if h 149 j = 0 then h else up h 152 i (i_or (h 152 i) (i_shl 1 j))
def st3 (h : AH) (i j : Int) : AH := if h 149 i = 0 then h else up h 152 j (i_or (h 152 j) (i_shl 1 i))
def st4 (h : AH) (i j : Int) : AH := up (up h 149 i (if mG1 h i j ∧ h 141 (46 + 25 * j + 5) ≤ h 141 (46 + 25 * i + 5) then 1 else 0)) 149 j (if mG1 h i j ∧ ¬ h 141 (46 + 25 * j + 5) ≤ h 141 (46 + 25 * i + 5) then 1 else 0)
def st5 (h : AH) (i j p : Int) : AH := if h 154 (12 * i + j) = -1 then up h 154 (12 * i + j) p else h
def st6 (h : AH) (i j p li lj : Int) : AH := if h 141 7 = 30 then up h 140 24 (h 140 24 + 1) else up (up (up (up (up (up (up h 140 24 (h 140 24 + 1)) 141 (346 + 5 * h 141 7) p) 141 (346 + 5 * h 141 7 + 1) i) 141 (346 + 5 * h 141 7 + 2) j) 141 (346 + 5 * h 141 7 + 3) li) 141 (346 + 5 * h 141 7 + 4) lj) 141 7 (h 141 7 + 1)
theorem sk203 {i j p li lj o f : Int} {h : AH} {K : AO → Nat → AH → Prop} (hr : 0 ≤ h 140 24 ∧ h 140 24 ≤ 1000000) (h7 : 0 ≤ h 141 7 ∧ h 141 7 ≤ 30) (k : K (.inl none) 159 (st6 h i j p li lj)) : AW mX9_strikes 4 0 0 K 159 203 [(2, 140), (0, i), (0, j), (0, p), (0, li), (0, lj), (0, o), (0, f), (9, 0)] [] h := by
  unfold st6 at k
  refine a_al0 (by decide) dX9_strikes_203 ?_
  refine aw_dup dX9_strikes_204 rfl ?_
  refine aw_get 24 dX9_strikes_205 fl_X9_257 at_140 rfl ?_
  refine aw_iconst dX9_strikes_208 (by decide) ?_
  refine aw_iaddR (by omega) dX9_strikes_209 ?_
  refine aw_put 24 dX9_strikes_210 fp_X9_257 at_140 rfl ?_
  refine a_al0 (by decide) dX9_strikes_213 ?_
  refine aw_getR (r := 141) 0 rfl dX9_strikes_214 fl_X9_7 at_140 rfl rfl ?_
  try simp (disch := omega) only [up_at, up_ne]
  refine aw_bipush dX9_strikes_217 (by decide) ?_
  refine aw_iald dX9_strikes_219 ar_141 (by omega) ?_
  try simp (disch := omega) only [up_at, up_ne]
  refine aw_bipush dX9_strikes_220 (by decide) ?_
  refine aw_icmp_ne 226 dX9_strikes_222 (by decide) (fun c222 => ?_) (fun c222 => ?_)
  · refine aw_sipush dX9_strikes_226 (by decide) ?_
    refine aw_iconst dX9_strikes_229 (by decide) ?_
    refine a_al0 (by decide) dX9_strikes_230 ?_
    refine aw_getR (r := 141) 0 rfl dX9_strikes_231 fl_X9_7 at_140 rfl rfl ?_
    try simp (disch := omega) only [up_at, up_ne]
    refine aw_bipush dX9_strikes_234 (by decide) ?_
    refine aw_iald dX9_strikes_236 ar_141 (by omega) ?_
    try simp (disch := omega) only [up_at, up_ne]
    refine aw_imulR (by omega) dX9_strikes_237 ?_
    refine aw_iaddR (by omega) dX9_strikes_238 ?_
    refine a_is8 rfl rfl dX9_strikes_239 ?_
    refine a_al0 (by decide) dX9_strikes_241 ?_
    refine aw_getR (r := 141) 0 rfl dX9_strikes_242 fl_X9_7 at_140 rfl rfl ?_
    try simp (disch := omega) only [up_at, up_ne]
    refine a_il8 dX9_strikes_245 ?_
    refine a_il3 dX9_strikes_247 ?_
    refine aw_iast dX9_strikes_248 ar_141 (by omega) ?_
    refine a_al0 (by decide) dX9_strikes_249 ?_
    refine aw_getR (r := 141) 0 rfl dX9_strikes_250 fl_X9_7 at_140 rfl rfl ?_
    try simp (disch := omega) only [up_at, up_ne]
    refine a_il8 dX9_strikes_253 ?_
    refine aw_iconst dX9_strikes_255 (by decide) ?_
    refine aw_iaddR (by omega) dX9_strikes_256 ?_
    refine a_il1 dX9_strikes_257 ?_
    refine aw_iast dX9_strikes_258 ar_141 (by omega) ?_
    refine a_al0 (by decide) dX9_strikes_259 ?_
    refine aw_getR (r := 141) 0 rfl dX9_strikes_260 fl_X9_7 at_140 rfl rfl ?_
    try simp (disch := omega) only [up_at, up_ne]
    refine a_il8 dX9_strikes_263 ?_
    refine aw_iconst dX9_strikes_265 (by decide) ?_
    refine aw_iaddR (by omega) dX9_strikes_266 ?_
    refine a_il2 dX9_strikes_267 ?_
    refine aw_iast dX9_strikes_268 ar_141 (by omega) ?_
    refine a_al0 (by decide) dX9_strikes_269 ?_
    refine aw_getR (r := 141) 0 rfl dX9_strikes_270 fl_X9_7 at_140 rfl rfl ?_
    try simp (disch := omega) only [up_at, up_ne]
    refine a_il8 dX9_strikes_273 ?_
    refine aw_iconst dX9_strikes_275 (by decide) ?_
    refine aw_iaddR (by omega) dX9_strikes_276 ?_
    refine a_il4 dX9_strikes_277 ?_
    refine aw_iast dX9_strikes_279 ar_141 (by omega) ?_
    refine a_al0 (by decide) dX9_strikes_280 ?_
    refine aw_getR (r := 141) 0 rfl dX9_strikes_281 fl_X9_7 at_140 rfl rfl ?_
    try simp (disch := omega) only [up_at, up_ne]
    refine a_il8 dX9_strikes_284 ?_
    refine aw_iconst dX9_strikes_286 (by decide) ?_
    refine aw_iaddR (by omega) dX9_strikes_287 ?_
    refine a_il5 dX9_strikes_288 ?_
    refine aw_iast dX9_strikes_290 ar_141 (by omega) ?_
    refine a_al0 (by decide) dX9_strikes_291 ?_
    refine aw_getR (r := 141) 0 rfl dX9_strikes_292 fl_X9_7 at_140 rfl rfl ?_
    try simp (disch := omega) only [up_at, up_ne]
    refine aw_bipush dX9_strikes_295 (by decide) ?_
    refine aw_dup2 dX9_strikes_297 rfl rfl ?_
    refine aw_iald dX9_strikes_298 ar_141 (by omega) ?_
    try simp (disch := omega) only [up_at, up_ne]
    refine aw_iconst dX9_strikes_299 (by decide) ?_
    refine aw_iaddR (by omega) dX9_strikes_300 ?_
    refine aw_iast dX9_strikes_301 ar_141 (by omega) ?_
    refine aw_vret dX9_strikes_302 rfl ?_
    rw [if_neg (by assumption)] at k
    exact k
  · refine aw_vret dX9_strikes_225 rfl ?_
    rw [if_pos (by assumption)] at k
    exact k
theorem sk176 {i j p li lj o f : Int} {h : AH} {K : AO → Nat → AH → Prop} (hi : 0 ≤ i ∧ i ≤ 11) (hj : 0 ≤ j ∧ j ≤ 11) (hr : 0 ≤ h 140 24 ∧ h 140 24 ≤ 1000000) (h7 : 0 ≤ h 141 7 ∧ h 141 7 ≤ 30) (k : K (.inl none) 159 (st6 (st5 h i j p) i j p li lj)) : AW mX9_strikes 4 0 0 K 159 176 [(2, 140), (0, i), (0, j), (0, p), (0, li), (0, lj), (0, o), (0, f), (9, 0)] [] h := by
  unfold st5 at k
  refine a_al0 (by decide) dX9_strikes_176 ?_
  refine aw_getR (r := 154) 23 rfl dX9_strikes_177 fl_X9_54 at_140 rfl rfl ?_
  refine aw_bipush dX9_strikes_180 (by decide) ?_
  refine a_il1 dX9_strikes_182 ?_
  refine aw_imulR (by omega) dX9_strikes_183 ?_
  refine a_il2 dX9_strikes_184 ?_
  refine aw_iaddR (by omega) dX9_strikes_185 ?_
  refine aw_iald dX9_strikes_186 ar_154 (by omega) ?_
  refine aw_iconst dX9_strikes_187 (by decide) ?_
  refine aw_icmp_ne 203 dX9_strikes_188 (by decide) (fun c188 => ?_) (fun c188 => ?_)
  · skip
    rw [if_neg (by assumption)] at k
    exact sk203 hr h7 k
  · refine a_al0 (by decide) dX9_strikes_191 ?_
    refine aw_getR (r := 154) 23 rfl dX9_strikes_192 fl_X9_54 at_140 rfl rfl ?_
    refine aw_bipush dX9_strikes_195 (by decide) ?_
    refine a_il1 dX9_strikes_197 ?_
    refine aw_imulR (by omega) dX9_strikes_198 ?_
    refine a_il2 dX9_strikes_199 ?_
    refine aw_iaddR (by omega) dX9_strikes_200 ?_
    refine a_il3 dX9_strikes_201 ?_
    refine aw_iast dX9_strikes_202 ar_154 (by omega) ?_
    rw [if_pos (by assumption)] at k
    refine sk203 ?_ ?_ k <;> simp (disch := omega) only [up_at, up_ne] <;> assumption
theorem sk134 {i j p li lj o f : Int} {h : AH} {K : AO → Nat → AH → Prop} (hi : 0 ≤ i ∧ i ≤ 11) (hj : 0 ≤ j ∧ j ≤ 11) (hr : 0 ≤ h 140 24 ∧ h 140 24 ≤ 1000000) (h7 : 0 ≤ h 141 7 ∧ h 141 7 ≤ 30) (ho : (o = 1 ∧ mG1 h i j) ∨ (o = 0 ∧ ¬ mG1 h i j)) (hf : (f = 1 ∧ h 141 (46 + 25 * j + 5) ≤ h 141 (46 + 25 * i + 5)) ∨ (f = 0 ∧ ¬ h 141 (46 + 25 * j + 5) ≤ h 141 (46 + 25 * i + 5))) (k : K (.inl none) 159 (st6 (st5 (st4 h i j) i j p) i j p li lj)) : AW mX9_strikes 4 0 0 K 159 134 [(2, 140), (0, i), (0, j), (0, p), (0, li), (0, lj), (0, o), (0, f), (9, 0)] [] h := by
  have fin : ∀ a b, a = (if mG1 h i j ∧ h 141 (46 + 25 * j + 5) ≤ h 141 (46 + 25 * i + 5) then 1 else 0) → b = (if mG1 h i j ∧ ¬ h 141 (46 + 25 * j + 5) ≤ h 141 (46 + 25 * i + 5) then 1 else 0) → AW mX9_strikes 4 0 0 K 159 176 [(2, 140), (0, i), (0, j), (0, p), (0, li), (0, lj), (0, o), (0, f), (9, 0)] [] (up (up h 149 i a) 149 j b) := fun a b ea eb => by
    unfold st4 at k
    rw [← ea, ← eb] at k
    refine sk176 hi hj ?_ ?_ k <;> simp (disch := omega) only [up_at, up_ne] <;> assumption
  rcases ho with ⟨rfl, g⟩ | ⟨rfl, g⟩
  · rcases hf with ⟨rfl, f1⟩ | ⟨rfl, f1⟩
    · skip
      refine a_al0 (by decide) dX9_strikes_134 ?_
      refine aw_getR (r := 149) 18 rfl dX9_strikes_135 fl_X9_39 at_140 rfl rfl ?_
      refine a_il1 dX9_strikes_138 ?_
      refine a_il6 dX9_strikes_139 ?_
      refine aw_if_eq_n 153 dX9_strikes_141 (by decide) (by decide) ?_
      refine a_il7 dX9_strikes_144 ?_
      refine aw_if_eq_n 153 dX9_strikes_146 (by decide) (by decide) ?_
      refine aw_iconst dX9_strikes_149 (by decide) ?_
      refine aw_goto 154 dX9_strikes_150 (by decide) ?_
      refine aw_zast dX9_strikes_154 ar_149 (by omega) (by omega) ?_
      refine a_al0 (by decide) dX9_strikes_155 ?_
      refine aw_getR (r := 149) 18 rfl dX9_strikes_156 fl_X9_39 at_140 rfl rfl ?_
      try simp (disch := omega) only [up_at, up_ne]
      refine a_il2 dX9_strikes_159 ?_
      refine a_il6 dX9_strikes_160 ?_
      refine aw_if_eq_n 174 dX9_strikes_162 (by decide) (by decide) ?_
      refine a_il7 dX9_strikes_165 ?_
      refine aw_if_ne_y 174 dX9_strikes_167 (by decide) (by decide) ?_
      refine aw_iconst dX9_strikes_174 (by decide) ?_
      refine aw_zast dX9_strikes_175 ar_149 (by omega) (by omega) ?_
      exact fin 1 0 (by rw [if_pos ⟨g, f1⟩]) (by rw [if_neg (fun x => x.2 f1)])
    · skip
      refine a_al0 (by decide) dX9_strikes_134 ?_
      refine aw_getR (r := 149) 18 rfl dX9_strikes_135 fl_X9_39 at_140 rfl rfl ?_
      try simp (disch := omega) only [up_at, up_ne]
      refine a_il1 dX9_strikes_138 ?_
      refine a_il6 dX9_strikes_139 ?_
      refine aw_if_eq_n 153 dX9_strikes_141 (by decide) (by decide) ?_
      refine a_il7 dX9_strikes_144 ?_
      refine aw_if_eq_y 153 dX9_strikes_146 (by decide) (by decide) ?_
      refine aw_iconst dX9_strikes_153 (by decide) ?_
      refine aw_zast dX9_strikes_154 ar_149 (by omega) (by omega) ?_
      refine a_al0 (by decide) dX9_strikes_155 ?_
      refine aw_getR (r := 149) 18 rfl dX9_strikes_156 fl_X9_39 at_140 rfl rfl ?_
      try simp (disch := omega) only [up_at, up_ne]
      refine a_il2 dX9_strikes_159 ?_
      refine a_il6 dX9_strikes_160 ?_
      refine aw_if_eq_n 174 dX9_strikes_162 (by decide) (by decide) ?_
      refine a_il7 dX9_strikes_165 ?_
      refine aw_if_ne_n 174 dX9_strikes_167 (by decide) (by decide) ?_
      refine aw_iconst dX9_strikes_170 (by decide) ?_
      refine aw_goto 175 dX9_strikes_171 (by decide) ?_
      refine aw_zast dX9_strikes_175 ar_149 (by omega) (by omega) ?_
      exact fin 0 1 (by rw [if_neg (fun x => f1 x.2)]) (by rw [if_pos ⟨g, f1⟩])
  · skip
    refine a_al0 (by decide) dX9_strikes_134 ?_
    refine aw_getR (r := 149) 18 rfl dX9_strikes_135 fl_X9_39 at_140 rfl rfl ?_
    try simp (disch := omega) only [up_at, up_ne]
    refine a_il1 dX9_strikes_138 ?_
    refine a_il6 dX9_strikes_139 ?_
    refine aw_if_eq_y 153 dX9_strikes_141 (by decide) (by decide) ?_
    refine aw_iconst dX9_strikes_153 (by decide) ?_
    refine aw_zast dX9_strikes_154 ar_149 (by omega) (by omega) ?_
    refine a_al0 (by decide) dX9_strikes_155 ?_
    refine aw_getR (r := 149) 18 rfl dX9_strikes_156 fl_X9_39 at_140 rfl rfl ?_
    try simp (disch := omega) only [up_at, up_ne]
    refine a_il2 dX9_strikes_159 ?_
    refine a_il6 dX9_strikes_160 ?_
    refine aw_if_eq_y 174 dX9_strikes_162 (by decide) (by decide) ?_
    refine aw_iconst dX9_strikes_174 (by decide) ?_
    refine aw_zast dX9_strikes_175 ar_149 (by omega) (by omega) ?_
    exact fin 0 0 (by rw [if_neg (fun x => g x.1)]) (by rw [if_neg (fun x => g x.1)])
theorem sk104 {i j p li lj : Int} {h : AH} {K : AO → Nat → AH → Prop} (hi : 0 ≤ i ∧ i ≤ 11) (hj : 0 ≤ j ∧ j ≤ 11) (hr : 0 ≤ h 140 24 ∧ h 140 24 ≤ 1000000) (h7 : 0 ≤ h 141 7 ∧ h 141 7 ≤ 30) (k : K (.inl none) 159 (st6 (st5 (st4 h i j) i j p) i j p li lj)) : AW mX9_strikes 4 0 0 K 159 104 [(2, 140), (0, i), (0, j), (0, p), (0, li), (0, lj), (9, 0), (9, 0), (9, 0)] [] h := by
  refine a_al0 (by decide) dX9_strikes_104 ?_
  refine a_il1 dX9_strikes_105 ?_
  refine a_il2 dX9_strikes_106 ?_
  refine aw_callV 1 0 0 dX9_strikes_107 yw_X9_goToOne ml_X9_241 in_X9_goToOne se_X9_goToOne (ci := 8) rfl at_140 (as := [_, _]) rfl rfl ⟨by decide, by decide, by decide, Nat.le_of_ble_eq_true rfl⟩ ?_
  refine ac_goToOne hi hj (fun q1 => ?_) (fun q1 => ?_)
  · refine am_ci ?_
    refine a_is6 rfl rfl dX9_strikes_110 ?_
    refine a_al0 (by decide) dX9_strikes_112 ?_
    refine a_il1 dX9_strikes_113 ?_
    refine aw_iconst dX9_strikes_114 (by decide) ?_
    refine aw_callV 1 0 0 dX9_strikes_115 yw_X9_of ml_X9_213 in_X9_of se_X9_of (ci := 8) rfl at_140 (as := [_, _]) rfl rfl ⟨by decide, by decide, by decide, Nat.le_of_ble_eq_true rfl⟩ ?_
    refine ac_of_ (by omega) (by decide) ?_
    refine am_ci ?_
    refine a_al0 (by decide) dX9_strikes_118 ?_
    refine a_il2 dX9_strikes_119 ?_
    refine aw_iconst dX9_strikes_120 (by decide) ?_
    refine aw_callV 1 0 0 dX9_strikes_121 yw_X9_of ml_X9_213 in_X9_of se_X9_of (ci := 8) rfl at_140 (as := [_, _]) rfl rfl ⟨by decide, by decide, by decide, Nat.le_of_ble_eq_true rfl⟩ ?_
    refine ac_of_ (by omega) (by decide) ?_
    refine am_ci ?_
    refine aw_icmp_lt 131 dX9_strikes_124 (by decide) (fun c124 => ?_) (fun c124 => ?_)
    · refine aw_iconst dX9_strikes_131 (by decide) ?_
      refine a_is7 rfl rfl dX9_strikes_132 ?_
      exact sk134 hi hj hr h7 (Or.inl ⟨rfl, q1⟩) (Or.inr ⟨rfl, by omega⟩) k
    · refine aw_iconst dX9_strikes_127 (by decide) ?_
      refine aw_goto 132 dX9_strikes_128 (by decide) ?_
      refine a_is7 rfl rfl dX9_strikes_132 ?_
      exact sk134 hi hj hr h7 (Or.inl ⟨rfl, q1⟩) (Or.inl ⟨rfl, by omega⟩) k
  · refine am_ci ?_
    refine a_is6 rfl rfl dX9_strikes_110 ?_
    refine a_al0 (by decide) dX9_strikes_112 ?_
    refine a_il1 dX9_strikes_113 ?_
    refine aw_iconst dX9_strikes_114 (by decide) ?_
    refine aw_callV 1 0 0 dX9_strikes_115 yw_X9_of ml_X9_213 in_X9_of se_X9_of (ci := 8) rfl at_140 (as := [_, _]) rfl rfl ⟨by decide, by decide, by decide, Nat.le_of_ble_eq_true rfl⟩ ?_
    refine ac_of_ (by omega) (by decide) ?_
    refine am_ci ?_
    refine a_al0 (by decide) dX9_strikes_118 ?_
    refine a_il2 dX9_strikes_119 ?_
    refine aw_iconst dX9_strikes_120 (by decide) ?_
    refine aw_callV 1 0 0 dX9_strikes_121 yw_X9_of ml_X9_213 in_X9_of se_X9_of (ci := 8) rfl at_140 (as := [_, _]) rfl rfl ⟨by decide, by decide, by decide, Nat.le_of_ble_eq_true rfl⟩ ?_
    refine ac_of_ (by omega) (by decide) ?_
    refine am_ci ?_
    refine aw_icmp_lt 131 dX9_strikes_124 (by decide) (fun c124 => ?_) (fun c124 => ?_)
    · refine aw_iconst dX9_strikes_131 (by decide) ?_
      refine a_is7 rfl rfl dX9_strikes_132 ?_
      exact sk134 hi hj hr h7 (Or.inr ⟨rfl, q1⟩) (Or.inr ⟨rfl, by omega⟩) k
    · refine aw_iconst dX9_strikes_127 (by decide) ?_
      refine aw_goto 132 dX9_strikes_128 (by decide) ?_
      refine a_is7 rfl rfl dX9_strikes_132 ?_
      exact sk134 hi hj hr h7 (Or.inr ⟨rfl, q1⟩) (Or.inl ⟨rfl, by omega⟩) k
theorem sk83 {i j p li lj : Int} {h : AH} {K : AO → Nat → AH → Prop} (hi : 0 ≤ i ∧ i ≤ 11) (hj : 0 ≤ j ∧ j ≤ 11) (hr : 0 ≤ h 140 24 ∧ h 140 24 ≤ 1000000) (h7 : 0 ≤ h 141 7 ∧ h 141 7 ≤ 30) (k : K (.inl none) 159 (st6 (st5 (st4 (st3 h i j) i j) i j p) i j p li lj)) : AW mX9_strikes 4 0 0 K 159 83 [(2, 140), (0, i), (0, j), (0, p), (0, li), (0, lj), (9, 0), (9, 0), (9, 0)] [] h := by
  unfold st3 at k
  refine a_al0 (by decide) dX9_strikes_83 ?_
  refine aw_getR (r := 149) 18 rfl dX9_strikes_84 fl_X9_39 at_140 rfl rfl ?_
  refine a_il1 dX9_strikes_87 ?_
  refine aw_zald dX9_strikes_88 ar_149 (by omega) ?_
  refine aw_if_eq 104 dX9_strikes_89 (by decide) (fun c89 => ?_) (fun c89 => ?_)
  · skip
    rw [if_pos (by assumption)] at k
    exact sk104 hi hj hr h7 k
  · refine a_al0 (by decide) dX9_strikes_92 ?_
    refine aw_getR (r := 152) 21 rfl dX9_strikes_93 fl_X9_48 at_140 rfl rfl ?_
    refine a_il2 dX9_strikes_96 ?_
    refine aw_dup2 dX9_strikes_97 rfl rfl ?_
    refine aw_iald dX9_strikes_98 ar_152 (by omega) ?_
    refine aw_iconst dX9_strikes_99 (by decide) ?_
    refine a_il1 dX9_strikes_100 ?_
    refine aw_ishl dX9_strikes_101 ?_
    refine aw_ior dX9_strikes_102 ?_
    refine aw_iast dX9_strikes_103 ar_152 (by omega) ?_
    rw [if_neg (by assumption)] at k
    refine sk104 hi hj ?_ ?_ k <;> simp (disch := omega) only [up_at, up_ne] <;> assumption
theorem sk62 {i j p li lj : Int} {h : AH} {K : AO → Nat → AH → Prop} (hi : 0 ≤ i ∧ i ≤ 11) (hj : 0 ≤ j ∧ j ≤ 11) (hr : 0 ≤ h 140 24 ∧ h 140 24 ≤ 1000000) (h7 : 0 ≤ h 141 7 ∧ h 141 7 ≤ 30) (k : K (.inl none) 159 (st6 (st5 (st4 (st3 (st2 h i j) i j) i j) i j p) i j p li lj)) : AW mX9_strikes 4 0 0 K 159 62 [(2, 140), (0, i), (0, j), (0, p), (0, li), (0, lj), (9, 0), (9, 0), (9, 0)] [] h := by
  unfold st2 at k
  refine a_al0 (by decide) dX9_strikes_62 ?_
  refine aw_getR (r := 149) 18 rfl dX9_strikes_63 fl_X9_39 at_140 rfl rfl ?_
  refine a_il2 dX9_strikes_66 ?_
  refine aw_zald dX9_strikes_67 ar_149 (by omega) ?_
  refine aw_if_eq 83 dX9_strikes_68 (by decide) (fun c68 => ?_) (fun c68 => ?_)
  · skip
    rw [if_pos (by assumption)] at k
    exact sk83 hi hj hr h7 k
  · refine a_al0 (by decide) dX9_strikes_71 ?_
    refine aw_getR (r := 152) 21 rfl dX9_strikes_72 fl_X9_48 at_140 rfl rfl ?_
    refine a_il1 dX9_strikes_75 ?_
    refine aw_dup2 dX9_strikes_76 rfl rfl ?_
    refine aw_iald dX9_strikes_77 ar_152 (by omega) ?_
    refine aw_iconst dX9_strikes_78 (by decide) ?_
    refine a_il2 dX9_strikes_79 ?_
    refine aw_ishl dX9_strikes_80 ?_
    refine aw_ior dX9_strikes_81 ?_
    refine aw_iast dX9_strikes_82 ar_152 (by omega) ?_
    rw [if_neg (by assumption)] at k
    refine sk83 hi hj ?_ ?_ k <;> simp (disch := omega) only [up_at, up_ne] <;> assumption
/-- a ram of i and j in a pulse -/
def stH (h : AH) (i j p : Int) : AH := st6 (st5 (st4 (st3 (st2 (st1 h i j (mLoss h i j) (mLoss h j i)) i j) i j) i j) i j p) i j p (mLoss h i j) (mLoss h j i)
def shR (h : AH) (i : Int) : Prop := (0 ≤ h 141 (46 + 25 * i + 3) ∧ h 141 (46 + 25 * i + 3) ≤ 7) ∧ (-100000 ≤ h 141 (46 + 25 * i + 4) ∧ h 141 (46 + 25 * i + 4) ≤ 100000) ∧ (0 ≤ h 141 (46 + 25 * i + 5) ∧ h 141 (46 + 25 * i + 5) ≤ 9)
theorem ac_strikes {i j p : Int} {h : AH} {K : AO → Nat → AH → Prop} (hi : 0 ≤ i ∧ i ≤ 11) (hj : 0 ≤ j ∧ j ≤ 11) (hij : i ≠ j) (si : shR h i) (sj : shR h j) (hr : 0 ≤ h 140 24 ∧ h 140 24 ≤ 1000000) (h7 : 0 ≤ h 141 7 ∧ h 141 7 ≤ 30) (k : K (.inl none) 159 (stH h i j p)) : AC mX9_strikes 4 0 0 159 [(2, 140), (0, i), (0, j), (0, p)] h K := by
  obtain ⟨i3, i4, i5⟩ := si
  obtain ⟨j3, j4, j5⟩ := sj
  have l1 := mLoss_rg (i := i) j5
  have l2 := mLoss_rg (i := j) i5
  refine ac_of (ls := [(2, 140), (0, i), (0, j), (0, p), (9, 0), (9, 0), (9, 0), (9, 0), (9, 0)]) pn_X9 rfl (Nat.le_of_ble_eq_true rfl) rfl ?_
  refine a_al0 (by decide) dX9_strikes_0 ?_
  refine a_il1 dX9_strikes_1 ?_
  refine a_il2 dX9_strikes_2 ?_
  refine aw_callV 3 0 0 dX9_strikes_3 yw_X9_lossOf ml_X9_254 in_X9_lossOf se_X9_lossOf (ci := 8) rfl at_140 (as := [_, _]) rfl rfl ⟨by decide, by decide, by decide, Nat.le_of_ble_eq_true rfl⟩ ?_
  refine ac_lossOf hi hj i3 j3 j5 ?_
  refine am_ci ?_
  refine a_is4 rfl rfl dX9_strikes_6 ?_
  refine a_al0 (by decide) dX9_strikes_8 ?_
  refine a_il2 dX9_strikes_9 ?_
  refine a_il1 dX9_strikes_10 ?_
  refine aw_callV 3 0 0 dX9_strikes_11 yw_X9_lossOf ml_X9_254 in_X9_lossOf se_X9_lossOf (ci := 8) rfl at_140 (as := [_, _]) rfl rfl ⟨by decide, by decide, by decide, Nat.le_of_ble_eq_true rfl⟩ ?_
  refine ac_lossOf hj hi j3 i3 i5 ?_
  refine am_ci ?_
  refine a_is5 rfl rfl dX9_strikes_14 ?_
  refine a_al0 (by decide) dX9_strikes_16 ?_
  refine a_il1 dX9_strikes_17 ?_
  refine aw_iconst dX9_strikes_18 (by decide) ?_
  refine a_al0 (by decide) dX9_strikes_19 ?_
  refine a_il1 dX9_strikes_20 ?_
  refine aw_iconst dX9_strikes_21 (by decide) ?_
  refine aw_callV 1 0 0 dX9_strikes_22 yw_X9_of ml_X9_213 in_X9_of se_X9_of (ci := 8) rfl at_140 (as := [_, _]) rfl rfl ⟨by decide, by decide, by decide, Nat.le_of_ble_eq_true rfl⟩ ?_
  refine ac_of_ (by omega) (by decide) ?_
  refine am_ci ?_
  refine a_il4 dX9_strikes_25 ?_
  refine aw_isubR (by omega) dX9_strikes_27 ?_
  refine aw_callV 1 0 0 dX9_strikes_28 yw_X9_sets ml_X9_228 in_X9_sets se_X9_sets (ci := 8) rfl at_140 (as := [_, _, _]) rfl rfl ⟨by decide, by decide, by decide, Nat.le_of_ble_eq_true rfl⟩ ?_
  refine ac_sets (by omega) (by decide) ?_
  refine am_cv ?_
  refine a_al0 (by decide) dX9_strikes_31 ?_
  refine a_il2 dX9_strikes_32 ?_
  refine aw_iconst dX9_strikes_33 (by decide) ?_
  refine a_al0 (by decide) dX9_strikes_34 ?_
  refine a_il2 dX9_strikes_35 ?_
  refine aw_iconst dX9_strikes_36 (by decide) ?_
  refine aw_callV 1 0 0 dX9_strikes_37 yw_X9_of ml_X9_213 in_X9_of se_X9_of (ci := 8) rfl at_140 (as := [_, _]) rfl rfl ⟨by decide, by decide, by decide, Nat.le_of_ble_eq_true rfl⟩ ?_
  refine ac_of_ (by omega) (by decide) ?_
  refine am_ci ?_
  try simp (disch := omega) only [up_at, up_ne]
  refine a_il5 dX9_strikes_40 ?_
  refine aw_isubR (by omega) dX9_strikes_42 ?_
  refine aw_callV 1 0 0 dX9_strikes_43 yw_X9_sets ml_X9_228 in_X9_sets se_X9_sets (ci := 8) rfl at_140 (as := [_, _, _]) rfl rfl ⟨by decide, by decide, by decide, Nat.le_of_ble_eq_true rfl⟩ ?_
  refine ac_sets (by omega) (by decide) ?_
  refine am_cv ?_
  refine a_al0 (by decide) dX9_strikes_46 ?_
  refine a_il1 dX9_strikes_47 ?_
  refine aw_bipush dX9_strikes_48 (by decide) ?_
  refine aw_iconst dX9_strikes_50 (by decide) ?_
  refine aw_callV 1 0 0 dX9_strikes_51 yw_X9_sets ml_X9_228 in_X9_sets se_X9_sets (ci := 8) rfl at_140 (as := [_, _, _]) rfl rfl ⟨by decide, by decide, by decide, Nat.le_of_ble_eq_true rfl⟩ ?_
  refine ac_sets (by omega) (by decide) ?_
  refine am_cv ?_
  refine a_al0 (by decide) dX9_strikes_54 ?_
  refine a_il2 dX9_strikes_55 ?_
  refine aw_bipush dX9_strikes_56 (by decide) ?_
  refine aw_iconst dX9_strikes_58 (by decide) ?_
  refine aw_callV 1 0 0 dX9_strikes_59 yw_X9_sets ml_X9_228 in_X9_sets se_X9_sets (ci := 8) rfl at_140 (as := [_, _, _]) rfl rfl ⟨by decide, by decide, by decide, Nat.le_of_ble_eq_true rfl⟩ ?_
  refine ac_sets (by omega) (by decide) ?_
  refine am_cv ?_
  refine sk62 hi hj ?_ ?_ k <;> simp (disch := omega) only [up_at, up_ne] <;> assumption
