/-! text: length and letters -/
theorem sf_J0_9 : Cond.fieldLink RJ0 9 "java/lang/String" "value" "[B" ∈ am_WS := (am_mt 1660 (by decide +kernel) (by decide +kernel))
theorem sf_J0_15 : Cond.fieldLink RJ0 15 "java/lang/String" "coder" "B" ∈ am_WS := (am_mt 1661 (by decide +kernel) (by decide +kernel))
theorem am_orS {i : Nat} (hi : i < 44) : am_or (2000 + i) = true := by
  unfold am_or
  rw [decide_eq_true (show (2000 : Int) ≤ 2000 + i by omega), decide_eq_true (show (2000 + i : Int) < 2044 by omega)]
  simp
theorem am_orB {i : Nat} (hi : i < 44) : am_or (2100 + i) = true := by
  unfold am_or
  rw [decide_eq_true (show (2100 : Int) ≤ 2100 + i by omega), decide_eq_true (show (2100 + i : Int) < 2144 by omega)]
  simp
theorem am_st44 {i : Nat} {q : String × Nat × String} (hq : am_st[i]? = some q) : i < 44 := (List.getElem?_eq_some_iff.mp hq).1
theorem aw_scod {M : AMM} {d mc ms : Nat} {K : AO → Nat → AH → Prop} {n pc : Nat} {ls st : List AV} {h : AH} {i : Nat} {q : String × Nat × String} {x : Int} {idx : Nat} (hx : x = 2000 + i) (hq : am_st[i]? = some q) (hdg : decode M.2.1 pc = .ok (.getfield idx, 3)) (hw : Cond.fieldLink M.1.cls idx "java/lang/String" "coder" "B" ∈ am_WS) (k : AW M d mc ms K n (pc + 3) ls ((0, 0) :: st) h) : AW M d mc ms K n pc ls ((2, x) :: st) h := by
  intro z p l e R s m args below meth c H locs cells slots MC MS la X
  obtain ⟨C, G, hS, hW, hI, hls, hst, hL, b1, b2, b3, b4⟩ := X
  obtain ⟨a, v, e1, e2, e3, e4, e5, e6, e7⟩ := G.2.2.2.1 i q hq
  have hgo : W p l e R s m args below meth c H locs cells slots (vx_MQ below (am_Q z K) (am_X z K) args s MC MS (am_A z)) (F0 m (pc + 3) la (.int (Int32.ofInt 0) :: st.map (av z))) := k z p l e R s m args below meth c H locs cells slots MC MS la ⟨C, G, hS, hW, hI, hls, am_oksc (am_ok0 (by decide) (by decide)) (am_okst hst), hL, b1, b2, b3, b4⟩
  show W p l e R s m args below meth c H locs cells slots (vx_MQ below (am_Q z K) (am_X z K) args s MC MS (am_A z)) (F0 m pc la (av z (2, x) :: st.map (av z)))
  rw [av_out z (by omega), show x.toNat = 2000 + i by omega, e1]
  exact vk_getf C.1 C.2.1 e5 hS C.2.2.2.1 (C.2.2.2.2.1 _ hw) (fun _ h => h) hdg hgo
theorem aw_sval {M : AMM} {d mc ms : Nat} {K : AO → Nat → AH → Prop} {n pc : Nat} {ls st : List AV} {h : AH} {i : Nat} {q : String × Nat × String} {x y : Int} {idx : Nat} (hx : x = 2000 + i) (hy : y = 2100 + i) (hq : am_st[i]? = some q) (hdg : decode M.2.1 pc = .ok (.getfield idx, 3)) (hw : Cond.fieldLink M.1.cls idx "java/lang/String" "value" "[B" ∈ am_WS) (k : AW M d mc ms K n (pc + 3) ls ((2, y) :: st) h) : AW M d mc ms K n pc ls ((2, x) :: st) h := by
  intro z p l e R s m args below meth c H locs cells slots MC MS la X
  obtain ⟨C, G, hS, hW, hI, hls, hst, hL, b1, b2, b3, b4⟩ := X
  obtain ⟨a, v, e1, e2, e3, e4, e5, e6, e7⟩ := G.2.2.2.1 i q hq
  have hgo : W p l e R s m args below meth c H locs cells slots (vx_MQ below (am_Q z K) (am_X z K) args s MC MS (am_A z)) (F0 m (pc + 3) la (av z (2, y) :: st.map (av z))) := k z p l e R s m args below meth c H locs cells slots MC MS la ⟨C, G, hS, hW, hI, hls, am_oksc (am_ok2 y) (am_okst hst), hL, b1, b2, b3, b4⟩
  rw [av_out z (by omega), show y.toNat = 2100 + i by omega, e2] at hgo
  show W p l e R s m args below meth c H locs cells slots (vx_MQ below (am_Q z K) (am_X z K) args s MC MS (am_A z)) (F0 m pc la (av z (2, x) :: st.map (av z)))
  rw [av_out z (by omega), show x.toNat = 2000 + i by omega, e1]
  exact vk_getf C.1 C.2.1 e6 hS C.2.2.2.1 (C.2.2.2.2.1 _ hw) (fun _ h => h) hdg hgo
theorem am_byl : ∀ i : Fin 44, (am_by.getD i.val []).length < 100 ∧ ∀ v ∈ am_by.getD i.val [], 0 ≤ v ∧ v ≤ 255 := by decide
theorem aw_blen {M : AMM} {d mc ms : Nat} {K : AO → Nat → AH → Prop} {n pc : Nat} {ls st : List AV} {h : AH} {i : Nat} {q : String × Nat × String} {y : Int} (hy : y = 2100 + i) (hq : am_st[i]? = some q) (hdg : decode M.2.1 pc = .ok (.arraylength, 1)) (k : AW M d mc ms K n (pc + 1) ls ((0, ((am_by.getD i []).length : Int)) :: st) h) : AW M d mc ms K n pc ls ((2, y) :: st) h := by
  intro z p l e R s m args below meth c H locs cells slots MC MS la X
  obtain ⟨C, G, hS, hW, hI, hls, hst, hL, b1, b2, b3, b4⟩ := X
  obtain ⟨a, v, e1, e2, e3, e4, e5, e6, e7⟩ := G.2.2.2.1 i q hq
  have hb := (am_byl ⟨i, am_st44 hq⟩).1
  dsimp only at hb
  have hgo : W p l e R s m args below meth c H locs cells slots (vx_MQ below (am_Q z K) (am_X z K) args s MC MS (am_A z)) (F0 m (pc + 1) la (.int (Int32.ofInt ((am_by.getD i []).length : Int)) :: st.map (av z))) := k z p l e R s m args below meth c H locs cells slots MC MS la ⟨C, G, hS, hW, hI, hls, am_oksc (am_ok0 (by omega) (by omega)) (am_okst hst), hL, b1, b2, b3, b4⟩
  show W p l e R s m args below meth c H locs cells slots (vx_MQ below (am_Q z K) (am_X z K) args s MC MS (am_A z)) (F0 m pc la (av z (2, y) :: st.map (av z)))
  rw [av_out z (by omega), show y.toNat = 2100 + i by omega, e2]
  exact va_tlen C.1 C.2.1 e7 hS (by rw [Int32.ofInt_eq_ofNat]) hdg hgo
theorem am_byr {i : Nat} (hi : i < 44) (j : Nat) : 0 ≤ (am_by.getD i []).getD j 0 ∧ (am_by.getD i []).getD j 0 ≤ 255 := by
  have h := (am_byl ⟨i, hi⟩).2
  dsimp only at h
  rw [List.getD_eq_getElem?_getD]
  cases e : (am_by.getD i [])[j]? with
  | none => exact ⟨Int.le_refl _, by decide⟩
  | some v => exact h v (List.mem_of_getElem? e)
theorem aw_bald {M : AMM} {d mc ms : Nat} {K : AO → Nat → AH → Prop} {n pc : Nat} {ls st : List AV} {h : AH} {i : Nat} {q : String × Nat × String} {y j : Int} (hy : y = 2100 + i) (hq : am_st[i]? = some q) (hj : 0 ≤ j ∧ j < (am_by.getD i []).length) (hdg : decode M.2.1 pc = .ok (.baload, 1)) (k : AW M d mc ms K n (pc + 1) ls ((0, (am_by.getD i []).getD j.toNat 0) :: st) h) : AW M d mc ms K n pc ls ((0, j) :: (2, y) :: st) h := by
  intro z p l e R s m args below meth c H locs cells slots MC MS la X
  obtain ⟨C, G, hS, hW, hI, hls, hst, hL, b1, b2, b3, b4⟩ := X
  obtain ⟨a, v, e1, e2, e3, e4, e5, e6, e7⟩ := G.2.2.2.1 i q hq
  have ri := (am_oksh hst).1 rfl
  dsimp only at ri
  have hr := am_byr (am_st44 hq) j.toNat
  have hgo : W p l e R s m args below meth c H locs cells slots (vx_MQ below (am_Q z K) (am_X z K) args s MC MS (am_A z)) (F0 m (pc + 1) la (av z (0, (am_by.getD i []).getD j.toNat 0) :: st.map (av z))) := k z p l e R s m args below meth c H locs cells slots MC MS la ⟨C, G, hS, hW, hI, hls, am_oksc (am_ok0 (by omega) (by omega)) (am_okst (am_okst hst)), hL, b1, b2, b3, b4⟩
  show W p l e R s m args below meth c H locs cells slots (vx_MQ below (am_Q z K) (am_X z K) args s MC MS (am_A z)) (F0 m pc la (.int (Int32.ofInt j) :: av z (2, y) :: st.map (av z)))
  rw [av_out z (by omega), show y.toNat = 2100 + i by omega, e2]
  exact va_tb C.1 C.2.1 e7 hS (am_inb hj.1 hj.2 ri.2) (v := av z (0, (am_by.getD i []).getD j.toNat 0)) (by rw [am_nat hj.1 ri.2]; rfl) hdg hgo
theorem aw_gcs {M : AMM} {d mc ms : Nat} {K : AO → Nat → AH → Prop} {n pc : Nat} {ls st : List AV} {h : AH} {idx : Nat} (hdg : decode M.2.1 pc = .ok (.getstatic idx, 3)) (hw : Cond.fieldLink M.1.cls idx "java/lang/String" "COMPACT_STRINGS" "Z" ∈ am_WS) (k : AW M d mc ms K n (pc + 3) ls ((0, 1) :: st) h) : AW M d mc ms K n pc ls st h := by
  intro z p l e R s m args below meth c H locs cells slots MC MS la X
  obtain ⟨C, G, hS, hW, hI, hls, hst, hL, b1, b2, b3, b4⟩ := X
  have hgo : W p l e R s m args below meth c H locs cells slots (vx_MQ below (am_Q z K) (am_X z K) args s MC MS (am_A z)) (F0 m (pc + 3) la (.int (Int32.ofInt 1) :: st.map (av z))) := k z p l e R s m args below meth c H locs cells slots MC MS la ⟨C, G, hS, hW, hI, hls, am_oksc (am_ok0 (by decide) (by decide)) hst, hL, b1, b2, b3, b4⟩
  exact va_gets C.1 C.2.1 G.2.2.2.2.1 hS C.2.2.2.1 (C.2.2.2.2.1 _ hw) (fun _ h => h) hdg hgo
theorem aw_gfm {M : AMM} {d mc ms : Nat} {K : AO → Nat → AH → Prop} {n pc : Nat} {ls st : List AV} {h : AH} {idx : Nat} (hdg : decode M.2.1 pc = .ok (.getstatic idx, 3)) (hw : Cond.fieldLink M.1.cls idx "jdk/internal/util/Preconditions" "SIOOBE_FORMATTER" "Ljava/util/function/BiFunction;" ∈ am_WS) (k : AW M d mc ms K n (pc + 3) ls ((2, 4000) :: st) h) : AW M d mc ms K n pc ls st h := by
  intro z p l e R s m args below meth c H locs cells slots MC MS la X
  obtain ⟨C, G, hS, hW, hI, hls, hst, hL, b1, b2, b3, b4⟩ := X
  have hgo : W p l e R s m args below meth c H locs cells slots (vx_MQ below (am_Q z K) (am_X z K) args s MC MS (am_A z)) (F0 m (pc + 3) la (av z (2, 4000) :: st.map (av z))) := k z p l e R s m args below meth c H locs cells slots MC MS la ⟨C, G, hS, hW, hI, hls, am_oksc (am_ok2 4000) hst, hL, b1, b2, b3, b4⟩
  rw [av_out z (by decide)] at hgo
  exact va_gets C.1 C.2.1 G.2.2.2.2.2.1 hS C.2.2.2.1 (C.2.2.2.2.1 _ hw) (fun _ h => h) hdg hgo
theorem aw_i2c {M : AMM} {d mc ms : Nat} {K : AO → Nat → AH → Prop} {n pc : Nat} {ls st : List AV} {h : AH} {x : Int} (hx : 0 ≤ x ∧ x ≤ 255) (hdg : decode M.2.1 pc = .ok (.i2c, 1)) (k : AW M d mc ms K n (pc + 1) ls ((0, x) :: st) h) : AW M d mc ms K n pc ls ((0, x) :: st) h := by
  intro z p l e R s m args below meth c H locs cells slots MC MS la X
  obtain ⟨C, G, hS, hW, hI, hls, hst, hL, b1, b2, b3, b4⟩ := X
  have hgo : W p l e R s m args below meth c H locs cells slots (vx_MQ below (am_Q z K) (am_X z K) args s MC MS (am_A z)) (F0 m (pc + 1) la (.int (Int32.ofInt x) :: st.map (av z))) := k z p l e R s m args below meth c H locs cells slots MC MS la ⟨C, G, hS, hW, hI, hls, hst, hL, b1, b2, b3, b4⟩
  refine lv_i2c C.1 C.2.1 hdg ?_ hgo
  have hF : ∀ i : Fin 256, ((Int32.ofInt (i.val : Int)).toUInt32 % 65536).toInt32 = Int32.ofInt (i.val : Int) := by decide +kernel
  have h9 := hF ⟨x.toNat, by omega⟩
  dsimp only at h9
  rwa [Int.toNat_of_nonneg hx.1] at h9
theorem aw_tret {M : AMM} {d mc ms : Nat} {K : AO → Nat → AH → Prop} {n pc : Nat} {ls : List AV} {h : AH} {x : Int} {ty : FieldType} (hdg : decode M.2.1 pc = .ok (.ireturn, 1)) (hr : M.2.2.2.1 = some ty) (hx : narrow ty (.int (Int32.ofInt x)) = .int (Int32.ofInt x)) (k : K (.inl (some (0, x))) n h) : AW M d mc ms K n pc ls [(0, x)] h := by
  intro z p l e R s m args below meth c H locs cells slots MC MS la X
  obtain ⟨C, G, hS, hW, hI, hls, hst, hL, b1, b2, b3, b4⟩ := X
  have hlk := C.2.2.2.2.2.2.1
  refine vx_ret (W.widen (k := MC) (n := MS) (by omega) (by omega) ?_)
  exact W.zret C.1 C.2.1 (C.2.2.2.2.2.1.trans hr) hx (fun t ht _ => ⟨some (0, x), n, h, k, rfl, fun v hv => by cases hv; exact am_oksh hst, hI, ht ▸ hW, am_F hS ht⟩) hS.2.2 hdg hlk
theorem nar_c {x : Int} (hx : 0 ≤ x ∧ x ≤ 255) : narrow .char (.int (Int32.ofInt x)) = .int (Int32.ofInt x) := by
  have hF : ∀ i : Fin 256, narrow .char (.int (Int32.ofInt (i.val : Int))) = .int (Int32.ofInt (i.val : Int)) := by decide +kernel
  have h9 := hF ⟨x.toNat, by omega⟩
  dsimp only at h9
  rwa [Int.toNat_of_nonneg hx.1] at h9
theorem aw_callStr {M : AMM} {d mc ms : Nat} {K : AO → Nat → AH → Prop} {n pc : Nat} {ls st : List AV} {h : AH} (d' mc' ms' : Nat) {Y : AMM} {np idx : Nat} {as st0 : List AV} (hdg : decode M.2.1 pc = .ok (.invokevirtual idx, 3)) (hy : am_yw Y np) (hlk : Cond.methodLink M.1.cls idx Y.1 ∈ am_WS) (hin : Cond.instanceMethod Y.1 ∈ am_WS) (hsel : Cond.selects Y.1.cls Y.1 Y.1 ∈ am_WS) {b : Int} {i : Nat} {q : String × Nat × String} (hbi : b = 2000 + i) (hq : am_st[i]? = some q) (hYc : Y.1.cls = "java/lang/String") (hn : as.length = np) (hs : st0 = as.reverse ++ (2, b) :: st) (hd : d' + 1 ≤ d ∧ mc' ≤ mc ∧ ms' ≤ ms ∧ am_c8 st ≤ 8) (k : AC Y d' mc' ms' n ((2, b) :: as) h (am_cont M d (mc - mc') (ms - ms') K pc (pc + 3) ls st)) : AW M d mc ms K n pc ls st0 h := by
  subst hs
  intro z p l e R s m args below meth c H locs cells slots MC MS la X
  obtain ⟨C, G, hS, hW, hI, hls, hst, hL, b1, b2, b3, b4⟩ := X
  have hts := C.2.2.2.2.1
  obtain ⟨hd1, hd2, hd3, hd4⟩ := hd
  have hrs : am_oks st := fun v hv => hst v (by simp [hv])
  have has : am_oks ((2, b) :: as) := fun v hv => hst v (by simp at hv ⊢; first | exact Or.inl hv | (rcases hv with q | q; exact Or.inr (Or.inl q); exact Or.inl q))
  refine am_call (a := #[]) hd2 hd3 ⟨C, G, hS, hW, hI, hls, hrs, hL, b1, b2, b3, b4⟩ (fun _ _ _ q => q) ?_
  have hM := k has hI z l C.2.2.2.2.2.2.2.1
  have h8 := am_cat8 G.2.1 st
  obtain ⟨a, v, e1, e2, e3, ⟨cell, c1, c2, c3, c4⟩, e5, e6, e7⟩ := G.2.2.2.1 i q hq
  have hrf : av z (2, b) = .ref a := by rw [av_out z (by omega), show b.toNat = 2000 + i by omega, e1]
  have hMe : ((((2, b) : AV) :: as).map (av z)) = .ref a :: as.map (av z) := by rw [List.map_cons, hrf]
  rw [hMe] at hM
  have hHa : H[a]? = s.heap[a]? := hS.2.1 a (Array.getElem?_eq_some_iff.mp c1).1 c4
  exact vx_runV (As := as.map (av z)) (rest := st.map (av z)) ⟨C.1, C.2.1, C.2.2.1, C.2.2.2.1, hts⟩ hM ⟨⟨rfl, rfl, by show d' + 1 ≤ R.frames; have := C.2.2.2.2.2.2.2.2.2.1; omega, by show 8 + (Y.2.2.1 + 11) + 60 * d' ≤ R.locals; have := C.2.2.2.2.2.2.2.2.2.2.1; have := hy.2.2.2.2.2; omega, am_goodY hy hts, by rw [← am_hd0 hy.1]; exact List.mem_cons_self, hts _ hy.2.1, hts _ hy.2.2.1, hy.2.2.2.1, am_np hy, hts _ hlk⟩, hts _ hin, hts _ hsel⟩ ⟨(by have h9 := am_blind z n ((2, b) :: as) h; unfold am_Pc at h9; rw [hMe] at h9; exact h9), ⟨cell, by rw [hHa]; exact c1, c2, by rw [hYc]; exact c3⟩, fun U hU hWU => ⟨rfl, am_G.go G hWU (by rw [hU]; exact hS.1) (fun q h1 h2 => by rw [hU]; exact hS.2.1 q h1 h2), by rw [hU]; exact hW⟩⟩ rfl (by rw [List.length_map]; exact hn) hL.1 (by show (as.reverse ++ (2, b) :: st).map (av z) = _; rw [List.map_append, List.map_reverse, List.map_cons, hrf]) (lv_room (by omega)) hdg ⟨by omega, by omega⟩
theorem ac_coder {i : Nat} {q : String × Nat × String} {h : AH} {K : AO → Nat → AH → Prop} (hq : am_st[i]? = some q) (k : K (.inl (some (0, 0))) 159 h) : AC mJ0_coder_7d493 1 0 0 159 [(2, 2000 + (i : Int))] h K := by
  have hi := am_st44 hq
  refine ac_of (ls := [(2, 2000 + (i : Int))]) pn_J0 rfl (Nat.le_of_ble_eq_true rfl) rfl ?_
  refine aw_gcs dJ0_coder_7d493_0 gs_J0_38 ?_
  refine aw_if_eq_n 13 dJ0_coder_7d493_3 (by decide) (by decide) ?_
  refine a_alX0 (am_orS hi) dJ0_coder_7d493_6 ?_
  refine aw_scod rfl hq dJ0_coder_7d493_7 sf_J0_15 ?_
  refine aw_goto 14 dJ0_coder_7d493_10 (by decide) ?_
  exact aw_tret dJ0_coder_7d493_14 rfl (by decide) k
theorem ac_isLatin1 {i : Nat} {q : String × Nat × String} {h : AH} {K : AO → Nat → AH → Prop} (hq : am_st[i]? = some q) (k : K (.inl (some (0, 1))) 159 h) : AC mJ0_isLatin1_aae02 1 0 0 159 [(2, 2000 + (i : Int))] h K := by
  have hi := am_st44 hq
  refine ac_of (ls := [(2, 2000 + (i : Int))]) pn_J0 rfl (Nat.le_of_ble_eq_true rfl) rfl ?_
  refine aw_gcs dJ0_isLatin1_aae02_0 gs_J0_38 ?_
  refine aw_if_eq_n 17 dJ0_isLatin1_aae02_3 (by decide) (by decide) ?_
  refine a_alX0 (am_orS hi) dJ0_isLatin1_aae02_6 ?_
  refine aw_scod rfl hq dJ0_isLatin1_aae02_7 sf_J0_15 ?_
  refine aw_if_ne_n 17 dJ0_isLatin1_aae02_10 (by decide) (by decide) ?_
  refine aw_iconst dJ0_isLatin1_aae02_13 (by decide) ?_
  refine aw_goto 18 dJ0_isLatin1_aae02_14 (by decide) ?_
  exact aw_zret dJ0_isLatin1_aae02_18 rfl (Or.inr rfl) k
theorem shr0 {x : Int} (hx : 0 ≤ x ∧ x < 2147483648) : i_shr x 0 = x := by
  unfold i_shr
  rw [show (Int32.ofInt 0 &&& 31 : Int32) = 0 from rfl, Int32.shiftRight_zero]
  exact am_toI (by omega) hx.2
theorem ac_slength {i : Nat} {q : String × Nat × String} {h : AH} {K : AO → Nat → AH → Prop} (hq : am_st[i]? = some q) (k : K (.inl (some (0, ((am_by.getD i []).length : Int)))) 159 h) : AC mJ0_length_8abf5 2 0 0 159 [(2, 2000 + (i : Int))] h K := by
  have hi := am_st44 hq
  have hb := (am_byl ⟨i, hi⟩).1
  dsimp only at hb
  refine ac_of (ls := [(2, 2000 + (i : Int))]) pn_J0 rfl (Nat.le_of_ble_eq_true rfl) rfl ?_
  refine a_alX0 (am_orS hi) dJ0_length_8abf5_0 ?_
  refine aw_sval rfl rfl hq dJ0_length_8abf5_1 sf_J0_9 ?_
  refine aw_blen rfl hq dJ0_length_8abf5_4 ?_
  refine a_alX0 (am_orS hi) dJ0_length_8abf5_5 ?_
  refine aw_callStr 1 0 0 dJ0_length_8abf5_6 yw_J0_coder_7d493 ml_J0_335 in_J0_coder_7d493 se_J0_coder_7d493 rfl hq rfl (as := []) rfl rfl ⟨by decide, by decide, by decide, Nat.le_of_ble_eq_true rfl⟩ ?_
  refine ac_coder hq ?_
  refine am_ci ?_
  refine aw_ishr dJ0_length_8abf5_9 ?_
  rw [shr0 (by omega)]
  exact aw_iret dJ0_length_8abf5_10 rfl k
theorem ac_pcheck {j len : Int} {h : AH} {K : AO → Nat → AH → Prop} (hj : 0 ≤ j ∧ j < len) (k : K (.inl (some (0, j))) 159 h) : AC mJ3_checkIndex_8e157 1 0 0 159 [(0, j), (0, len), (2, 4000)] h K := by
  refine ac_of (ls := [(0, j), (0, len), (2, 4000)]) pn_J3 rfl (Nat.le_of_ble_eq_true rfl) rfl ?_
  refine a_il0 dJ3_checkIndex_8e157_0 ?_
  refine aw_if_lt 9 dJ3_checkIndex_8e157_1 (by decide) (fun c1 => ?_) (fun c1 => ?_)
  · exfalso; omega
  · refine a_il0 dJ3_checkIndex_8e157_4 ?_
    refine a_il1 dJ3_checkIndex_8e157_5 ?_
    refine aw_icmp_lt 16 dJ3_checkIndex_8e157_6 (by decide) (fun c6 => ?_) (fun c6 => ?_)
    · refine a_il0 dJ3_checkIndex_8e157_16 ?_
      exact aw_iret dJ3_checkIndex_8e157_17 rfl k
    · exfalso; omega
theorem ac_scheck {j len : Int} {h : AH} {K : AO → Nat → AH → Prop} (hj : 0 ≤ j ∧ j < len) (k : K (.inl none) 159 h) : AC mJ0_checkIndex_df160 2 0 0 159 [(0, j), (0, len)] h K := by
  refine ac_of (ls := [(0, j), (0, len)]) pn_J0 rfl (Nat.le_of_ble_eq_true rfl) rfl ?_
  refine a_il0 dJ0_checkIndex_df160_0 ?_
  refine a_il1 dJ0_checkIndex_df160_1 ?_
  refine aw_gfm dJ0_checkIndex_df160_2 gs_J0_1053 ?_
  refine aw_callS 1 0 0 dJ0_checkIndex_df160_5 yw_J3_checkIndex_8e157 ml_J0_1059 sm_J3_checkIndex_8e157 (as := [_, _, _]) rfl rfl ⟨by decide, by decide, by decide, Nat.le_of_ble_eq_true rfl⟩ ?_
  refine ac_pcheck hj ?_
  refine am_ci ?_
  refine aw_pop dJ0_checkIndex_df160_8 rfl ?_
  exact aw_vret dJ0_checkIndex_df160_9 rfl k
theorem and255 {x : Int} (hx : 0 ≤ x ∧ x ≤ 255) : i_and x 255 = x := by
  have hF : ∀ i : Fin 256, i_and (i.val : Int) 255 = (i.val : Int) := by decide +kernel
  have h9 := hF ⟨x.toNat, by omega⟩
  dsimp only at h9
  rwa [Int.toNat_of_nonneg hx.1] at h9
theorem ac_lchar {i : Nat} {q : String × Nat × String} {j : Int} {h : AH} {K : AO → Nat → AH → Prop} (hq : am_st[i]? = some q) (hj : 0 ≤ j ∧ j < (am_by.getD i []).length) (k : K (.inl (some (0, (am_by.getD i []).getD j.toNat 0))) 159 h) : AC mJ1_charAt_3b067 3 0 0 159 [(2, 2100 + (i : Int)), (0, j)] h K := by
  have hi := am_st44 hq
  have hr := am_byr hi j.toNat
  refine ac_of (ls := [(2, 2100 + (i : Int)), (0, j)]) pn_J1 rfl (Nat.le_of_ble_eq_true rfl) rfl ?_
  refine a_il1 dJ1_charAt_3b067_0 ?_
  refine a_alX0 (am_orB hi) dJ1_charAt_3b067_1 ?_
  refine aw_blen rfl hq dJ1_charAt_3b067_2 ?_
  refine aw_callS 2 0 0 dJ1_charAt_3b067_3 yw_J0_checkIndex_df160 ml_J1_9 sm_J0_checkIndex_df160 (as := [_, _]) rfl rfl ⟨by decide, by decide, by decide, Nat.le_of_ble_eq_true rfl⟩ ?_
  refine ac_scheck hj ?_
  refine am_cv ?_
  refine a_alX0 (am_orB hi) dJ1_charAt_3b067_6 ?_
  refine a_il1 dJ1_charAt_3b067_7 ?_
  refine aw_bald rfl hq hj dJ1_charAt_3b067_8 ?_
  refine aw_sipush dJ1_charAt_3b067_9 (by decide) ?_
  refine aw_iand dJ1_charAt_3b067_12 ?_
  rw [and255 hr]
  refine aw_i2c hr dJ1_charAt_3b067_13 ?_
  exact aw_tret dJ1_charAt_3b067_14 rfl (nar_c hr) k
theorem ac_charAt {i : Nat} {q : String × Nat × String} {j : Int} {h : AH} {K : AO → Nat → AH → Prop} (hq : am_st[i]? = some q) (hj : 0 ≤ j ∧ j < (am_by.getD i []).length) (k : K (.inl (some (0, (am_by.getD i []).getD j.toNat 0))) 159 h) : AC mJ0_charAt_5068e 4 0 0 159 [(2, 2000 + (i : Int)), (0, j)] h K := by
  have hi := am_st44 hq
  have hr := am_byr hi j.toNat
  refine ac_of (ls := [(2, 2000 + (i : Int)), (0, j)]) pn_J0 rfl (Nat.le_of_ble_eq_true rfl) rfl ?_
  refine a_alX0 (am_orS hi) dJ0_charAt_5068e_0 ?_
  refine aw_callStr 1 0 0 dJ0_charAt_5068e_1 yw_J0_isLatin1_aae02 ml_J0_492 in_J0_isLatin1_aae02 se_J0_isLatin1_aae02 rfl hq rfl (as := []) rfl rfl ⟨by decide, by decide, by decide, Nat.le_of_ble_eq_true rfl⟩ ?_
  refine ac_isLatin1 hq ?_
  refine am_ci ?_
  refine aw_if_eq_n 16 dJ0_charAt_5068e_4 (by decide) (by decide) ?_
  refine a_alX0 (am_orS hi) dJ0_charAt_5068e_7 ?_
  refine aw_sval rfl rfl hq dJ0_charAt_5068e_8 sf_J0_9 ?_
  refine a_il1 dJ0_charAt_5068e_11 ?_
  refine aw_callS 3 0 0 dJ0_charAt_5068e_12 yw_J1_charAt_3b067 ml_J0_495 sm_J1_charAt_3b067 (as := [_, _]) rfl rfl ⟨by decide, by decide, by decide, Nat.le_of_ble_eq_true rfl⟩ ?_
  refine ac_lchar hq hj ?_
  refine am_ci ?_
  exact aw_tret dJ0_charAt_5068e_15 rfl (nar_c hr) k
