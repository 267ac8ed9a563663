/-! System.arraycopy between two cells -/
theorem am_inv_cpy {n m m' : Nat} {h : AH} {f t c : Int} {kd lf lt : Nat} (hI : am_inv n h) (hf : am_ar m f kd lf) (ht : am_ar m' t kd lt) (h2 : kd % 10 ≠ 2) : am_inv n (cpy h t 0 f 0 c) := by
  refine ⟨fun k j => ?_, fun hn k x r hr => ?_⟩
  · unfold cpy
    split
    · rename_i q
      obtain ⟨q1, q2, q3⟩ := q
      have e1 : am_T k j = kd % 10 := by
        have := am_T_ar ht j
        rwa [← q1, Int.toNat_natCast] at this
      have e2 := am_okh hI hf.1 (show (0 : Int) ≤ 0 + ((j : Int) - 0) by omega)
      rw [am_T_ar hf] at e2
      rw [e1]
      exact e2
    · exact hI.1 k j
  · unfold cpy
    rw [if_neg]
    · exact hI.2 hn k x r hr
    · intro q
      have e1 := am_T_ar ht x
      rw [← q.1, Int.toNat_natCast, am_RV_2 hr] at e1
      exact h2 e1.symm
theorem am_Wd_cpy {z : AMZ} {h : AH} {H H' : Heap} {n : Nat} {f t c : Int} {kd lt : Nat} (hW : am_Wd z n h H) (ht : am_ar n t kd lt) (he : H'[z.2.2.1 + t.toNat]? = some (arrV (z.2.1 kd) lt (fun j => av z (kd % 10, cpy h t 0 f 0 c t j)))) (hz : H'.size = H.size) (ho : ∀ q, q ≠ z.2.2.1 + t.toNat → H'[q]? = H[q]?) : am_Wd z n (cpy h t 0 f 0 c) H' := by
  refine ⟨fun k' hk' => ?_, am_sz_same hW.2.1 hz, hW.2.2⟩
  obtain ⟨h0, h1, h2, h3⟩ := ht
  by_cases hkb : k' = t.toNat
  · subst hkb
    unfold am_cell
    rw [h3]
    rw [if_neg (by show ¬ kd < 100; omega), he]
    congr 2
    funext j
    rw [Int.toNat_of_nonneg h0]
  · refine am_cell_other (h := h) (H := H) (fun j => ?_) (ho _ (by omega)) (hW.1 k' hk')
    unfold cpy
    rw [if_neg (by omega)]
theorem aw_cpI {M : AMM} {d mc ms : Nat} {K : AO → Nat → AH → Prop} {n pc : Nat} {ls st : List AV} {h : AH} {f t : Int} {lf lt idx : Nat} {c : Int} (hdg : decode M.2.1 pc = .ok (.invokestatic idx, 3)) (hw : Cond.methodLink M.1.cls idx arraycopyName ∈ am_WS ∧ Cond.native arraycopyName ∈ am_WS ∧ Cond.static arraycopyName ∈ am_WS ∧ Cond.initialized "java/lang/System" ∈ am_WS) (hd : 1 ≤ d ∧ am_c8 st ≤ 8) (hf : am_ar n f 100 lf) (ht : am_ar n t 100 lt) (hc : 0 ≤ c ∧ c ≤ lf ∧ c ≤ lt ∧ c < 2147483648) (k : AW M d mc ms K n (pc + 3) ls st (cpy h t 0 f 0 c)) : AW M d mc ms K n pc ls ((0, c) :: (0, 0) :: (2, t) :: (0, 0) :: (2, f) :: st) h := by
  intro z p l e R s m args below meth cd H locs cells slots MC MS la X0
  obtain ⟨C, G, hS, hW, hI, hls, hst, hL, b1, b2, b3, b4⟩ := X0
  have hts := C.2.2.2.2.1
  have hc0 := am_arr hW hf
  have hc1 := am_arr hW ht
  have h8 := am_cat8 G.2.1 st
  show W p l e R s m args below meth cd H locs cells slots (vx_MQ below (am_Q z K) (am_X z K) args s MC MS (am_A z)) (F0 m pc la (.int (Int32.ofInt c) :: .int (Int32.ofInt 0) :: av z (2, t) :: .int (Int32.ofInt 0) :: av z (2, f) :: st.map (av z)))
  rw [av_ref z hf.1 (by have := hf.2.1; have := hW.2.2; omega), av_ref z ht.1 (by have := ht.2.1; have := hW.2.2; omega)]
  intro T hT X
  obtain ⟨F, hF⟩ : ∃ F : Nat → Int32, F = fun (j : Nat) => Int32.ofInt (h f j) := ⟨_, rfl⟩
  obtain ⟨Gg, hG⟩ : ∃ Gg : Nat → Int32, Gg = fun (j : Nat) => Int32.ofInt (h t j) := ⟨_, rfl⟩
  have c0 : H[z.2.2.1 + f.toNat]? = some (arrV (z.2.1 100) lf (fun j => .int (F j))) := by rw [hc0, hF]; rfl
  have c1 : H[z.2.2.1 + t.toNat]? = some (arrV (z.2.1 100) lt (fun j => .int (Gg j))) := by rw [hc1, hG]; rfl
  obtain ⟨-, k0, hk0, cm0, hkk0⟩ := (G.1.2 0 (z.2.1 100, .int) rfl).1 lf (fun j => .int (F j))
  obtain ⟨-, k1, hk1, cm1, hkk1⟩ := (G.1.2 0 (z.2.1 100, .int) rfl).1 lt (fun j => .int (Gg j))
  have z0 : (Int32.ofInt 0).toInt = 0 := am_toI (by decide) (by decide)
  have zc : (Int32.ofInt c).toInt = c := am_toI (by omega) (by omega)
  have n0 : (Int32.ofInt 0).toNatClampNeg = 0 := by show (Int32.ofInt 0).toInt.toNat = 0; rw [z0]; rfl
  have nc : (Int32.ofInt c).toNatClampNeg = c.toNat := by show (Int32.ofInt c).toInt.toNat = c.toNat; rw [zc]
  have neg : ∀ x : Int, 0 ≤ x → x < 2147483648 → ¬ Int32.ofInt x < 0 := fun x a b => by
    rw [am_0, am_lt ⟨by omega, b⟩ (by decide)]
    omega
  obtain ⟨vm', X', step⟩ := X.arraycopy C.1 C.2.2.2.1 (hts _ hw.1) (hts _ hw.2.1) (hts _ hw.2.2.1) (hts _ hw.2.2.2) (src := z.2.2.1 + f.toNat) (dst := z.2.2.1 + t.toNat) (cs := arrV (z.2.1 100) lf (fun j => .int (F j))) (cd := arrV (z.2.1 100) lt (fun j => .int (Gg j))) (srcPos := Int32.ofInt 0) (destPos := Int32.ofInt 0) (n := Int32.ofInt c) (by rw [hT]; exact c0) (by rw [hT]; exact c1)
    (fun _ h => by cases h) (fun _ h => by cases h) (fun h => by cases h) (fun h => by cases h) hk0 hk1 hkk0 hkk1 (by simp [refKind]) (neg 0 (by decide) (by decide)) (neg 0 (by decide) (by decide)) (neg c hc.1 hc.2.2.2)
    (by rw [z0, zc, arrV_size]; omega)
    (by rw [z0, zc, arrV_size]; omega)
    (fun vm₁ _ i hi => by
      rw [nc] at hi
      have e : (arrV (z.2.1 100) lf (fun j => Value.int (F j))).slots.getD ((Int32.ofInt 0).toNatClampNeg + i) .null = .int (F ((Int32.ofInt 0).toNatClampNeg + i)) := by
        rw [n0, Array.getD_eq_getD_getElem?, arrV_read _ _ (by omega)]
        rfl
      refine ⟨?_, ?_⟩
      · rw [e]
        rfl
      · rw [e]
        exact trivial)
    (g := F0 m pc la (.int (Int32.ofInt c) :: .int (Int32.ofInt 0) :: .ref (z.2.2.1 + t.toNat) :: .int (Int32.ofInt 0) :: .ref (z.2.2.1 + f.toNat) :: st.map (av z))) rfl (hL.1.trans C.2.2.1.symm) (rest := st.map (av z)) rfl (by rw [C.2.1]; exact hdg) (by have := C.2.2.2.2.2.2.2.2.2.1; omega) (by have := C.2.2.2.2.2.2.2.2.2.2.1; show 2 * 0 + _ + ((5 + 2) + 11) ≤ _; omega)
  have e1 : copied (arrV (z.2.1 100) lf (fun j => Value.int (F j))) (arrV (z.2.1 100) lt (fun j => .int (Gg j))) (Int32.ofInt 0) (Int32.ofInt 0) (Int32.ofInt c) = arrV (z.2.1 100) lt (fun j => av z (100 % 10, cpy h t 0 f 0 c t j)) := by
    have e2 := va_copied (fun q => Value.int q) (z.2.1 100) (z.2.1 100) (n0 := lf) (n1 := lt) (sp := 0) (dp := 0) (n := c.toNat) F Gg (by omega)
    have e3 : copied (arrV (z.2.1 100) lf (fun j => Value.int (F j))) (arrV (z.2.1 100) lt (fun j => .int (Gg j))) (Int32.ofInt 0) (Int32.ofInt 0) (Int32.ofInt c) = (arrV (z.2.1 100) lt (fun j => Value.int (Gg j))).storeRun 0 ((arrV (z.2.1 100) lf (fun j => Value.int (F j))).stretch 0 c.toNat) := by
      unfold copied
      rw [n0, nc]
    rw [e3, e2]
    congr 1
    funext j
    show Value.int (va_cpy F Gg 0 0 c.toNat j) = Value.int (Int32.ofInt (cpy h t 0 f 0 c t j))
    unfold va_cpy cpy
    by_cases q : j < c.toNat
    · rw [if_pos ⟨by omega, by omega⟩, if_pos ⟨rfl, by omega, by omega⟩, hF]
      dsimp only
      rw [show (((0 : Nat) + (j - 0) : Nat) : Int) = 0 + ((j : Int) - 0) by omega]
    · rw [if_neg (by omega), if_neg (by omega), hG]
  rw [e1] at X' step
  have hl : z.2.2.1 + t.toNat < H.size := (Array.getElem?_eq_some_iff.mp c1).1
  have hheap : ((T.setVm vm').setCell (z.2.2.1 + t.toNat) (arrV (z.2.1 100) lt (fun j => av z (100 % 10, cpy h t 0 f 0 c t j)))).heap = H.setIfInBounds (z.2.2.1 + t.toNat) (arrV (z.2.1 100) lt (fun j => av z (100 % 10, cpy h t 0 f 0 c t j))) := by rw [← hT]; rfl
  have oq : ∀ q : Nat, q ≠ z.2.2.1 + t.toNat → (H.setIfInBounds (z.2.2.1 + t.toNat) (arrV (z.2.1 100) lt (fun j => av z (100 % 10, cpy h t 0 f 0 c t j))))[q]? = H[q]? := fun q hq => by simp [Array.getElem?_setIfInBounds, Ne.symm hq]
  have inA : am_A z (z.2.2.1 + t.toNat) := Nat.le_add_right _ _
  obtain ⟨t', a1, b1'⟩ := k z p l e R s m args below meth cd _ _ cells slots MC MS la ⟨C, G, ⟨by simp; exact hS.1, fun q g1 g2 => by
      rw [oq q (fun e => g2 (by rw [e]; exact inA))]
      exact hS.2.1 q g1 g2, fun q hq => by
      rcases List.mem_append.mp hq with h | h
      · exact hS.2.2 q h
      · obtain ⟨y, -, hy⟩ := List.mem_map.mp h
        rw [← hy]
        exact inA⟩, am_Wd_cpy hW ht (by simp [Array.getElem?_setIfInBounds, hl]) (by simp) oq, am_inv_cpy hI hf ht (by decide), hls, am_okst (am_okst (am_okst (am_okst (am_okst hst)))), hL, b1, b2, b3, b4⟩ _ hheap X'
  exact ⟨t', step t' a1, b1'⟩
theorem aw_cpJ {M : AMM} {d mc ms : Nat} {K : AO → Nat → AH → Prop} {n pc : Nat} {ls st : List AV} {h : AH} {f t : Int} {lf lt idx : Nat} {c : Int} (hdg : decode M.2.1 pc = .ok (.invokestatic idx, 3)) (hw : Cond.methodLink M.1.cls idx arraycopyName ∈ am_WS ∧ Cond.native arraycopyName ∈ am_WS ∧ Cond.static arraycopyName ∈ am_WS ∧ Cond.initialized "java/lang/System" ∈ am_WS) (hd : 1 ≤ d ∧ am_c8 st ≤ 8) (hf : am_ar n f 101 lf) (ht : am_ar n t 101 lt) (hc : 0 ≤ c ∧ c ≤ lf ∧ c ≤ lt ∧ c < 2147483648) (k : AW M d mc ms K n (pc + 3) ls st (cpy h t 0 f 0 c)) : AW M d mc ms K n pc ls ((0, c) :: (0, 0) :: (2, t) :: (0, 0) :: (2, f) :: st) h := by
  intro z p l e R s m args below meth cd H locs cells slots MC MS la X0
  obtain ⟨C, G, hS, hW, hI, hls, hst, hL, b1, b2, b3, b4⟩ := X0
  have hts := C.2.2.2.2.1
  have hc0 := am_arr hW hf
  have hc1 := am_arr hW ht
  have h8 := am_cat8 G.2.1 st
  show W p l e R s m args below meth cd H locs cells slots (vx_MQ below (am_Q z K) (am_X z K) args s MC MS (am_A z)) (F0 m pc la (.int (Int32.ofInt c) :: .int (Int32.ofInt 0) :: av z (2, t) :: .int (Int32.ofInt 0) :: av z (2, f) :: st.map (av z)))
  rw [av_ref z hf.1 (by have := hf.2.1; have := hW.2.2; omega), av_ref z ht.1 (by have := ht.2.1; have := hW.2.2; omega)]
  intro T hT X
  obtain ⟨F, hF⟩ : ∃ F : Nat → Int64, F = fun (j : Nat) => Int64.ofInt (h f j) := ⟨_, rfl⟩
  obtain ⟨Gg, hG⟩ : ∃ Gg : Nat → Int64, Gg = fun (j : Nat) => Int64.ofInt (h t j) := ⟨_, rfl⟩
  have c0 : H[z.2.2.1 + f.toNat]? = some (arrV (z.2.1 101) lf (fun j => .long (F j))) := by rw [hc0, hF]; rfl
  have c1 : H[z.2.2.1 + t.toNat]? = some (arrV (z.2.1 101) lt (fun j => .long (Gg j))) := by rw [hc1, hG]; rfl
  obtain ⟨-, k0, hk0, cm0, hkk0⟩ := (G.1.2 2 (z.2.1 101, .long) rfl).1 lf (fun j => .long (F j))
  obtain ⟨-, k1, hk1, cm1, hkk1⟩ := (G.1.2 2 (z.2.1 101, .long) rfl).1 lt (fun j => .long (Gg j))
  have z0 : (Int32.ofInt 0).toInt = 0 := am_toI (by decide) (by decide)
  have zc : (Int32.ofInt c).toInt = c := am_toI (by omega) (by omega)
  have n0 : (Int32.ofInt 0).toNatClampNeg = 0 := by show (Int32.ofInt 0).toInt.toNat = 0; rw [z0]; rfl
  have nc : (Int32.ofInt c).toNatClampNeg = c.toNat := by show (Int32.ofInt c).toInt.toNat = c.toNat; rw [zc]
  have neg : ∀ x : Int, 0 ≤ x → x < 2147483648 → ¬ Int32.ofInt x < 0 := fun x a b => by
    rw [am_0, am_lt ⟨by omega, b⟩ (by decide)]
    omega
  obtain ⟨vm', X', step⟩ := X.arraycopy C.1 C.2.2.2.1 (hts _ hw.1) (hts _ hw.2.1) (hts _ hw.2.2.1) (hts _ hw.2.2.2) (src := z.2.2.1 + f.toNat) (dst := z.2.2.1 + t.toNat) (cs := arrV (z.2.1 101) lf (fun j => .long (F j))) (cd := arrV (z.2.1 101) lt (fun j => .long (Gg j))) (srcPos := Int32.ofInt 0) (destPos := Int32.ofInt 0) (n := Int32.ofInt c) (by rw [hT]; exact c0) (by rw [hT]; exact c1)
    (fun _ h => by cases h) (fun _ h => by cases h) (fun h => by cases h) (fun h => by cases h) hk0 hk1 hkk0 hkk1 (by simp [refKind]) (neg 0 (by decide) (by decide)) (neg 0 (by decide) (by decide)) (neg c hc.1 hc.2.2.2)
    (by rw [z0, zc, arrV_size]; omega)
    (by rw [z0, zc, arrV_size]; omega)
    (fun vm₁ _ i hi => by
      rw [nc] at hi
      have e : (arrV (z.2.1 101) lf (fun j => Value.long (F j))).slots.getD ((Int32.ofInt 0).toNatClampNeg + i) .null = .long (F ((Int32.ofInt 0).toNatClampNeg + i)) := by
        rw [n0, Array.getD_eq_getD_getElem?, arrV_read _ _ (by omega)]
        rfl
      refine ⟨?_, ?_⟩
      · rw [e]
        rfl
      · rw [e]
        exact trivial)
    (g := F0 m pc la (.int (Int32.ofInt c) :: .int (Int32.ofInt 0) :: .ref (z.2.2.1 + t.toNat) :: .int (Int32.ofInt 0) :: .ref (z.2.2.1 + f.toNat) :: st.map (av z))) rfl (hL.1.trans C.2.2.1.symm) (rest := st.map (av z)) rfl (by rw [C.2.1]; exact hdg) (by have := C.2.2.2.2.2.2.2.2.2.1; omega) (by have := C.2.2.2.2.2.2.2.2.2.2.1; show 2 * 0 + _ + ((5 + 2) + 11) ≤ _; omega)
  have e1 : copied (arrV (z.2.1 101) lf (fun j => Value.long (F j))) (arrV (z.2.1 101) lt (fun j => .long (Gg j))) (Int32.ofInt 0) (Int32.ofInt 0) (Int32.ofInt c) = arrV (z.2.1 101) lt (fun j => av z (101 % 10, cpy h t 0 f 0 c t j)) := by
    have e2 := va_copied (fun q => Value.long q) (z.2.1 101) (z.2.1 101) (n0 := lf) (n1 := lt) (sp := 0) (dp := 0) (n := c.toNat) F Gg (by omega)
    have e3 : copied (arrV (z.2.1 101) lf (fun j => Value.long (F j))) (arrV (z.2.1 101) lt (fun j => .long (Gg j))) (Int32.ofInt 0) (Int32.ofInt 0) (Int32.ofInt c) = (arrV (z.2.1 101) lt (fun j => Value.long (Gg j))).storeRun 0 ((arrV (z.2.1 101) lf (fun j => Value.long (F j))).stretch 0 c.toNat) := by
      unfold copied
      rw [n0, nc]
    rw [e3, e2]
    congr 1
    funext j
    show Value.long (va_cpy F Gg 0 0 c.toNat j) = Value.long (Int64.ofInt (cpy h t 0 f 0 c t j))
    unfold va_cpy cpy
    by_cases q : j < c.toNat
    · rw [if_pos ⟨by omega, by omega⟩, if_pos ⟨rfl, by omega, by omega⟩, hF]
      dsimp only
      rw [show (((0 : Nat) + (j - 0) : Nat) : Int) = 0 + ((j : Int) - 0) by omega]
    · rw [if_neg (by omega), if_neg (by omega), hG]
  rw [e1] at X' step
  have hl : z.2.2.1 + t.toNat < H.size := (Array.getElem?_eq_some_iff.mp c1).1
  have hheap : ((T.setVm vm').setCell (z.2.2.1 + t.toNat) (arrV (z.2.1 101) lt (fun j => av z (101 % 10, cpy h t 0 f 0 c t j)))).heap = H.setIfInBounds (z.2.2.1 + t.toNat) (arrV (z.2.1 101) lt (fun j => av z (101 % 10, cpy h t 0 f 0 c t j))) := by rw [← hT]; rfl
  have oq : ∀ q : Nat, q ≠ z.2.2.1 + t.toNat → (H.setIfInBounds (z.2.2.1 + t.toNat) (arrV (z.2.1 101) lt (fun j => av z (101 % 10, cpy h t 0 f 0 c t j))))[q]? = H[q]? := fun q hq => by simp [Array.getElem?_setIfInBounds, Ne.symm hq]
  have inA : am_A z (z.2.2.1 + t.toNat) := Nat.le_add_right _ _
  obtain ⟨t', a1, b1'⟩ := k z p l e R s m args below meth cd _ _ cells slots MC MS la ⟨C, G, ⟨by simp; exact hS.1, fun q g1 g2 => by
      rw [oq q (fun e => g2 (by rw [e]; exact inA))]
      exact hS.2.1 q g1 g2, fun q hq => by
      rcases List.mem_append.mp hq with h | h
      · exact hS.2.2 q h
      · obtain ⟨y, -, hy⟩ := List.mem_map.mp h
        rw [← hy]
        exact inA⟩, am_Wd_cpy hW ht (by simp [Array.getElem?_setIfInBounds, hl]) (by simp) oq, am_inv_cpy hI hf ht (by decide), hls, am_okst (am_okst (am_okst (am_okst (am_okst hst)))), hL, b1, b2, b3, b4⟩ _ hheap X'
  exact ⟨t', step t' a1, b1'⟩
theorem cw_1 : Cond.native arraycopyName ∈ am_WS := (am_mt 524 (by decide +kernel) (by decide +kernel))
theorem cw_2 : Cond.static arraycopyName ∈ am_WS := (am_mt 523 (by decide +kernel) (by decide +kernel))
theorem cw_3 : Cond.initialized "java/lang/System" ∈ am_WS := (am_mt 20 (by decide +kernel) (by decide +kernel))
