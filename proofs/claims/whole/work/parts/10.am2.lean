theorem aw_iload_n {M : AMM} {d mc ms : Nat} {K : AO → Nat → AH → Prop} {n pc : Nat} {ls st : List AV} {h : AH} {x : Int} {kf : Fin 4} (hdg : decode M.2.1 pc = .ok (.iload_n kf, 1)) (hv : ls[(kf : Nat)]? = some (0, x)) (k : AW M d mc ms K n (pc + 1) ls ((0, x) :: st) h) : AW M d mc ms K n pc ls st h := by
  intro z p l e R s m args below meth c H locs cells slots MC MS la X
  obtain ⟨C, G, hS, hW, hI, hls, hst, hL, b1, b2, b3, b4⟩ := X
  refine lv_iload_n C.1 C.2.1 hdg rfl (show la[(kf : Nat)]? = some (.val (.int (Int32.ofInt x))) from hL.at hv (by decide : ¬ (0 : Nat) = 9)) ?_
  exact k z p l e R s m args below meth c H locs cells slots MC MS la ⟨C, G, hS, hW, hI, hls, am_oksc (hls _ (List.mem_of_getElem? hv)) hst, hL, b1, b2, b3, b4⟩
theorem aw_iload {M : AMM} {d mc ms : Nat} {K : AO → Nat → AH → Prop} {n pc : Nat} {ls st : List AV} {h : AH} {x : Int} {i : Nat} (hdg : decode M.2.1 pc = .ok (.iload i, 2)) (hv : ls[i]? = some (0, x)) (k : AW M d mc ms K n (pc + 2) ls ((0, x) :: st) h) : AW M d mc ms K n pc ls st h := by
  intro z p l e R s m args below meth c H locs cells slots MC MS la X
  obtain ⟨C, G, hS, hW, hI, hls, hst, hL, b1, b2, b3, b4⟩ := X
  refine lv_iload C.1 C.2.1 hdg (show la[i]? = some (.val (.int (Int32.ofInt x))) from hL.at hv (by decide : ¬ (0 : Nat) = 9)) ?_
  exact k z p l e R s m args below meth c H locs cells slots MC MS la ⟨C, G, hS, hW, hI, hls, am_oksc (hls _ (List.mem_of_getElem? hv)) hst, hL, b1, b2, b3, b4⟩
theorem aw_lload_n {M : AMM} {d mc ms : Nat} {K : AO → Nat → AH → Prop} {n pc : Nat} {ls st : List AV} {h : AH} {x : Int} {kf : Fin 4} (hdg : decode M.2.1 pc = .ok (.lload_n kf, 1)) (hv : ls[(kf : Nat)]? = some (1, x)) (k : AW M d mc ms K n (pc + 1) ls ((1, x) :: st) h) : AW M d mc ms K n pc ls st h := by
  intro z p l e R s m args below meth c H locs cells slots MC MS la X
  obtain ⟨C, G, hS, hW, hI, hls, hst, hL, b1, b2, b3, b4⟩ := X
  refine lv_lload_n C.1 C.2.1 hdg rfl (show la[(kf : Nat)]? = some (.val (.long (Int64.ofInt x))) from hL.at hv (by decide : ¬ (1 : Nat) = 9)) ?_
  exact k z p l e R s m args below meth c H locs cells slots MC MS la ⟨C, G, hS, hW, hI, hls, am_oksc (hls _ (List.mem_of_getElem? hv)) hst, hL, b1, b2, b3, b4⟩
theorem aw_lload {M : AMM} {d mc ms : Nat} {K : AO → Nat → AH → Prop} {n pc : Nat} {ls st : List AV} {h : AH} {x : Int} {i : Nat} (hdg : decode M.2.1 pc = .ok (.lload i, 2)) (hv : ls[i]? = some (1, x)) (k : AW M d mc ms K n (pc + 2) ls ((1, x) :: st) h) : AW M d mc ms K n pc ls st h := by
  intro z p l e R s m args below meth c H locs cells slots MC MS la X
  obtain ⟨C, G, hS, hW, hI, hls, hst, hL, b1, b2, b3, b4⟩ := X
  refine lv_lload C.1 C.2.1 hdg (show la[i]? = some (.val (.long (Int64.ofInt x))) from hL.at hv (by decide : ¬ (1 : Nat) = 9)) ?_
  exact k z p l e R s m args below meth c H locs cells slots MC MS la ⟨C, G, hS, hW, hI, hls, am_oksc (hls _ (List.mem_of_getElem? hv)) hst, hL, b1, b2, b3, b4⟩
theorem aw_fload_n {M : AMM} {d mc ms : Nat} {K : AO → Nat → AH → Prop} {n pc : Nat} {ls st : List AV} {h : AH} {x : Int} {kf : Fin 4} (hdg : decode M.2.1 pc = .ok (.fload_n kf, 1)) (hv : ls[(kf : Nat)]? = some (3, x)) (k : AW M d mc ms K n (pc + 1) ls ((3, x) :: st) h) : AW M d mc ms K n pc ls st h := by
  intro z p l e R s m args below meth c H locs cells slots MC MS la X
  obtain ⟨C, G, hS, hW, hI, hls, hst, hL, b1, b2, b3, b4⟩ := X
  refine lv_fload_n C.1 C.2.1 hdg rfl (show la[(kf : Nat)]? = some (.val (.float (UInt32.ofNat x.toNat))) from hL.at hv (by decide : ¬ (3 : Nat) = 9)) ?_
  exact k z p l e R s m args below meth c H locs cells slots MC MS la ⟨C, G, hS, hW, hI, hls, am_oksc (hls _ (List.mem_of_getElem? hv)) hst, hL, b1, b2, b3, b4⟩
theorem aw_fload {M : AMM} {d mc ms : Nat} {K : AO → Nat → AH → Prop} {n pc : Nat} {ls st : List AV} {h : AH} {x : Int} {i : Nat} (hdg : decode M.2.1 pc = .ok (.fload i, 2)) (hv : ls[i]? = some (3, x)) (k : AW M d mc ms K n (pc + 2) ls ((3, x) :: st) h) : AW M d mc ms K n pc ls st h := by
  intro z p l e R s m args below meth c H locs cells slots MC MS la X
  obtain ⟨C, G, hS, hW, hI, hls, hst, hL, b1, b2, b3, b4⟩ := X
  refine lv_fload C.1 C.2.1 hdg (show la[i]? = some (.val (.float (UInt32.ofNat x.toNat))) from hL.at hv (by decide : ¬ (3 : Nat) = 9)) ?_
  exact k z p l e R s m args below meth c H locs cells slots MC MS la ⟨C, G, hS, hW, hI, hls, am_oksc (hls _ (List.mem_of_getElem? hv)) hst, hL, b1, b2, b3, b4⟩
theorem aw_aload_n {M : AMM} {d mc ms : Nat} {K : AO → Nat → AH → Prop} {n pc : Nat} {ls st : List AV} {h : AH} {x : Int} {kf : Fin 4} (h0 : 0 ≤ x) (hx : x < 1000) (hdg : decode M.2.1 pc = .ok (.aload_n kf, 1)) (hv : ls[(kf : Nat)]? = some (2, x)) (k : AW M d mc ms K n (pc + 1) ls ((2, x) :: st) h) : AW M d mc ms K n pc ls st h := by
  intro z p l e R s m args below meth c H locs cells slots MC MS la X
  obtain ⟨C, G, hS, hW, hI, hls, hst, hL, b1, b2, b3, b4⟩ := X
  have h1 : la[(kf : Nat)]? = some (.val (av z (2, x))) := hL.at hv (by decide : ¬ (2 : Nat) = 9)
  have hgo : W p l e R s m args below meth c H locs cells slots (vx_MQ below (am_Q z K) (am_X z K) args s MC MS (am_A z)) (F0 m (pc + 1) la (av z (2, x) :: st.map (av z))) := k z p l e R s m args below meth c H locs cells slots MC MS la ⟨C, G, hS, hW, hI, hls, am_oksc (am_ok2 x) hst, hL, b1, b2, b3, b4⟩
  rw [av_ref z h0 hx] at h1 hgo
  exact lv_aload_n C.1 C.2.1 hdg rfl h1 hgo
/-- an outer reference that is one: a table, a string, its bytes, the script -/
def am_or (x : Int) : Bool := (decide (1000 ≤ x) && decide (x < 1004)) || (decide (2000 ≤ x) && decide (x < 2044)) || (decide (2100 ≤ x) && decide (x < 2144)) || decide (x = 3000)
theorem am_rvref {z : AMZ} {s : State} (G : am_G z s) {x : Int} (h : am_or x = true) : ∃ a : Nat, av z (2, x) = .ref a := by
  obtain ⟨-, -, g1, g2, -, -, -, -, b, g3, -⟩ := G
  simp only [am_or, Bool.or_eq_true, Bool.and_eq_true, decide_eq_true_eq] at h
  rcases h with ((⟨a1, a2⟩ | ⟨a1, a2⟩) | ⟨a1, a2⟩) | a1
  · obtain ⟨k, hk⟩ : ∃ k : Nat, x = 1000 + k := ⟨(x - 1000).toNat, by omega⟩
    have hk4 : k < 4 := by omega
    obtain ⟨a, e, -⟩ := g1 k am_tb[k] (List.getElem?_eq_getElem (h := hk4))
    exact ⟨a, by rw [av_out z (by omega), show x.toNat = 1000 + k by omega]; exact e⟩
  · obtain ⟨k, hk⟩ : ∃ k : Nat, x = 2000 + k := ⟨(x - 2000).toNat, by omega⟩
    have hk4 : k < 44 := by omega
    obtain ⟨a, v, e, -⟩ := g2 k am_st[k] (List.getElem?_eq_getElem (h := hk4))
    exact ⟨a, by rw [av_out z (by omega), show x.toNat = 2000 + k by omega]; exact e⟩
  · obtain ⟨k, hk⟩ : ∃ k : Nat, x = 2100 + k := ⟨(x - 2100).toNat, by omega⟩
    have hk4 : k < 44 := by omega
    obtain ⟨a, v, -, e, -⟩ := g2 k am_st[k] (List.getElem?_eq_getElem (h := hk4))
    exact ⟨v, by rw [av_out z (by omega), show x.toNat = 2100 + k by omega]; exact e⟩
  · exact ⟨b, by rw [av_out z (by omega), a1]; exact g3⟩
theorem aw_aloadX_n {M : AMM} {d mc ms : Nat} {K : AO → Nat → AH → Prop} {n pc : Nat} {ls st : List AV} {h : AH} {x : Int} {kf : Fin 4} (h0 : am_or x = true) (hdg : decode M.2.1 pc = .ok (.aload_n kf, 1)) (hv : ls[(kf : Nat)]? = some (2, x)) (k : AW M d mc ms K n (pc + 1) ls ((2, x) :: st) h) : AW M d mc ms K n pc ls st h := by
  intro z p l e R s m args below meth c H locs cells slots MC MS la X
  obtain ⟨C, G, hS, hW, hI, hls, hst, hL, b1, b2, b3, b4⟩ := X
  have h1 : la[(kf : Nat)]? = some (.val (av z (2, x))) := hL.at hv (by decide : ¬ (2 : Nat) = 9)
  have hgo : W p l e R s m args below meth c H locs cells slots (vx_MQ below (am_Q z K) (am_X z K) args s MC MS (am_A z)) (F0 m (pc + 1) la (av z (2, x) :: st.map (av z))) := k z p l e R s m args below meth c H locs cells slots MC MS la ⟨C, G, hS, hW, hI, hls, am_oksc (am_ok2 x) hst, hL, b1, b2, b3, b4⟩
  obtain ⟨a, ha⟩ := am_rvref G h0
  rw [ha] at h1 hgo
  exact lv_aload_n C.1 C.2.1 hdg rfl h1 hgo
theorem aw_aload {M : AMM} {d mc ms : Nat} {K : AO → Nat → AH → Prop} {n pc : Nat} {ls st : List AV} {h : AH} {x : Int} {i : Nat} (h0 : 0 ≤ x) (hx : x < 1000) (hdg : decode M.2.1 pc = .ok (.aload i, 2)) (hv : ls[i]? = some (2, x)) (k : AW M d mc ms K n (pc + 2) ls ((2, x) :: st) h) : AW M d mc ms K n pc ls st h := by
  intro z p l e R s m args below meth c H locs cells slots MC MS la X
  obtain ⟨C, G, hS, hW, hI, hls, hst, hL, b1, b2, b3, b4⟩ := X
  have h1 : la[i]? = some (.val (av z (2, x))) := hL.at hv (by decide : ¬ (2 : Nat) = 9)
  have hgo : W p l e R s m args below meth c H locs cells slots (vx_MQ below (am_Q z K) (am_X z K) args s MC MS (am_A z)) (F0 m (pc + 2) la (av z (2, x) :: st.map (av z))) := k z p l e R s m args below meth c H locs cells slots MC MS la ⟨C, G, hS, hW, hI, hls, am_oksc (am_ok2 x) hst, hL, b1, b2, b3, b4⟩
  rw [av_ref z h0 hx] at h1 hgo
  exact lv_aload C.1 C.2.1 hdg h1 hgo
theorem aw_aloadX {M : AMM} {d mc ms : Nat} {K : AO → Nat → AH → Prop} {n pc : Nat} {ls st : List AV} {h : AH} {x : Int} {i : Nat} (h0 : am_or x = true) (hdg : decode M.2.1 pc = .ok (.aload i, 2)) (hv : ls[i]? = some (2, x)) (k : AW M d mc ms K n (pc + 2) ls ((2, x) :: st) h) : AW M d mc ms K n pc ls st h := by
  intro z p l e R s m args below meth c H locs cells slots MC MS la X
  obtain ⟨C, G, hS, hW, hI, hls, hst, hL, b1, b2, b3, b4⟩ := X
  have h1 : la[i]? = some (.val (av z (2, x))) := hL.at hv (by decide : ¬ (2 : Nat) = 9)
  have hgo : W p l e R s m args below meth c H locs cells slots (vx_MQ below (am_Q z K) (am_X z K) args s MC MS (am_A z)) (F0 m (pc + 2) la (av z (2, x) :: st.map (av z))) := k z p l e R s m args below meth c H locs cells slots MC MS la ⟨C, G, hS, hW, hI, hls, am_oksc (am_ok2 x) hst, hL, b1, b2, b3, b4⟩
  obtain ⟨a, ha⟩ := am_rvref G h0
  rw [ha] at h1 hgo
  exact lv_aload C.1 C.2.1 hdg h1 hgo
def am_n2 (v : AV) : Bool := !(v.1 == 1) && !(v.1 == 4)
def am_n2at (ls : List AV) (i : Nat) : Bool := match i with
  | 0 => true
  | j + 1 => match ls[j]? with
    | some v => am_n2 v
    | none => true
def am_lv (z : AMZ) (ls : List AV) : List (Nat × Value) := (List.range ls.length).filterMap (fun i => match ls[i]? with | some v => if v.1 = 9 then none else some (i, av z v) | none => none)
theorem am_lv_mem {z : AMZ} {ls : List AV} {q : Nat × Value} : q ∈ am_lv z ls ↔ ∃ v, ls[q.1]? = some v ∧ v.1 ≠ 9 ∧ q.2 = av z v := by
  unfold am_lv
  rw [List.mem_filterMap]
  constructor
  · rintro ⟨i, hi, hq⟩
    cases hv : ls[i]? with
    | none => rw [hv] at hq; cases hq
    | some v =>
      rw [hv] at hq
      dsimp only at hq
      by_cases h9 : v.1 = 9
      · rw [if_pos h9] at hq; cases hq
      · rw [if_neg h9] at hq
        cases hq
        exact ⟨v, hv, h9, rfl⟩
  · rintro ⟨v, hv, h9, hq⟩
    refine ⟨q.1, List.mem_range.mpr (List.getElem?_eq_some_iff.mp hv).1, ?_⟩
    rw [hv]
    dsimp only
    rw [if_neg h9, ← hq]
theorem am_L.has {z : AMZ} {nL : Nat} {ls : List AV} {la : Array Slot} (h : am_L z nL ls la) : lv_has la nL (am_lv z ls) := by
  refine ⟨h.1, h.2.1, fun q hq => ?_⟩
  obtain ⟨v, hv, h9, e⟩ := am_lv_mem.mp hq
  rw [e]
  exact h.2.2 q.1 v hv h9
theorem am_cat2 {z : AMZ} {v : AV} (hr : ∀ k, (z.2.2.2.1 k).category = 1) (h : am_n2 v = true) : (av z v).category = 1 := by
  simp only [am_n2, Bool.and_eq_true, Bool.not_eq_true', beq_eq_false_iff_ne] at h
  exact av_cat h.1 h.2 hr
theorem am_L.store1 {z : AMZ} {nL : Nat} {ls : List AV} {la' : Array Slot} {i : Nat} {v : AV} (hr : ∀ k, (z.2.2.2.1 k).category = 1) (hl : ls.length = nL) (h2 : am_n2at ls i = true)
    (h : lv_has la' nL ((i, av z v) :: (am_lv z ls).filter (fun q => !(q.1 == i) && !(q.1 + 1 == i && q.2.category == 2)))) : am_L z nL (ls.set i v) la' := by
  refine ⟨h.1, h.2.1, fun j u hj h9 => ?_⟩
  by_cases hji : i = j
  · subst hji
    have hlt : i < ls.length := by
      have := (List.getElem?_eq_some_iff.mp hj).1
      rwa [List.length_set] at this
    rw [List.getElem?_set_self hlt] at hj
    cases hj
    exact h.2.2 (i, av z v) List.mem_cons_self
  · rw [List.getElem?_set_ne hji] at hj
    refine h.2.2 (j, av z u) (List.mem_cons_of_mem _ (List.mem_filter.mpr ⟨am_lv_mem.mpr ⟨u, hj, h9, rfl⟩, ?_⟩))
    simp only [Bool.and_eq_true, Bool.not_eq_true', beq_eq_false_iff_ne, Bool.and_eq_false_iff]
    refine ⟨fun e => hji e.symm, ?_⟩
    by_cases hs : j + 1 = i
    · right
      subst hs
      simp only [am_n2at, hj] at h2
      rw [am_cat2 hr h2]
      decide
    · exact Or.inl hs
theorem am_L.store2 {z : AMZ} {nL : Nat} {ls : List AV} {la' : Array Slot} {i : Nat} {v : AV} (hr : ∀ k, (z.2.2.2.1 k).category = 1) (hl : ls.length = nL) (h2 : am_n2at ls i = true)
    (h : lv_has la' nL ((i, av z v) :: (am_lv z ls).filter (fun q => !(q.1 == i) && (!(q.1 == i + 1) && !(q.1 + 1 == i && q.2.category == 2))))) : am_L z nL ((ls.set i v).set (i + 1) (9, 0)) la' := by
  refine ⟨h.1, h.2.1, fun j u hj h9 => ?_⟩
  by_cases hj1 : i + 1 = j
  · subst hj1
    have hlt : i + 1 < (ls.set i v).length := by
      have := (List.getElem?_eq_some_iff.mp hj).1
      rwa [List.length_set] at this
    rw [List.getElem?_set_self hlt] at hj
    cases hj
    exact absurd rfl h9
  · rw [List.getElem?_set_ne hj1] at hj
    by_cases hji : i = j
    · subst hji
      have hlt : i < ls.length := by
        have := (List.getElem?_eq_some_iff.mp hj).1
        rwa [List.length_set] at this
      rw [List.getElem?_set_self hlt] at hj
      cases hj
      exact h.2.2 (i, av z v) List.mem_cons_self
    · rw [List.getElem?_set_ne hji] at hj
      refine h.2.2 (j, av z u) (List.mem_cons_of_mem _ (List.mem_filter.mpr ⟨am_lv_mem.mpr ⟨u, hj, h9, rfl⟩, ?_⟩))
      simp only [Bool.and_eq_true, Bool.not_eq_true', beq_eq_false_iff_ne, Bool.and_eq_false_iff]
      refine ⟨fun e => hji e.symm, fun e => hj1 e.symm, ?_⟩
      by_cases hs : j + 1 = i
      · right
        subst hs
        simp only [am_n2at, hj] at h2
        rw [am_cat2 hr h2]
        decide
      · exact Or.inl hs
theorem am_oks_set {ls : List AV} {i : Nat} {v : AV} (h : am_oks ls) (hv : am_ok v) : am_oks (ls.set i v) := fun u hu => (List.mem_or_eq_of_mem_set hu).elim (h u) (fun e => e ▸ hv)
theorem aw_istore_n {M : AMM} {d mc ms : Nat} {K : AO → Nat → AH → Prop} {n pc : Nat} {ls st : List AV} {h : AH} {x : Int} {kf : Fin 4} (hdg : decode M.2.1 pc = .ok (.istore_n kf, 1)) (hl : ls.length = M.2.2.1) (hi : (kf : Nat) < M.2.2.1) (h2 : am_n2at ls (kf : Nat) = true) (k : AW M d mc ms K n (pc + 1) (ls.set (kf : Nat) (0, x)) st h) : AW M d mc ms K n pc ls ((0, x) :: st) h := by
  intro z p l e R s m args below meth c H locs cells slots MC MS la X
  obtain ⟨C, G, hS, hW, hI, hls, hst, hL, b1, b2, b3, b4⟩ := X
  refine lv_istore_n C.1 C.2.1 hdg rfl hL.has (by omega) rfl (fun la2 hla2 => ?_)
  exact k z p l e R s m args below meth c H locs cells slots MC MS la2 ⟨C, G, hS, hW, hI, am_oks_set hls (am_oksh hst), am_okst hst, am_L.store1 G.2.1 hl h2 hla2, b1, b2, b3, b4⟩
theorem aw_istore {M : AMM} {d mc ms : Nat} {K : AO → Nat → AH → Prop} {n pc : Nat} {ls st : List AV} {h : AH} {x : Int} {i : Nat} (hdg : decode M.2.1 pc = .ok (.istore i, 2)) (hl : ls.length = M.2.2.1) (hi : i < M.2.2.1) (h2 : am_n2at ls i = true) (k : AW M d mc ms K n (pc + 2) (ls.set i (0, x)) st h) : AW M d mc ms K n pc ls ((0, x) :: st) h := by
  intro z p l e R s m args below meth c H locs cells slots MC MS la X
  obtain ⟨C, G, hS, hW, hI, hls, hst, hL, b1, b2, b3, b4⟩ := X
  refine lv_istore C.1 C.2.1 hdg hL.has (by omega) rfl (fun la2 hla2 => ?_)
  exact k z p l e R s m args below meth c H locs cells slots MC MS la2 ⟨C, G, hS, hW, hI, am_oks_set hls (am_oksh hst), am_okst hst, am_L.store1 G.2.1 hl h2 hla2, b1, b2, b3, b4⟩
theorem aw_fstore_n {M : AMM} {d mc ms : Nat} {K : AO → Nat → AH → Prop} {n pc : Nat} {ls st : List AV} {h : AH} {x : Int} {kf : Fin 4} (hdg : decode M.2.1 pc = .ok (.fstore_n kf, 1)) (hl : ls.length = M.2.2.1) (hi : (kf : Nat) < M.2.2.1) (h2 : am_n2at ls (kf : Nat) = true) (k : AW M d mc ms K n (pc + 1) (ls.set (kf : Nat) (3, x)) st h) : AW M d mc ms K n pc ls ((3, x) :: st) h := by
  intro z p l e R s m args below meth c H locs cells slots MC MS la X
  obtain ⟨C, G, hS, hW, hI, hls, hst, hL, b1, b2, b3, b4⟩ := X
  refine lv_fstore_n C.1 C.2.1 hdg rfl hL.has (by omega) rfl (fun la2 hla2 => ?_)
  exact k z p l e R s m args below meth c H locs cells slots MC MS la2 ⟨C, G, hS, hW, hI, am_oks_set hls (am_oksh hst), am_okst hst, am_L.store1 G.2.1 hl h2 hla2, b1, b2, b3, b4⟩
theorem aw_fstore {M : AMM} {d mc ms : Nat} {K : AO → Nat → AH → Prop} {n pc : Nat} {ls st : List AV} {h : AH} {x : Int} {i : Nat} (hdg : decode M.2.1 pc = .ok (.fstore i, 2)) (hl : ls.length = M.2.2.1) (hi : i < M.2.2.1) (h2 : am_n2at ls i = true) (k : AW M d mc ms K n (pc + 2) (ls.set i (3, x)) st h) : AW M d mc ms K n pc ls ((3, x) :: st) h := by
  intro z p l e R s m args below meth c H locs cells slots MC MS la X
  obtain ⟨C, G, hS, hW, hI, hls, hst, hL, b1, b2, b3, b4⟩ := X
  refine lv_fstore C.1 C.2.1 hdg hL.has (by omega) rfl (fun la2 hla2 => ?_)
  exact k z p l e R s m args below meth c H locs cells slots MC MS la2 ⟨C, G, hS, hW, hI, am_oks_set hls (am_oksh hst), am_okst hst, am_L.store1 G.2.1 hl h2 hla2, b1, b2, b3, b4⟩
theorem aw_lstore_n {M : AMM} {d mc ms : Nat} {K : AO → Nat → AH → Prop} {n pc : Nat} {ls st : List AV} {h : AH} {x : Int} {kf : Fin 4} (hdg : decode M.2.1 pc = .ok (.lstore_n kf, 1)) (hl : ls.length = M.2.2.1) (hi : (kf : Nat) + 1 < M.2.2.1) (h2 : am_n2at ls (kf : Nat) = true) (k : AW M d mc ms K n (pc + 1) ((ls.set (kf : Nat) (1, x)).set ((kf : Nat) + 1) (9, 0)) st h) : AW M d mc ms K n pc ls ((1, x) :: st) h := by
  intro z p l e R s m args below meth c H locs cells slots MC MS la X
  obtain ⟨C, G, hS, hW, hI, hls, hst, hL, b1, b2, b3, b4⟩ := X
  refine lv_lstore_n C.1 C.2.1 hdg rfl hL.has (by omega) rfl (fun la2 hla2 => ?_)
  exact k z p l e R s m args below meth c H locs cells slots MC MS la2 ⟨C, G, hS, hW, hI, am_oks_set (am_oks_set hls (am_oksh hst)) (am_ok9 0), am_okst hst, am_L.store2 G.2.1 hl h2 hla2, b1, b2, b3, b4⟩
theorem aw_lstore {M : AMM} {d mc ms : Nat} {K : AO → Nat → AH → Prop} {n pc : Nat} {ls st : List AV} {h : AH} {x : Int} {i : Nat} (hdg : decode M.2.1 pc = .ok (.lstore i, 2)) (hl : ls.length = M.2.2.1) (hi : i + 1 < M.2.2.1) (h2 : am_n2at ls i = true) (k : AW M d mc ms K n (pc + 2) ((ls.set i (1, x)).set (i + 1) (9, 0)) st h) : AW M d mc ms K n pc ls ((1, x) :: st) h := by
  intro z p l e R s m args below meth c H locs cells slots MC MS la X
  obtain ⟨C, G, hS, hW, hI, hls, hst, hL, b1, b2, b3, b4⟩ := X
  refine lv_lstore C.1 C.2.1 hdg hL.has (by omega) rfl (fun la2 hla2 => ?_)
  exact k z p l e R s m args below meth c H locs cells slots MC MS la2 ⟨C, G, hS, hW, hI, am_oks_set (am_oks_set hls (am_oksh hst)) (am_ok9 0), am_okst hst, am_L.store2 G.2.1 hl h2 hla2, b1, b2, b3, b4⟩
theorem aw_astore_n {M : AMM} {d mc ms : Nat} {K : AO → Nat → AH → Prop} {n pc : Nat} {ls st : List AV} {h : AH} {x : Int} {kf : Fin 4} (h0 : 0 ≤ x) (hx : x < 1000) (hdg : decode M.2.1 pc = .ok (.astore_n kf, 1)) (hl : ls.length = M.2.2.1) (hi : (kf : Nat) < M.2.2.1) (h2 : am_n2at ls (kf : Nat) = true) (k : AW M d mc ms K n (pc + 1) (ls.set (kf : Nat) (2, x)) st h) : AW M d mc ms K n pc ls ((2, x) :: st) h := by
  intro z p l e R s m args below meth c H locs cells slots MC MS la X
  obtain ⟨C, G, hS, hW, hI, hls, hst, hL, b1, b2, b3, b4⟩ := X
  have hst1 := hst
  have hre : av z (2, x) = .ref (z.2.2.1 + x.toNat) := av_ref z h0 hx
  have hgo : ∀ la2 : Array Slot, lv_has la2 M.2.2.1 (((kf : Nat), av z (2, x)) :: (am_lv z ls).filter (fun q => !(q.1 == (kf : Nat)) && !(q.1 + 1 == (kf : Nat) && q.2.category == 2))) → W p l e R s m args below meth c H locs cells slots (vx_MQ below (am_Q z K) (am_X z K) args s MC MS (am_A z)) (F0 m (pc + 1) la2 (st.map (av z))) := fun la2 hla2 => k z p l e R s m args below meth c H locs cells slots MC MS la2 ⟨C, G, hS, hW, hI, am_oks_set hls (am_oksh hst), am_okst hst, am_L.store1 G.2.1 hl h2 hla2, b1, b2, b3, b4⟩
  show W _ _ _ _ _ _ _ _ _ _ _ _ _ _ _ (F0 _ _ _ (av z (2, x) :: st.map (av z)))
  rw [hre] at hgo ⊢
  exact lv_astore_n C.1 C.2.1 hdg rfl hL.has (by omega) rfl hgo
theorem aw_astore {M : AMM} {d mc ms : Nat} {K : AO → Nat → AH → Prop} {n pc : Nat} {ls st : List AV} {h : AH} {x : Int} {i : Nat} (h0 : 0 ≤ x) (hx : x < 1000) (hdg : decode M.2.1 pc = .ok (.astore i, 2)) (hl : ls.length = M.2.2.1) (hi : i < M.2.2.1) (h2 : am_n2at ls i = true) (k : AW M d mc ms K n (pc + 2) (ls.set i (2, x)) st h) : AW M d mc ms K n pc ls ((2, x) :: st) h := by
  intro z p l e R s m args below meth c H locs cells slots MC MS la X
  obtain ⟨C, G, hS, hW, hI, hls, hst, hL, b1, b2, b3, b4⟩ := X
  have hst1 := hst
  have hre : av z (2, x) = .ref (z.2.2.1 + x.toNat) := av_ref z h0 hx
  have hgo : ∀ la2 : Array Slot, lv_has la2 M.2.2.1 ((i, av z (2, x)) :: (am_lv z ls).filter (fun q => !(q.1 == i) && !(q.1 + 1 == i && q.2.category == 2))) → W p l e R s m args below meth c H locs cells slots (vx_MQ below (am_Q z K) (am_X z K) args s MC MS (am_A z)) (F0 m (pc + 2) la2 (st.map (av z))) := fun la2 hla2 => k z p l e R s m args below meth c H locs cells slots MC MS la2 ⟨C, G, hS, hW, hI, am_oks_set hls (am_oksh hst), am_okst hst, am_L.store1 G.2.1 hl h2 hla2, b1, b2, b3, b4⟩
  show W _ _ _ _ _ _ _ _ _ _ _ _ _ _ _ (F0 _ _ _ (av z (2, x) :: st.map (av z)))
  rw [hre] at hgo ⊢
  exact lv_astore C.1 C.2.1 hdg hL.has (by omega) rfl hgo
theorem aw_iinc {M : AMM} {d mc ms : Nat} {K : AO → Nat → AH → Prop} {n pc : Nat} {ls st : List AV} {h : AH} {x a : Int} {i : Nat} (hdg : decode M.2.1 pc = .ok (.iinc i a, 3)) (hl : ls.length = M.2.2.1) (hi : i < M.2.2.1) (h2 : am_n2at ls i = true) (hv : ls[i]? = some (0, x)) (k : AW M d mc ms K n (pc + 3) (ls.set i (0, wr (x + a))) st h) : AW M d mc ms K n pc ls st h := by
  intro z p l e R s m args below meth c H locs cells slots MC MS la X
  obtain ⟨C, G, hS, hW, hI, hls, hst, hL, b1, b2, b3, b4⟩ := X
  have hm : ((i, .int (Int32.ofInt x)) : Nat × Value) ∈ am_lv z ls := am_lv_mem.mpr ⟨(0, x), hv, (by decide : ¬ (0 : Nat) = 9), rfl⟩
  obtain ⟨j, hj⟩ := List.getElem?_of_mem hm
  refine lv_iinc (v := Int32.ofInt (wr (x + a))) C.1 C.2.1 hdg hL.has hj (by rw [ofInt_wr, Int32.ofInt_add]) (by omega) rfl (fun la2 hla2 => ?_)
  exact k z p l e R s m args below meth c H locs cells slots MC MS la2 ⟨C, G, hS, hW, hI, am_oks_set hls (am_okw _), hst, am_L.store1 (v := (0, wr (x + a))) G.2.1 hl h2 hla2, b1, b2, b3, b4⟩
theorem aw_iconst {M : AMM} {d mc ms : Nat} {K : AO → Nat → AH → Prop} {n pc : Nat} {ls st : List AV} {h : AH} {x : Int} (hdg : decode M.2.1 pc = .ok (.iconst x, 1)) (hr : -2147483648 ≤ x ∧ x < 2147483648) (k : AW M d mc ms K n (pc + 1) ls ((0, x) :: st) h) : AW M d mc ms K n pc ls st h := by
  intro z p l e R s m args below meth c H locs cells slots MC MS la X
  obtain ⟨C, G, hS, hW, hI, hls, hst, hL, b1, b2, b3, b4⟩ := X
  refine lv_iconst C.1 C.2.1 hdg rfl ?_
  exact k z p l e R s m args below meth c H locs cells slots MC MS la ⟨C, G, hS, hW, hI, hls, am_oksc (am_ok0 hr.1 hr.2) hst, hL, b1, b2, b3, b4⟩
theorem aw_bipush {M : AMM} {d mc ms : Nat} {K : AO → Nat → AH → Prop} {n pc : Nat} {ls st : List AV} {h : AH} {x : Int} (hdg : decode M.2.1 pc = .ok (.bipush x, 2)) (hr : (Int8.ofInt x).toInt32 = Int32.ofInt x ∧ -2147483648 ≤ x ∧ x < 2147483648) (k : AW M d mc ms K n (pc + 2) ls ((0, x) :: st) h) : AW M d mc ms K n pc ls st h := by
  intro z p l e R s m args below meth c H locs cells slots MC MS la X
  obtain ⟨C, G, hS, hW, hI, hls, hst, hL, b1, b2, b3, b4⟩ := X
  refine lv_bipush C.1 C.2.1 hdg hr.1 ?_
  exact k z p l e R s m args below meth c H locs cells slots MC MS la ⟨C, G, hS, hW, hI, hls, am_oksc (am_ok0 hr.2.1 hr.2.2) hst, hL, b1, b2, b3, b4⟩
theorem aw_sipush {M : AMM} {d mc ms : Nat} {K : AO → Nat → AH → Prop} {n pc : Nat} {ls st : List AV} {h : AH} {x : Int} (hdg : decode M.2.1 pc = .ok (.sipush x, 3)) (hr : (Int16.ofInt x).toInt32 = Int32.ofInt x ∧ -2147483648 ≤ x ∧ x < 2147483648) (k : AW M d mc ms K n (pc + 3) ls ((0, x) :: st) h) : AW M d mc ms K n pc ls st h := by
  intro z p l e R s m args below meth c H locs cells slots MC MS la X
  obtain ⟨C, G, hS, hW, hI, hls, hst, hL, b1, b2, b3, b4⟩ := X
  refine lv_sipush C.1 C.2.1 hdg hr.1 ?_
  exact k z p l e R s m args below meth c H locs cells slots MC MS la ⟨C, G, hS, hW, hI, hls, am_oksc (am_ok0 hr.2.1 hr.2.2) hst, hL, b1, b2, b3, b4⟩
theorem aw_lconst {M : AMM} {d mc ms : Nat} {K : AO → Nat → AH → Prop} {n pc : Nat} {ls st : List AV} {h : AH} {kf : Fin 2} {x : Int} (hdg : decode M.2.1 pc = .ok (.lconst kf, 1)) (hr : Int64.ofNat (kf : Nat) = Int64.ofInt x ∧ 0 ≤ x ∧ x < 2) (k : AW M d mc ms K n (pc + 1) ls ((1, x) :: st) h) : AW M d mc ms K n pc ls st h := by
  intro z p l e R s m args below meth c H locs cells slots MC MS la X
  obtain ⟨C, G, hS, hW, hI, hls, hst, hL, b1, b2, b3, b4⟩ := X
  refine lv_lconst C.1 C.2.1 hdg hr.1 ?_
  exact k z p l e R s m args below meth c H locs cells slots MC MS la ⟨C, G, hS, hW, hI, hls, am_oksc (am_ok1 (by omega) (by omega)) hst, hL, b1, b2, b3, b4⟩
theorem aw_fconst0 {M : AMM} {d mc ms : Nat} {K : AO → Nat → AH → Prop} {n pc : Nat} {ls st : List AV} {h : AH} (hdg : decode M.2.1 pc = .ok (.fconst 0, 1)) (k : AW M d mc ms K n (pc + 1) ls ((3, 0) :: st) h) : AW M d mc ms K n pc ls st h := by
  intro z p l e R s m args below meth c H locs cells slots MC MS la X
  obtain ⟨C, G, hS, hW, hI, hls, hst, hL, b1, b2, b3, b4⟩ := X
  refine lv_fconst0 C.1 C.2.1 hdg ?_
  exact k z p l e R s m args below meth c H locs cells slots MC MS la ⟨C, G, hS, hW, hI, hls, am_oksc (am_ok3 (by decide) (by decide)) hst, hL, b1, b2, b3, b4⟩
theorem aw_ldc {M : AMM} {d mc ms : Nat} {K : AO → Nat → AH → Prop} {n pc : Nat} {ls st : List AV} {h : AH} {x : Int} {ix : Nat} (hdg : decode M.2.1 pc = .ok (.ldc ix, 2)) (hw : Cond.constant M.1.cls ix (Int32.ofInt x) ∈ am_WS) (hr : -2147483648 ≤ x ∧ x < 2147483648) (k : AW M d mc ms K n (pc + 2) ls ((0, x) :: st) h) : AW M d mc ms K n pc ls st h := by
  intro z p l e R s m args below meth c H locs cells slots MC MS la X
  obtain ⟨C, G, hS, hW, hI, hls, hst, hL, b1, b2, b3, b4⟩ := X
  refine lv_ldc C.1 C.2.1 C.2.2.2.1 (C.2.2.2.2.1 _ hw) hdg ?_
  exact k z p l e R s m args below meth c H locs cells slots MC MS la ⟨C, G, hS, hW, hI, hls, am_oksc (am_ok0 hr.1 hr.2) hst, hL, b1, b2, b3, b4⟩
theorem aw_ldc2 {M : AMM} {d mc ms : Nat} {K : AO → Nat → AH → Prop} {n pc : Nat} {ls st : List AV} {h : AH} {x : Int} {ix : Nat} (hdg : decode M.2.1 pc = .ok (.ldc2_w ix, 3)) (hw : Cond.constantLong M.1.cls ix (Int64.ofInt x) ∈ am_WS) (hr : -9223372036854775808 ≤ x ∧ x < 9223372036854775808) (k : AW M d mc ms K n (pc + 3) ls ((1, x) :: st) h) : AW M d mc ms K n pc ls st h := by
  intro z p l e R s m args below meth c H locs cells slots MC MS la X
  obtain ⟨C, G, hS, hW, hI, hls, hst, hL, b1, b2, b3, b4⟩ := X
  refine lv_ldc2 C.1 C.2.1 C.2.2.2.1 (C.2.2.2.2.1 _ hw) hdg ?_
  exact k z p l e R s m args below meth c H locs cells slots MC MS la ⟨C, G, hS, hW, hI, hls, am_oksc (am_ok1 hr.1 hr.2) hst, hL, b1, b2, b3, b4⟩
theorem aw_iadd {M : AMM} {d mc ms : Nat} {K : AO → Nat → AH → Prop} {n pc : Nat} {ls st : List AV} {h : AH} {a b : Int} (hdg : decode M.2.1 pc = .ok (.iadd, 1))  (k : AW M d mc ms K n (pc + 1) ls ((0, wr (a + b)) :: st) h) : AW M d mc ms K n pc ls ((0, b) :: (0, a) :: st) h := by
  intro z p l e R s m args below meth c H locs cells slots MC MS la X
  obtain ⟨C, G, hS, hW, hI, hls, hst, hL, b1, b2, b3, b4⟩ := X
  have ra := (am_oksh (am_okst hst)).1 rfl
  have rb := (am_oksh hst).1 rfl
  dsimp only at ra rb
  have hgo := k z p l e R s m args below meth c H locs cells slots MC MS la ⟨C, G, hS, hW, hI, hls, am_oksc (am_okw _) (am_okst (am_okst hst)), hL, b1, b2, b3, b4⟩
  have ev : av z (0, wr (a + b)) = .int (Int32.ofInt a + Int32.ofInt b) := by show Value.int (Int32.ofInt (wr (a + b))) = _; rw [ofInt_wr, Int32.ofInt_add]
  replace hgo : W p l e R s m args below meth c H locs cells slots (vx_MQ below (am_Q z K) (am_X z K) args s MC MS (am_A z)) (F0 m (pc + 1) la (av z (0, wr (a + b)) :: st.map (av z))) := hgo
  rw [ev] at hgo
  exact lv_iadd C.1 C.2.1 hdg hgo
theorem aw_isub {M : AMM} {d mc ms : Nat} {K : AO → Nat → AH → Prop} {n pc : Nat} {ls st : List AV} {h : AH} {a b : Int} (hdg : decode M.2.1 pc = .ok (.isub, 1))  (k : AW M d mc ms K n (pc + 1) ls ((0, wr (a - b)) :: st) h) : AW M d mc ms K n pc ls ((0, b) :: (0, a) :: st) h := by
  intro z p l e R s m args below meth c H locs cells slots MC MS la X
  obtain ⟨C, G, hS, hW, hI, hls, hst, hL, b1, b2, b3, b4⟩ := X
  have ra := (am_oksh (am_okst hst)).1 rfl
  have rb := (am_oksh hst).1 rfl
  dsimp only at ra rb
  have hgo := k z p l e R s m args below meth c H locs cells slots MC MS la ⟨C, G, hS, hW, hI, hls, am_oksc (am_okw _) (am_okst (am_okst hst)), hL, b1, b2, b3, b4⟩
  have ev : av z (0, wr (a - b)) = .int (Int32.ofInt a - Int32.ofInt b) := by show Value.int (Int32.ofInt (wr (a - b))) = _; rw [ofInt_wr, Int32.ofInt_sub]
  replace hgo : W p l e R s m args below meth c H locs cells slots (vx_MQ below (am_Q z K) (am_X z K) args s MC MS (am_A z)) (F0 m (pc + 1) la (av z (0, wr (a - b)) :: st.map (av z))) := hgo
  rw [ev] at hgo
  exact lv_isub C.1 C.2.1 hdg hgo
theorem aw_imul {M : AMM} {d mc ms : Nat} {K : AO → Nat → AH → Prop} {n pc : Nat} {ls st : List AV} {h : AH} {a b : Int} (hdg : decode M.2.1 pc = .ok (.imul, 1))  (k : AW M d mc ms K n (pc + 1) ls ((0, wr (a * b)) :: st) h) : AW M d mc ms K n pc ls ((0, b) :: (0, a) :: st) h := by
  intro z p l e R s m args below meth c H locs cells slots MC MS la X
  obtain ⟨C, G, hS, hW, hI, hls, hst, hL, b1, b2, b3, b4⟩ := X
  have ra := (am_oksh (am_okst hst)).1 rfl
  have rb := (am_oksh hst).1 rfl
  dsimp only at ra rb
  have hgo := k z p l e R s m args below meth c H locs cells slots MC MS la ⟨C, G, hS, hW, hI, hls, am_oksc (am_okw _) (am_okst (am_okst hst)), hL, b1, b2, b3, b4⟩
  have ev : av z (0, wr (a * b)) = .int (Int32.ofInt a * Int32.ofInt b) := by show Value.int (Int32.ofInt (wr (a * b))) = _; rw [ofInt_wr, Int32.ofInt_mul]
  replace hgo : W p l e R s m args below meth c H locs cells slots (vx_MQ below (am_Q z K) (am_X z K) args s MC MS (am_A z)) (F0 m (pc + 1) la (av z (0, wr (a * b)) :: st.map (av z))) := hgo
  rw [ev] at hgo
  exact lv_imul C.1 C.2.1 hdg hgo
theorem aw_ladd {M : AMM} {d mc ms : Nat} {K : AO → Nat → AH → Prop} {n pc : Nat} {ls st : List AV} {h : AH} {a b : Int} (hdg : decode M.2.1 pc = .ok (.ladd, 1))  (k : AW M d mc ms K n (pc + 1) ls ((1, wrl (a + b)) :: st) h) : AW M d mc ms K n pc ls ((1, b) :: (1, a) :: st) h := by
  intro z p l e R s m args below meth c H locs cells slots MC MS la X
  obtain ⟨C, G, hS, hW, hI, hls, hst, hL, b1, b2, b3, b4⟩ := X
  have ra := (am_oksh (am_okst hst)).2.1 rfl
  have rb := (am_oksh hst).2.1 rfl
  dsimp only at ra rb
  have hgo := k z p l e R s m args below meth c H locs cells slots MC MS la ⟨C, G, hS, hW, hI, hls, am_oksc (am_okwl _) (am_okst (am_okst hst)), hL, b1, b2, b3, b4⟩
  have ev : av z (1, wrl (a + b)) = .long (Int64.ofInt a + Int64.ofInt b) := by show Value.long (Int64.ofInt (wrl (a + b))) = _; rw [ofInt_wrl, Int64.ofInt_add]
  replace hgo : W p l e R s m args below meth c H locs cells slots (vx_MQ below (am_Q z K) (am_X z K) args s MC MS (am_A z)) (F0 m (pc + 1) la (av z (1, wrl (a + b)) :: st.map (av z))) := hgo
  rw [ev] at hgo
  exact lv_ladd C.1 C.2.1 hdg hgo
theorem aw_lsub {M : AMM} {d mc ms : Nat} {K : AO → Nat → AH → Prop} {n pc : Nat} {ls st : List AV} {h : AH} {a b : Int} (hdg : decode M.2.1 pc = .ok (.lsub, 1))  (k : AW M d mc ms K n (pc + 1) ls ((1, wrl (a - b)) :: st) h) : AW M d mc ms K n pc ls ((1, b) :: (1, a) :: st) h := by
  intro z p l e R s m args below meth c H locs cells slots MC MS la X
  obtain ⟨C, G, hS, hW, hI, hls, hst, hL, b1, b2, b3, b4⟩ := X
  have ra := (am_oksh (am_okst hst)).2.1 rfl
  have rb := (am_oksh hst).2.1 rfl
  dsimp only at ra rb
  have hgo := k z p l e R s m args below meth c H locs cells slots MC MS la ⟨C, G, hS, hW, hI, hls, am_oksc (am_okwl _) (am_okst (am_okst hst)), hL, b1, b2, b3, b4⟩
  have ev : av z (1, wrl (a - b)) = .long (Int64.ofInt a - Int64.ofInt b) := by show Value.long (Int64.ofInt (wrl (a - b))) = _; rw [ofInt_wrl, Int64.ofInt_sub]
  replace hgo : W p l e R s m args below meth c H locs cells slots (vx_MQ below (am_Q z K) (am_X z K) args s MC MS (am_A z)) (F0 m (pc + 1) la (av z (1, wrl (a - b)) :: st.map (av z))) := hgo
  rw [ev] at hgo
  exact lv_lsub C.1 C.2.1 hdg hgo
theorem aw_lmul {M : AMM} {d mc ms : Nat} {K : AO → Nat → AH → Prop} {n pc : Nat} {ls st : List AV} {h : AH} {a b : Int} (hdg : decode M.2.1 pc = .ok (.lmul, 1))  (k : AW M d mc ms K n (pc + 1) ls ((1, wrl (a * b)) :: st) h) : AW M d mc ms K n pc ls ((1, b) :: (1, a) :: st) h := by
  intro z p l e R s m args below meth c H locs cells slots MC MS la X
  obtain ⟨C, G, hS, hW, hI, hls, hst, hL, b1, b2, b3, b4⟩ := X
  have ra := (am_oksh (am_okst hst)).2.1 rfl
  have rb := (am_oksh hst).2.1 rfl
  dsimp only at ra rb
  have hgo := k z p l e R s m args below meth c H locs cells slots MC MS la ⟨C, G, hS, hW, hI, hls, am_oksc (am_okwl _) (am_okst (am_okst hst)), hL, b1, b2, b3, b4⟩
  have ev : av z (1, wrl (a * b)) = .long (Int64.ofInt a * Int64.ofInt b) := by show Value.long (Int64.ofInt (wrl (a * b))) = _; rw [ofInt_wrl, Int64.ofInt_mul]
  replace hgo : W p l e R s m args below meth c H locs cells slots (vx_MQ below (am_Q z K) (am_X z K) args s MC MS (am_A z)) (F0 m (pc + 1) la (av z (1, wrl (a * b)) :: st.map (av z))) := hgo
  rw [ev] at hgo
  exact lv_lmul C.1 C.2.1 hdg hgo
theorem am_tI (x : Int32) : -2147483648 ≤ x.toInt ∧ x.toInt < 2147483648 := by
  have h1 := Int32.le_toInt x
  have h2 := Int32.toInt_lt x
  omega
def i_and (a b : Int) : Int := (Int32.ofInt a &&& Int32.ofInt b).toInt
def i_or (a b : Int) : Int := (Int32.ofInt a ||| Int32.ofInt b).toInt
def i_xor (a b : Int) : Int := (Int32.ofInt a ^^^ Int32.ofInt b).toInt
def i_shl (a b : Int) : Int := (Int32.ofInt a <<< (Int32.ofInt b &&& 31)).toInt
def i_shr (a b : Int) : Int := (Int32.ofInt a >>> (Int32.ofInt b &&& 31)).toInt
def i_ushr (a b : Int) : Int := ((Int32.ofInt a).toUInt32 >>> ((Int32.ofInt b).toUInt32 &&& Int32.toUInt32 31)).toInt32.toInt
theorem aw_iand {M : AMM} {d mc ms : Nat} {K : AO → Nat → AH → Prop} {n pc : Nat} {ls st : List AV} {h : AH} {a b : Int} (hdg : decode M.2.1 pc = .ok (.iand, 1))  (k : AW M d mc ms K n (pc + 1) ls ((0, i_and a b) :: st) h) : AW M d mc ms K n pc ls ((0, b) :: (0, a) :: st) h := by
  intro z p l e R s m args below meth c H locs cells slots MC MS la X
  obtain ⟨C, G, hS, hW, hI, hls, hst, hL, b1, b2, b3, b4⟩ := X
  have ra := (am_oksh (am_okst hst)).1 rfl
  have rb := (am_oksh hst).1 rfl
  dsimp only at ra rb
  have hgo := k z p l e R s m args below meth c H locs cells slots MC MS la ⟨C, G, hS, hW, hI, hls, am_oksc (am_ok0 (am_tI _).1 (am_tI _).2) (am_okst (am_okst hst)), hL, b1, b2, b3, b4⟩
  have ev : av z (0, i_and a b) = .int (Int32.ofInt a &&& Int32.ofInt b) := by show Value.int (Int32.ofInt (i_and a b)) = _; unfold i_and; rw [Int32.ofInt_toInt]
  replace hgo : W p l e R s m args below meth c H locs cells slots (vx_MQ below (am_Q z K) (am_X z K) args s MC MS (am_A z)) (F0 m (pc + 1) la (av z (0, i_and a b) :: st.map (av z))) := hgo
  rw [ev] at hgo
  exact lv_iand C.1 C.2.1 hdg hgo
theorem aw_ior {M : AMM} {d mc ms : Nat} {K : AO → Nat → AH → Prop} {n pc : Nat} {ls st : List AV} {h : AH} {a b : Int} (hdg : decode M.2.1 pc = .ok (.ior, 1))  (k : AW M d mc ms K n (pc + 1) ls ((0, i_or a b) :: st) h) : AW M d mc ms K n pc ls ((0, b) :: (0, a) :: st) h := by
  intro z p l e R s m args below meth c H locs cells slots MC MS la X
  obtain ⟨C, G, hS, hW, hI, hls, hst, hL, b1, b2, b3, b4⟩ := X
  have ra := (am_oksh (am_okst hst)).1 rfl
  have rb := (am_oksh hst).1 rfl
  dsimp only at ra rb
  have hgo := k z p l e R s m args below meth c H locs cells slots MC MS la ⟨C, G, hS, hW, hI, hls, am_oksc (am_ok0 (am_tI _).1 (am_tI _).2) (am_okst (am_okst hst)), hL, b1, b2, b3, b4⟩
  have ev : av z (0, i_or a b) = .int (Int32.ofInt a ||| Int32.ofInt b) := by show Value.int (Int32.ofInt (i_or a b)) = _; unfold i_or; rw [Int32.ofInt_toInt]
  replace hgo : W p l e R s m args below meth c H locs cells slots (vx_MQ below (am_Q z K) (am_X z K) args s MC MS (am_A z)) (F0 m (pc + 1) la (av z (0, i_or a b) :: st.map (av z))) := hgo
  rw [ev] at hgo
  exact lv_ior C.1 C.2.1 hdg hgo
theorem aw_ixor {M : AMM} {d mc ms : Nat} {K : AO → Nat → AH → Prop} {n pc : Nat} {ls st : List AV} {h : AH} {a b : Int} (hdg : decode M.2.1 pc = .ok (.ixor, 1))  (k : AW M d mc ms K n (pc + 1) ls ((0, i_xor a b) :: st) h) : AW M d mc ms K n pc ls ((0, b) :: (0, a) :: st) h := by
  intro z p l e R s m args below meth c H locs cells slots MC MS la X
  obtain ⟨C, G, hS, hW, hI, hls, hst, hL, b1, b2, b3, b4⟩ := X
  have ra := (am_oksh (am_okst hst)).1 rfl
  have rb := (am_oksh hst).1 rfl
  dsimp only at ra rb
  have hgo := k z p l e R s m args below meth c H locs cells slots MC MS la ⟨C, G, hS, hW, hI, hls, am_oksc (am_ok0 (am_tI _).1 (am_tI _).2) (am_okst (am_okst hst)), hL, b1, b2, b3, b4⟩
  have ev : av z (0, i_xor a b) = .int (Int32.ofInt a ^^^ Int32.ofInt b) := by show Value.int (Int32.ofInt (i_xor a b)) = _; unfold i_xor; rw [Int32.ofInt_toInt]
  replace hgo : W p l e R s m args below meth c H locs cells slots (vx_MQ below (am_Q z K) (am_X z K) args s MC MS (am_A z)) (F0 m (pc + 1) la (av z (0, i_xor a b) :: st.map (av z))) := hgo
  rw [ev] at hgo
  exact lv_ixor C.1 C.2.1 hdg hgo
theorem aw_ishl {M : AMM} {d mc ms : Nat} {K : AO → Nat → AH → Prop} {n pc : Nat} {ls st : List AV} {h : AH} {a b : Int} (hdg : decode M.2.1 pc = .ok (.ishl, 1))  (k : AW M d mc ms K n (pc + 1) ls ((0, i_shl a b) :: st) h) : AW M d mc ms K n pc ls ((0, b) :: (0, a) :: st) h := by
  intro z p l e R s m args below meth c H locs cells slots MC MS la X
  obtain ⟨C, G, hS, hW, hI, hls, hst, hL, b1, b2, b3, b4⟩ := X
  have ra := (am_oksh (am_okst hst)).1 rfl
  have rb := (am_oksh hst).1 rfl
  dsimp only at ra rb
  have hgo := k z p l e R s m args below meth c H locs cells slots MC MS la ⟨C, G, hS, hW, hI, hls, am_oksc (am_ok0 (am_tI _).1 (am_tI _).2) (am_okst (am_okst hst)), hL, b1, b2, b3, b4⟩
  have ev : av z (0, i_shl a b) = .int (Int32.ofInt a <<< (Int32.ofInt b &&& 31)) := by show Value.int (Int32.ofInt (i_shl a b)) = _; unfold i_shl; rw [Int32.ofInt_toInt]
  replace hgo : W p l e R s m args below meth c H locs cells slots (vx_MQ below (am_Q z K) (am_X z K) args s MC MS (am_A z)) (F0 m (pc + 1) la (av z (0, i_shl a b) :: st.map (av z))) := hgo
  rw [ev] at hgo
  exact lv_ishl C.1 C.2.1 hdg hgo
theorem aw_ishr {M : AMM} {d mc ms : Nat} {K : AO → Nat → AH → Prop} {n pc : Nat} {ls st : List AV} {h : AH} {a b : Int} (hdg : decode M.2.1 pc = .ok (.ishr, 1))  (k : AW M d mc ms K n (pc + 1) ls ((0, i_shr a b) :: st) h) : AW M d mc ms K n pc ls ((0, b) :: (0, a) :: st) h := by
  intro z p l e R s m args below meth c H locs cells slots MC MS la X
  obtain ⟨C, G, hS, hW, hI, hls, hst, hL, b1, b2, b3, b4⟩ := X
  have ra := (am_oksh (am_okst hst)).1 rfl
  have rb := (am_oksh hst).1 rfl
  dsimp only at ra rb
  have hgo := k z p l e R s m args below meth c H locs cells slots MC MS la ⟨C, G, hS, hW, hI, hls, am_oksc (am_ok0 (am_tI _).1 (am_tI _).2) (am_okst (am_okst hst)), hL, b1, b2, b3, b4⟩
  have ev : av z (0, i_shr a b) = .int (Int32.ofInt a >>> (Int32.ofInt b &&& 31)) := by show Value.int (Int32.ofInt (i_shr a b)) = _; unfold i_shr; rw [Int32.ofInt_toInt]
  replace hgo : W p l e R s m args below meth c H locs cells slots (vx_MQ below (am_Q z K) (am_X z K) args s MC MS (am_A z)) (F0 m (pc + 1) la (av z (0, i_shr a b) :: st.map (av z))) := hgo
  rw [ev] at hgo
  exact lv_ishr C.1 C.2.1 hdg hgo
theorem aw_iushr {M : AMM} {d mc ms : Nat} {K : AO → Nat → AH → Prop} {n pc : Nat} {ls st : List AV} {h : AH} {a b : Int} (hdg : decode M.2.1 pc = .ok (.iushr, 1))  (k : AW M d mc ms K n (pc + 1) ls ((0, i_ushr a b) :: st) h) : AW M d mc ms K n pc ls ((0, b) :: (0, a) :: st) h := by
  intro z p l e R s m args below meth c H locs cells slots MC MS la X
  obtain ⟨C, G, hS, hW, hI, hls, hst, hL, b1, b2, b3, b4⟩ := X
  have ra := (am_oksh (am_okst hst)).1 rfl
  have rb := (am_oksh hst).1 rfl
  dsimp only at ra rb
  have hgo := k z p l e R s m args below meth c H locs cells slots MC MS la ⟨C, G, hS, hW, hI, hls, am_oksc (am_ok0 (am_tI _).1 (am_tI _).2) (am_okst (am_okst hst)), hL, b1, b2, b3, b4⟩
  have ev : av z (0, i_ushr a b) = .int (((Int32.ofInt a).toUInt32 >>> ((Int32.ofInt b).toUInt32 &&& Int32.toUInt32 31)).toInt32) := by show Value.int (Int32.ofInt (i_ushr a b)) = _; unfold i_ushr; rw [Int32.ofInt_toInt]
  replace hgo : W p l e R s m args below meth c H locs cells slots (vx_MQ below (am_Q z K) (am_X z K) args s MC MS (am_A z)) (F0 m (pc + 1) la (av z (0, i_ushr a b) :: st.map (av z))) := hgo
  rw [ev] at hgo
  exact lv_iushr C.1 C.2.1 hdg rfl hgo
theorem am_ne0 {b : Int} (h1 : 0 < b) (h2 : b < 2147483648) : ¬ Int32.ofInt b = 0 := by
  intro h
  have e := congrArg Int32.toInt h
  rw [am_toI (by omega) h2] at e
  have : (0 : Int32).toInt = 0 := rfl
  omega
theorem am_div {a b : Int} (h1 : -2147483648 ≤ a) (h2 : a < 2147483648) (h3 : 0 < b) (h4 : b < 2147483648) : Int32.ofInt a / Int32.ofInt b = Int32.ofInt (a.tdiv b) := by
  apply Int32.toInt_inj.1
  rw [Int32.toInt_div_of_ne_right, am_toI h1 h2, am_toI (by omega) h4]
  · have : (a.tdiv b).natAbs ≤ a.natAbs := by rw [Int.natAbs_tdiv]; exact Nat.div_le_self _ _
    have hp : a.tdiv b ≤ a ∨ a < 0 := by
      by_cases h : a < 0
      · exact Or.inr h
      · exact Or.inl (Int.le_trans (Int.tdiv_le_self _ (by omega)) (Int.le_refl _))
    have hq : 0 ≤ a → 0 ≤ a.tdiv b := fun h => Int.tdiv_nonneg h (by omega)
    have hr : a < 0 → a.tdiv b ≤ 0 := fun h => by
      have := Int.tdiv_nonneg (a := -a) (b := b) (by omega) (by omega)
      rw [Int.neg_tdiv] at this
      omega
    rw [am_toI (by omega) (by omega)]
  · intro h
    have e := congrArg Int32.toInt h
    rw [am_toI (by omega) h4] at e
    have : (-1 : Int32).toInt = -1 := rfl
    omega
theorem am_mod {a b : Int} (h1 : -2147483648 ≤ a) (h2 : a < 2147483648) (h3 : 0 < b) (h4 : b < 2147483648) : Int32.ofInt a - Int32.ofInt a / Int32.ofInt b * Int32.ofInt b = Int32.ofInt (a.tmod b) := by
  rw [am_div h1 h2 h3 h4, ← Int32.ofInt_mul, ← Int32.ofInt_sub, Int.tmod_def, Int.mul_comm b]
theorem am_divr {a b : Int} (h1 : -2147483648 ≤ a) (h2 : a < 2147483648) (h3 : 0 < b) : -2147483648 ≤ a.tdiv b ∧ a.tdiv b < 2147483648 := by
  have : (a.tdiv b).natAbs ≤ a.natAbs := by rw [Int.natAbs_tdiv]; exact Nat.div_le_self _ _
  have hr : 0 ≤ a → a.tdiv b ≤ a := fun h => Int.tdiv_le_self _ h
  have hq : 0 ≤ a → 0 ≤ a.tdiv b := fun h => Int.tdiv_nonneg h (by omega)
  have hs : a < 0 → a.tdiv b ≤ 0 := fun h => by
    have := Int.tdiv_nonneg (a := -a) (b := b) (by omega) (by omega)
    rw [Int.neg_tdiv] at this
    omega
  omega
theorem am_modr {a b : Int} (h3 : 0 < b) (h4 : b < 2147483648) : -2147483648 ≤ a.tmod b ∧ a.tmod b < 2147483648 := by
  have hp := Int.tmod_lt_of_pos a h3
  have hn := Int.lt_tmod_of_pos a h3
  omega
theorem aw_idiv {M : AMM} {d mc ms : Nat} {K : AO → Nat → AH → Prop} {n pc : Nat} {ls st : List AV} {h : AH} {a b : Int} (hdg : decode M.2.1 pc = .ok (.idiv, 1)) (hb0 : 0 < b) (k : AW M d mc ms K n (pc + 1) ls ((0, a.tdiv b) :: st) h) : AW M d mc ms K n pc ls ((0, b) :: (0, a) :: st) h := by
  intro z p l e R s m args below meth c H locs cells slots MC MS la X
  obtain ⟨C, G, hS, hW, hI, hls, hst, hL, b1, b2, b3, b4⟩ := X
  have ra := (am_oksh (am_okst hst)).1 rfl
  have rb := (am_oksh hst).1 rfl
  dsimp only at ra rb
  have hgo := k z p l e R s m args below meth c H locs cells slots MC MS la ⟨C, G, hS, hW, hI, hls, am_oksc (am_ok0 (am_divr ra.1 ra.2 hb0).1 (am_divr ra.1 ra.2 hb0).2) (am_okst (am_okst hst)), hL, b1, b2, b3, b4⟩
  have ev : av z (0, a.tdiv b) = .int (Int32.ofInt a / Int32.ofInt b) := by show Value.int (Int32.ofInt (a.tdiv b)) = _; rw [am_div ra.1 ra.2 hb0 rb.2]
  replace hgo : W p l e R s m args below meth c H locs cells slots (vx_MQ below (am_Q z K) (am_X z K) args s MC MS (am_A z)) (F0 m (pc + 1) la (av z (0, a.tdiv b) :: st.map (av z))) := hgo
  rw [ev] at hgo
  exact lv_idiv C.1 C.2.1 hdg (am_ne0 hb0 rb.2) hgo
theorem aw_irem {M : AMM} {d mc ms : Nat} {K : AO → Nat → AH → Prop} {n pc : Nat} {ls st : List AV} {h : AH} {a b : Int} (hdg : decode M.2.1 pc = .ok (.irem, 1)) (hb0 : 0 < b) (k : AW M d mc ms K n (pc + 1) ls ((0, a.tmod b) :: st) h) : AW M d mc ms K n pc ls ((0, b) :: (0, a) :: st) h := by
  intro z p l e R s m args below meth c H locs cells slots MC MS la X
  obtain ⟨C, G, hS, hW, hI, hls, hst, hL, b1, b2, b3, b4⟩ := X
  have ra := (am_oksh (am_okst hst)).1 rfl
  have rb := (am_oksh hst).1 rfl
  dsimp only at ra rb
  have hgo := k z p l e R s m args below meth c H locs cells slots MC MS la ⟨C, G, hS, hW, hI, hls, am_oksc (am_ok0 (am_modr hb0 rb.2).1 (am_modr hb0 rb.2).2) (am_okst (am_okst hst)), hL, b1, b2, b3, b4⟩
  have ev : av z (0, a.tmod b) = .int (Int32.ofInt a - Int32.ofInt a / Int32.ofInt b * Int32.ofInt b) := by show Value.int (Int32.ofInt (a.tmod b)) = _; rw [am_mod ra.1 ra.2 hb0 rb.2]
  replace hgo : W p l e R s m args below meth c H locs cells slots (vx_MQ below (am_Q z K) (am_X z K) args s MC MS (am_A z)) (F0 m (pc + 1) la (av z (0, a.tmod b) :: st.map (av z))) := hgo
  rw [ev] at hgo
  exact lv_irem C.1 C.2.1 hdg (am_ne0 hb0 rb.2) hgo
theorem aw_ineg {M : AMM} {d mc ms : Nat} {K : AO → Nat → AH → Prop} {n pc : Nat} {ls st : List AV} {h : AH} {a : Int} (hdg : decode M.2.1 pc = .ok (.ineg, 1)) (k : AW M d mc ms K n (pc + 1) ls ((0, wr (-a)) :: st) h) : AW M d mc ms K n pc ls ((0, a) :: st) h := by
  intro z p l e R s m args below meth c H locs cells slots MC MS la X
  obtain ⟨C, G, hS, hW, hI, hls, hst, hL, b1, b2, b3, b4⟩ := X
  have hgo : W p l e R s m args below meth c H locs cells slots (vx_MQ below (am_Q z K) (am_X z K) args s MC MS (am_A z)) (F0 m (pc + 1) la (.int (Int32.ofInt (wr (-a))) :: st.map (av z))) := k z p l e R s m args below meth c H locs cells slots MC MS la ⟨C, G, hS, hW, hI, hls, am_oksc (am_okw _) (am_okst hst), hL, b1, b2, b3, b4⟩
  rw [ofInt_wr, Int32.ofInt_neg] at hgo
  exact lv_ineg C.1 C.2.1 hdg hgo
theorem am_i2l {a : Int} (h1 : -2147483648 ≤ a) (h2 : a < 2147483648) : (Int32.ofInt a).toInt64 = Int64.ofInt a := by
  apply Int64.toInt_inj.1
  rw [Int32.toInt_toInt64, am_toI h1 h2, am_toL (by omega) (by omega)]
theorem aw_i2l {M : AMM} {d mc ms : Nat} {K : AO → Nat → AH → Prop} {n pc : Nat} {ls st : List AV} {h : AH} {a : Int} (hdg : decode M.2.1 pc = .ok (.i2l, 1)) (k : AW M d mc ms K n (pc + 1) ls ((1, a) :: st) h) : AW M d mc ms K n pc ls ((0, a) :: st) h := by
  intro z p l e R s m args below meth c H locs cells slots MC MS la X
  obtain ⟨C, G, hS, hW, hI, hls, hst, hL, b1, b2, b3, b4⟩ := X
  have ra := (am_oksh hst).1 rfl
  dsimp only at ra
  exact lv_i2l C.1 C.2.1 hdg (am_i2l ra.1 ra.2) (k z p l e R s m args below meth c H locs cells slots MC MS la ⟨C, G, hS, hW, hI, hls, am_oksc (am_ok1 (by omega) (by omega)) (am_okst hst), hL, b1, b2, b3, b4⟩)
theorem am_l2i (a : Int) : (Int64.ofInt a).toInt32 = Int32.ofInt (wr a) := by
  rw [ofInt_wr]
  apply Int32.toInt_inj.1
  rw [Int64.toInt_toInt32, Int64.toInt_ofInt, Int32.toInt_ofInt]
  show (a.bmod 18446744073709551616).bmod 4294967296 = a.bmod 4294967296
  unfold Int.bmod
  dsimp only
  split <;> split <;> split <;> omega
theorem aw_l2i {M : AMM} {d mc ms : Nat} {K : AO → Nat → AH → Prop} {n pc : Nat} {ls st : List AV} {h : AH} {a : Int} (hdg : decode M.2.1 pc = .ok (.l2i, 1)) (k : AW M d mc ms K n (pc + 1) ls ((0, wr a) :: st) h) : AW M d mc ms K n pc ls ((1, a) :: st) h := by
  intro z p l e R s m args below meth c H locs cells slots MC MS la X
  obtain ⟨C, G, hS, hW, hI, hls, hst, hL, b1, b2, b3, b4⟩ := X
  exact lv_l2i C.1 C.2.1 hdg (am_l2i a) (k z p l e R s m args below meth c H locs cells slots MC MS la ⟨C, G, hS, hW, hI, hls, am_oksc (am_okw _) (am_okst hst), hL, b1, b2, b3, b4⟩)
def l_shr (a b : Int) : Int := (Int64.ofInt a >>> ((Int32.ofInt b).toInt64 &&& 63)).toInt
theorem am_tL (x : Int64) : -9223372036854775808 ≤ x.toInt ∧ x.toInt < 9223372036854775808 := by
  have h1 := Int64.le_toInt x
  have h2 := Int64.toInt_lt x
  omega
theorem aw_lshr {M : AMM} {d mc ms : Nat} {K : AO → Nat → AH → Prop} {n pc : Nat} {ls st : List AV} {h : AH} {a b : Int} (hdg : decode M.2.1 pc = .ok (.lshr, 1)) (k : AW M d mc ms K n (pc + 1) ls ((1, l_shr a b) :: st) h) : AW M d mc ms K n pc ls ((0, b) :: (1, a) :: st) h := by
  intro z p l e R s m args below meth c H locs cells slots MC MS la X
  obtain ⟨C, G, hS, hW, hI, hls, hst, hL, b1, b2, b3, b4⟩ := X
  exact lv_lshr C.1 C.2.1 hdg (by unfold l_shr; rw [Int64.ofInt_toInt]) (k z p l e R s m args below meth c H locs cells slots MC MS la ⟨C, G, hS, hW, hI, hls, am_oksc (am_ok1 (am_tL _).1 (am_tL _).2) (am_okst (am_okst hst)), hL, b1, b2, b3, b4⟩)
theorem am_lcmp {a b : Int} (h1 : -9223372036854775808 ≤ a ∧ a < 9223372036854775808) (h2 : -9223372036854775808 ≤ b ∧ b < 9223372036854775808) : lg_cmp (Int64.ofInt a) (Int64.ofInt b) = Int32.ofInt (if a < b then -1 else if a = b then 0 else 1) := by
  have e1 := am_toL h1.1 h1.2
  have e2 := am_toL h2.1 h2.2
  have hlt : Int64.ofInt a < Int64.ofInt b ↔ a < b := by rw [Int64.lt_iff_toInt_lt, e1, e2]
  have heq : Int64.ofInt a = Int64.ofInt b ↔ a = b := by
    rw [← Int64.toInt_inj, e1, e2]
  unfold lg_cmp
  split <;> rename_i q <;> simp only [hlt, heq, gt_iff_lt, Int64.lt_iff_toInt_lt, e1, e2] at * <;> (repeat' split) <;> first | rfl | omega
theorem aw_lcmp {M : AMM} {d mc ms : Nat} {K : AO → Nat → AH → Prop} {n pc : Nat} {ls st : List AV} {h : AH} {a b : Int} (hdg : decode M.2.1 pc = .ok (.lcmp, 1)) (k : AW M d mc ms K n (pc + 1) ls ((0, if a < b then -1 else if a = b then 0 else 1) :: st) h) : AW M d mc ms K n pc ls ((1, b) :: (1, a) :: st) h := by
  intro z p l e R s m args below meth c H locs cells slots MC MS la X
  obtain ⟨C, G, hS, hW, hI, hls, hst, hL, b1, b2, b3, b4⟩ := X
  have ra := (am_oksh (am_okst hst)).2.1 rfl
  have rb := (am_oksh hst).2.1 rfl
  dsimp only at ra rb
  refine W.lcmp C.1 C.2.1 hdg ?_
  rw [am_lcmp ra rb]
  exact k z p l e R s m args below meth c H locs cells slots MC MS la ⟨C, G, hS, hW, hI, hls, am_oksc (am_ok0 (by split <;> (try split) <;> omega) (by split <;> (try split) <;> omega)) (am_okst (am_okst hst)), hL, b1, b2, b3, b4⟩
theorem aw_dup {M : AMM} {d mc ms : Nat} {K : AO → Nat → AH → Prop} {n pc : Nat} {ls st : List AV} {h : AH} {v : AV} (hdg : decode M.2.1 pc = .ok (.dup, 1)) (h2 : am_n2 v = true) (k : AW M d mc ms K n (pc + 1) ls (v :: v :: st) h) : AW M d mc ms K n pc ls (v :: st) h := by
  intro z p l e R s m args below meth c H locs cells slots MC MS la X
  obtain ⟨C, G, hS, hW, hI, hls, hst, hL, b1, b2, b3, b4⟩ := X
  exact lv_dup C.1 C.2.1 hdg (am_cat2 G.2.1 h2) (k z p l e R s m args below meth c H locs cells slots MC MS la ⟨C, G, hS, hW, hI, hls, am_oksc (am_oksh hst) hst, hL, b1, b2, b3, b4⟩)
theorem aw_pop {M : AMM} {d mc ms : Nat} {K : AO → Nat → AH → Prop} {n pc : Nat} {ls st : List AV} {h : AH} {v : AV} (hdg : decode M.2.1 pc = .ok (.pop, 1)) (h2 : am_n2 v = true) (k : AW M d mc ms K n (pc + 1) ls st h) : AW M d mc ms K n pc ls (v :: st) h := by
  intro z p l e R s m args below meth c H locs cells slots MC MS la X
  obtain ⟨C, G, hS, hW, hI, hls, hst, hL, b1, b2, b3, b4⟩ := X
  exact lv_pop C.1 C.2.1 hdg (am_cat2 G.2.1 h2) (k z p l e R s m args below meth c H locs cells slots MC MS la ⟨C, G, hS, hW, hI, hls, am_okst hst, hL, b1, b2, b3, b4⟩)
theorem aw_dup2 {M : AMM} {d mc ms : Nat} {K : AO → Nat → AH → Prop} {n pc : Nat} {ls st : List AV} {h : AH} {u v : AV} (hdg : decode M.2.1 pc = .ok (.dup2, 1)) (h1 : am_n2 u = true) (h2 : am_n2 v = true) (k : AW M d mc ms K n (pc + 1) ls (u :: v :: u :: v :: st) h) : AW M d mc ms K n pc ls (u :: v :: st) h := by
  intro z p l e R s m args below meth c H locs cells slots MC MS la X
  obtain ⟨C, G, hS, hW, hI, hls, hst, hL, b1, b2, b3, b4⟩ := X
  exact lv_dup2_11 C.1 C.2.1 hdg (am_cat2 G.2.1 h1) (am_cat2 G.2.1 h2) (k z p l e R s m args below meth c H locs cells slots MC MS la ⟨C, G, hS, hW, hI, hls, am_oksc (am_oksh hst) (am_oksc (am_oksh (am_okst hst)) hst), hL, b1, b2, b3, b4⟩)
theorem aw_goto {M : AMM} {d mc ms : Nat} {K : AO → Nat → AH → Prop} {n pc : Nat} {ls st : List AV} {h : AH} {off : Int} (tgt : Nat) (hdg : decode M.2.1 pc = .ok (.goto off, 3)) (ht : (pc : Int) + off = (tgt : Int)) (k : AW M d mc ms K n tgt ls st h) : AW M d mc ms K n pc ls st h := by
  intro z p l e R s m args below meth c H locs cells slots MC MS la X
  obtain ⟨C, G, hS, hW, hI, hls, hst, hL, b1, b2, b3, b4⟩ := X
  exact lv_goto C.1 C.2.1 hdg ht (k z p l e R s m args below meth c H locs cells slots MC MS la ⟨C, G, hS, hW, hI, hls, hst, hL, b1, b2, b3, b4⟩)
theorem am_lt {a b : Int} (h1 : -2147483648 ≤ a ∧ a < 2147483648) (h2 : -2147483648 ≤ b ∧ b < 2147483648) : Int32.ofInt a < Int32.ofInt b ↔ a < b := by rw [Int32.lt_iff_toInt_lt, am_toI h1.1 h1.2, am_toI h2.1 h2.2]
theorem am_le {a b : Int} (h1 : -2147483648 ≤ a ∧ a < 2147483648) (h2 : -2147483648 ≤ b ∧ b < 2147483648) : Int32.ofInt a ≤ Int32.ofInt b ↔ a ≤ b := by rw [Int32.le_iff_toInt_le, am_toI h1.1 h1.2, am_toI h2.1 h2.2]
theorem am_eq {a b : Int} (h1 : -2147483648 ≤ a ∧ a < 2147483648) (h2 : -2147483648 ≤ b ∧ b < 2147483648) : Int32.ofInt a = Int32.ofInt b ↔ a = b := by rw [← Int32.toInt_inj, am_toI h1.1 h1.2, am_toI h2.1 h2.2]
theorem am_0 : (0 : Int32) = Int32.ofInt 0 := rfl
theorem aw_icmp_eq {M : AMM} {d mc ms : Nat} {K : AO → Nat → AH → Prop} {n pc : Nat} {ls st : List AV} {h : AH} {a b off : Int} (tgt : Nat) (hdg : decode M.2.1 pc = .ok (.if_icmp .eq off, 3)) (ht : (pc : Int) + off = (tgt : Int)) (kt : a = b → AW M d mc ms K n tgt ls st h) (kf : ¬ (a = b) → AW M d mc ms K n (pc + 3) ls st h) : AW M d mc ms K n pc ls ((0, b) :: (0, a) :: st) h := by
  intro z p l e R s m args below meth c H locs cells slots MC MS la X
  obtain ⟨C, G, hS, hW, hI, hls, hst, hL, b1, b2, b3, b4⟩ := X
  have ra := (am_oksh (am_okst hst)).1 rfl
  have rb := (am_oksh hst).1 rfl
  dsimp only at ra rb
  refine lv_icmp_eq C.1 C.2.1 hdg ht (fun q => ?_) (fun q => ?_)
  · exact kt ((am_eq ra rb).mp q) z p l e R s m args below meth c H locs cells slots MC MS la ⟨C, G, hS, hW, hI, hls, am_okst (am_okst hst), hL, b1, b2, b3, b4⟩
  · exact kf (fun x => q ((am_eq ra rb).mpr x)) z p l e R s m args below meth c H locs cells slots MC MS la ⟨C, G, hS, hW, hI, hls, am_okst (am_okst hst), hL, b1, b2, b3, b4⟩
theorem aw_if_eq {M : AMM} {d mc ms : Nat} {K : AO → Nat → AH → Prop} {n pc : Nat} {ls st : List AV} {h : AH} {a off : Int} (tgt : Nat) (hdg : decode M.2.1 pc = .ok (.ifCond .eq off, 3)) (ht : (pc : Int) + off = (tgt : Int)) (kt : a = 0 → AW M d mc ms K n tgt ls st h) (kf : ¬ (a = 0) → AW M d mc ms K n (pc + 3) ls st h) : AW M d mc ms K n pc ls ((0, a) :: st) h := by
  intro z p l e R s m args below meth c H locs cells slots MC MS la X
  obtain ⟨C, G, hS, hW, hI, hls, hst, hL, b1, b2, b3, b4⟩ := X
  have ra := (am_oksh hst).1 rfl
  dsimp only at ra
  have rb : (-2147483648 : Int) ≤ 0 ∧ (0 : Int) < 2147483648 := by decide
  refine lv_if_eq C.1 C.2.1 hdg ht (fun q => ?_) (fun q => ?_)
  · exact kt ((am_eq ra rb).mp q) z p l e R s m args below meth c H locs cells slots MC MS la ⟨C, G, hS, hW, hI, hls, am_okst hst, hL, b1, b2, b3, b4⟩
  · exact kf (fun x => q ((am_eq ra rb).mpr x)) z p l e R s m args below meth c H locs cells slots MC MS la ⟨C, G, hS, hW, hI, hls, am_okst hst, hL, b1, b2, b3, b4⟩
theorem aw_icmp_ne {M : AMM} {d mc ms : Nat} {K : AO → Nat → AH → Prop} {n pc : Nat} {ls st : List AV} {h : AH} {a b off : Int} (tgt : Nat) (hdg : decode M.2.1 pc = .ok (.if_icmp .ne off, 3)) (ht : (pc : Int) + off = (tgt : Int)) (kt : ¬ a = b → AW M d mc ms K n tgt ls st h) (kf : a = b → AW M d mc ms K n (pc + 3) ls st h) : AW M d mc ms K n pc ls ((0, b) :: (0, a) :: st) h := by
  intro z p l e R s m args below meth c H locs cells slots MC MS la X
  obtain ⟨C, G, hS, hW, hI, hls, hst, hL, b1, b2, b3, b4⟩ := X
  have ra := (am_oksh (am_okst hst)).1 rfl
  have rb := (am_oksh hst).1 rfl
  dsimp only at ra rb
  refine lv_icmp_ne C.1 C.2.1 hdg ht (fun q => ?_) (fun q => ?_)
  · exact kt (fun x => q ((am_eq ra rb).mpr x)) z p l e R s m args below meth c H locs cells slots MC MS la ⟨C, G, hS, hW, hI, hls, am_okst (am_okst hst), hL, b1, b2, b3, b4⟩
  · exact kf ((am_eq ra rb).mp q) z p l e R s m args below meth c H locs cells slots MC MS la ⟨C, G, hS, hW, hI, hls, am_okst (am_okst hst), hL, b1, b2, b3, b4⟩
theorem aw_if_ne {M : AMM} {d mc ms : Nat} {K : AO → Nat → AH → Prop} {n pc : Nat} {ls st : List AV} {h : AH} {a off : Int} (tgt : Nat) (hdg : decode M.2.1 pc = .ok (.ifCond .ne off, 3)) (ht : (pc : Int) + off = (tgt : Int)) (kt : ¬ a = 0 → AW M d mc ms K n tgt ls st h) (kf : a = 0 → AW M d mc ms K n (pc + 3) ls st h) : AW M d mc ms K n pc ls ((0, a) :: st) h := by
  intro z p l e R s m args below meth c H locs cells slots MC MS la X
  obtain ⟨C, G, hS, hW, hI, hls, hst, hL, b1, b2, b3, b4⟩ := X
  have ra := (am_oksh hst).1 rfl
  dsimp only at ra
  have rb : (-2147483648 : Int) ≤ 0 ∧ (0 : Int) < 2147483648 := by decide
  refine lv_if_ne C.1 C.2.1 hdg ht (fun q => ?_) (fun q => ?_)
  · exact kt (fun x => q ((am_eq ra rb).mpr x)) z p l e R s m args below meth c H locs cells slots MC MS la ⟨C, G, hS, hW, hI, hls, am_okst hst, hL, b1, b2, b3, b4⟩
  · exact kf ((am_eq ra rb).mp q) z p l e R s m args below meth c H locs cells slots MC MS la ⟨C, G, hS, hW, hI, hls, am_okst hst, hL, b1, b2, b3, b4⟩
theorem aw_icmp_lt {M : AMM} {d mc ms : Nat} {K : AO → Nat → AH → Prop} {n pc : Nat} {ls st : List AV} {h : AH} {a b off : Int} (tgt : Nat) (hdg : decode M.2.1 pc = .ok (.if_icmp .lt off, 3)) (ht : (pc : Int) + off = (tgt : Int)) (kt : a < b → AW M d mc ms K n tgt ls st h) (kf : ¬ (a < b) → AW M d mc ms K n (pc + 3) ls st h) : AW M d mc ms K n pc ls ((0, b) :: (0, a) :: st) h := by
  intro z p l e R s m args below meth c H locs cells slots MC MS la X
  obtain ⟨C, G, hS, hW, hI, hls, hst, hL, b1, b2, b3, b4⟩ := X
  have ra := (am_oksh (am_okst hst)).1 rfl
  have rb := (am_oksh hst).1 rfl
  dsimp only at ra rb
  refine lv_icmp_lt C.1 C.2.1 hdg ht (fun q => ?_) (fun q => ?_)
  · exact kt ((am_lt ra rb).mp q) z p l e R s m args below meth c H locs cells slots MC MS la ⟨C, G, hS, hW, hI, hls, am_okst (am_okst hst), hL, b1, b2, b3, b4⟩
  · exact kf (fun x => q ((am_lt ra rb).mpr x)) z p l e R s m args below meth c H locs cells slots MC MS la ⟨C, G, hS, hW, hI, hls, am_okst (am_okst hst), hL, b1, b2, b3, b4⟩
theorem aw_if_lt {M : AMM} {d mc ms : Nat} {K : AO → Nat → AH → Prop} {n pc : Nat} {ls st : List AV} {h : AH} {a off : Int} (tgt : Nat) (hdg : decode M.2.1 pc = .ok (.ifCond .lt off, 3)) (ht : (pc : Int) + off = (tgt : Int)) (kt : a < 0 → AW M d mc ms K n tgt ls st h) (kf : ¬ (a < 0) → AW M d mc ms K n (pc + 3) ls st h) : AW M d mc ms K n pc ls ((0, a) :: st) h := by
  intro z p l e R s m args below meth c H locs cells slots MC MS la X
  obtain ⟨C, G, hS, hW, hI, hls, hst, hL, b1, b2, b3, b4⟩ := X
  have ra := (am_oksh hst).1 rfl
  dsimp only at ra
  have rb : (-2147483648 : Int) ≤ 0 ∧ (0 : Int) < 2147483648 := by decide
  refine lv_if_lt C.1 C.2.1 hdg ht (fun q => ?_) (fun q => ?_)
  · exact kt ((am_lt ra rb).mp q) z p l e R s m args below meth c H locs cells slots MC MS la ⟨C, G, hS, hW, hI, hls, am_okst hst, hL, b1, b2, b3, b4⟩
  · exact kf (fun x => q ((am_lt ra rb).mpr x)) z p l e R s m args below meth c H locs cells slots MC MS la ⟨C, G, hS, hW, hI, hls, am_okst hst, hL, b1, b2, b3, b4⟩
theorem aw_icmp_ge {M : AMM} {d mc ms : Nat} {K : AO → Nat → AH → Prop} {n pc : Nat} {ls st : List AV} {h : AH} {a b off : Int} (tgt : Nat) (hdg : decode M.2.1 pc = .ok (.if_icmp .ge off, 3)) (ht : (pc : Int) + off = (tgt : Int)) (kt : b ≤ a → AW M d mc ms K n tgt ls st h) (kf : ¬ (b ≤ a) → AW M d mc ms K n (pc + 3) ls st h) : AW M d mc ms K n pc ls ((0, b) :: (0, a) :: st) h := by
  intro z p l e R s m args below meth c H locs cells slots MC MS la X
  obtain ⟨C, G, hS, hW, hI, hls, hst, hL, b1, b2, b3, b4⟩ := X
  have ra := (am_oksh (am_okst hst)).1 rfl
  have rb := (am_oksh hst).1 rfl
  dsimp only at ra rb
  refine lv_icmp_ge C.1 C.2.1 hdg ht (fun q => ?_) (fun q => ?_)
  · exact kt ((am_le rb ra).mp q) z p l e R s m args below meth c H locs cells slots MC MS la ⟨C, G, hS, hW, hI, hls, am_okst (am_okst hst), hL, b1, b2, b3, b4⟩
  · exact kf (fun x => q ((am_le rb ra).mpr x)) z p l e R s m args below meth c H locs cells slots MC MS la ⟨C, G, hS, hW, hI, hls, am_okst (am_okst hst), hL, b1, b2, b3, b4⟩
theorem aw_if_ge {M : AMM} {d mc ms : Nat} {K : AO → Nat → AH → Prop} {n pc : Nat} {ls st : List AV} {h : AH} {a off : Int} (tgt : Nat) (hdg : decode M.2.1 pc = .ok (.ifCond .ge off, 3)) (ht : (pc : Int) + off = (tgt : Int)) (kt : 0 ≤ a → AW M d mc ms K n tgt ls st h) (kf : ¬ (0 ≤ a) → AW M d mc ms K n (pc + 3) ls st h) : AW M d mc ms K n pc ls ((0, a) :: st) h := by
  intro z p l e R s m args below meth c H locs cells slots MC MS la X
  obtain ⟨C, G, hS, hW, hI, hls, hst, hL, b1, b2, b3, b4⟩ := X
  have ra := (am_oksh hst).1 rfl
  dsimp only at ra
  have rb : (-2147483648 : Int) ≤ 0 ∧ (0 : Int) < 2147483648 := by decide
  refine lv_if_ge C.1 C.2.1 hdg ht (fun q => ?_) (fun q => ?_)
  · exact kt ((am_le rb ra).mp q) z p l e R s m args below meth c H locs cells slots MC MS la ⟨C, G, hS, hW, hI, hls, am_okst hst, hL, b1, b2, b3, b4⟩
  · exact kf (fun x => q ((am_le rb ra).mpr x)) z p l e R s m args below meth c H locs cells slots MC MS la ⟨C, G, hS, hW, hI, hls, am_okst hst, hL, b1, b2, b3, b4⟩
theorem aw_icmp_gt {M : AMM} {d mc ms : Nat} {K : AO → Nat → AH → Prop} {n pc : Nat} {ls st : List AV} {h : AH} {a b off : Int} (tgt : Nat) (hdg : decode M.2.1 pc = .ok (.if_icmp .gt off, 3)) (ht : (pc : Int) + off = (tgt : Int)) (kt : b < a → AW M d mc ms K n tgt ls st h) (kf : ¬ (b < a) → AW M d mc ms K n (pc + 3) ls st h) : AW M d mc ms K n pc ls ((0, b) :: (0, a) :: st) h := by
  intro z p l e R s m args below meth c H locs cells slots MC MS la X
  obtain ⟨C, G, hS, hW, hI, hls, hst, hL, b1, b2, b3, b4⟩ := X
  have ra := (am_oksh (am_okst hst)).1 rfl
  have rb := (am_oksh hst).1 rfl
  dsimp only at ra rb
  refine lv_icmp_gt C.1 C.2.1 hdg ht (fun q => ?_) (fun q => ?_)
  · exact kt ((am_lt rb ra).mp q) z p l e R s m args below meth c H locs cells slots MC MS la ⟨C, G, hS, hW, hI, hls, am_okst (am_okst hst), hL, b1, b2, b3, b4⟩
  · exact kf (fun x => q ((am_lt rb ra).mpr x)) z p l e R s m args below meth c H locs cells slots MC MS la ⟨C, G, hS, hW, hI, hls, am_okst (am_okst hst), hL, b1, b2, b3, b4⟩
theorem aw_if_gt {M : AMM} {d mc ms : Nat} {K : AO → Nat → AH → Prop} {n pc : Nat} {ls st : List AV} {h : AH} {a off : Int} (tgt : Nat) (hdg : decode M.2.1 pc = .ok (.ifCond .gt off, 3)) (ht : (pc : Int) + off = (tgt : Int)) (kt : 0 < a → AW M d mc ms K n tgt ls st h) (kf : ¬ (0 < a) → AW M d mc ms K n (pc + 3) ls st h) : AW M d mc ms K n pc ls ((0, a) :: st) h := by
  intro z p l e R s m args below meth c H locs cells slots MC MS la X
  obtain ⟨C, G, hS, hW, hI, hls, hst, hL, b1, b2, b3, b4⟩ := X
  have ra := (am_oksh hst).1 rfl
  dsimp only at ra
  have rb : (-2147483648 : Int) ≤ 0 ∧ (0 : Int) < 2147483648 := by decide
  refine lv_if_gt C.1 C.2.1 hdg ht (fun q => ?_) (fun q => ?_)
  · exact kt ((am_lt rb ra).mp q) z p l e R s m args below meth c H locs cells slots MC MS la ⟨C, G, hS, hW, hI, hls, am_okst hst, hL, b1, b2, b3, b4⟩
  · exact kf (fun x => q ((am_lt rb ra).mpr x)) z p l e R s m args below meth c H locs cells slots MC MS la ⟨C, G, hS, hW, hI, hls, am_okst hst, hL, b1, b2, b3, b4⟩
theorem aw_icmp_le {M : AMM} {d mc ms : Nat} {K : AO → Nat → AH → Prop} {n pc : Nat} {ls st : List AV} {h : AH} {a b off : Int} (tgt : Nat) (hdg : decode M.2.1 pc = .ok (.if_icmp .le off, 3)) (ht : (pc : Int) + off = (tgt : Int)) (kt : a ≤ b → AW M d mc ms K n tgt ls st h) (kf : ¬ (a ≤ b) → AW M d mc ms K n (pc + 3) ls st h) : AW M d mc ms K n pc ls ((0, b) :: (0, a) :: st) h := by
  intro z p l e R s m args below meth c H locs cells slots MC MS la X
  obtain ⟨C, G, hS, hW, hI, hls, hst, hL, b1, b2, b3, b4⟩ := X
  have ra := (am_oksh (am_okst hst)).1 rfl
  have rb := (am_oksh hst).1 rfl
  dsimp only at ra rb
  refine lv_icmp_le C.1 C.2.1 hdg ht (fun q => ?_) (fun q => ?_)
  · exact kt ((am_le ra rb).mp q) z p l e R s m args below meth c H locs cells slots MC MS la ⟨C, G, hS, hW, hI, hls, am_okst (am_okst hst), hL, b1, b2, b3, b4⟩
  · exact kf (fun x => q ((am_le ra rb).mpr x)) z p l e R s m args below meth c H locs cells slots MC MS la ⟨C, G, hS, hW, hI, hls, am_okst (am_okst hst), hL, b1, b2, b3, b4⟩
theorem aw_if_le {M : AMM} {d mc ms : Nat} {K : AO → Nat → AH → Prop} {n pc : Nat} {ls st : List AV} {h : AH} {a off : Int} (tgt : Nat) (hdg : decode M.2.1 pc = .ok (.ifCond .le off, 3)) (ht : (pc : Int) + off = (tgt : Int)) (kt : a ≤ 0 → AW M d mc ms K n tgt ls st h) (kf : ¬ (a ≤ 0) → AW M d mc ms K n (pc + 3) ls st h) : AW M d mc ms K n pc ls ((0, a) :: st) h := by
  intro z p l e R s m args below meth c H locs cells slots MC MS la X
  obtain ⟨C, G, hS, hW, hI, hls, hst, hL, b1, b2, b3, b4⟩ := X
  have ra := (am_oksh hst).1 rfl
  dsimp only at ra
  have rb : (-2147483648 : Int) ≤ 0 ∧ (0 : Int) < 2147483648 := by decide
  refine lv_if_le C.1 C.2.1 hdg ht (fun q => ?_) (fun q => ?_)
  · exact kt ((am_le ra rb).mp q) z p l e R s m args below meth c H locs cells slots MC MS la ⟨C, G, hS, hW, hI, hls, am_okst hst, hL, b1, b2, b3, b4⟩
  · exact kf (fun x => q ((am_le ra rb).mpr x)) z p l e R s m args below meth c H locs cells slots MC MS la ⟨C, G, hS, hW, hI, hls, am_okst hst, hL, b1, b2, b3, b4⟩
