theorem am_Gx {z : AMZ} {s : State} (G : am_G z s) : am_GX s := by
  obtain ⟨-, -, -, -, -, -, -, -, b, -, -, -, -, x⟩ := G
  exact x
theorem am_G.go {z : AMZ} {s U : State} (G : am_G z s) (hW : s.WarmedH U.vm) (hz : s.heap.size ≤ U.heap.size) (hk : ∀ q : Nat, q < s.heap.size → ¬ am_A z q → U.heap[q]? = s.heap[q]?) : am_G z U := by
  obtain ⟨g1, gc, g2, g3, g4, g5, g6, g7, b, g8, g9, g10, g11, x1, x2, x4, x3⟩ := G
  have hv := hW.alike
  refine ⟨va_K.moved hv g1, gc, fun i q hq => ?_, fun i q hq => ?_, (va_Z.moved hv g4).kept hk, (va_Z.moved hv g5).kept hk, (vx_Zq.moved hv g6).kept hk, (vx_Zq.moved hv g7).kept hk, b, g8, (va_X.moved hv g9).kept (hk b g10 g11), Nat.lt_of_lt_of_le g10 hz, g11, fun q hq => va_Nw.warmM hW (x1 q hq), fun E hE => va_Nw.warmC hW (x2 E hE), fun y hy => va_Nw.warmD hW (x4 y hy), fun E hE E' hE' hne => va_Nc.moved hv (x3 E hE E' hE' hne)⟩
  · obtain ⟨a, e1, e2, e3⟩ := g2 i q hq
    exact ⟨a, e1, (va_Z.moved hv e2).kept hk, (va_T.moved hv e3).kept hk⟩
  · obtain ⟨a, v, e1, e2, e3, e4, e5, e6, e7⟩ := g3 i q hq
    exact ⟨a, v, e1, e2, e3.warm hW, (va_O.moved hv e4).kept hk, (va_OF.moved hv e5).kept hk, (va_OF.moved hv e6).kept hk, (va_T.moved hv e7).kept hk⟩
def am_Pc (z : AMZ) (n : Nat) (as : List AV) (h : AH) : Array Value → State → Prop := va_Pc (as.map (av z)) (fun U => am_G z U ∧ am_Wd z n h U.heap)
theorem am_blind (z : AMZ) (n : Nat) (as : List AV) (h : AH) : FrameBlind (am_Pc z n as h) := fun a U g mk hp => ⟨hp.1, am_G.go (U := U.calling g mk a) hp.2.1 (State.WarmedH.refl U) (Nat.le_refl _) (fun _ _ _ => rfl), hp.2.2⟩
/-- where q is thrown over the method's frame at pc -/
def AX (M : AMM) (d mc ms : Nat) (K : AO → Nat → AH → Prop) (n pc : Nat) (ls : List AV) (h : AH) (E : String) : Prop :=
  ∀ (z : AMZ) (p : Program) (l : Launch) (e : Env) (R : Room) (s : State) (m : MethodId) (args : Array Value) (below : List Frame) (meth : Method) (c : Code) (H : Heap) (locs : List Loc) (cells slots MC MS : Nat) (la : Array Slot),
    am_S M d mc ms n ls [] h z p l R s m args meth c H locs cells slots MC MS la → ∀ (q : Addr) (ce : Cell) (rest : List Value), H[q]? = some ce → ce.vm = .none → s.vm.findClass E = some ce.cls →
    vx_W p l e R s m args below meth c H locs cells slots (vx_MQ below (am_Q z K) (am_X z K) args s MC MS (am_A z)) (F0 m pc la rest) q
theorem am_nil : am_oks [] := fun _ h => nomatch h
theorem ax_out {M : AMM} {d mc ms : Nat} {K : AO → Nat → AH → Prop} {n pc : Nat} {ls : List AV} {h : AH} {E : String} (hh : M.2.2.2.2 = []) (k : K (.inr E) n h) : AX M d mc ms K n pc ls h E := by
  intro z p l e R s m args below meth c H locs cells slots MC MS la X
  obtain ⟨C, G, hS, hW, hI, hls, hst, hL, b1, b2, b3, b4⟩ := X
  intro q ce rest hq hv hcl
  have ht := C.2.2.2.2.2.2.2.2.1
  rw [hh] at ht
  have ht2 : c.exceptionTable.toList = [] := ht
  exact vx_out (fun x hx => by rw [ht2] at hx; cases hx) C.2.2.2.2.2.2.1 hq hv hcl (fun t ht _ => ⟨n, h, k, hI, ht ▸ hW, am_F hS ht⟩) hS.2.2 (by omega) (by omega)
def am_cont (M : AMM) (d mc ms : Nat) (K : AO → Nat → AH → Prop) (pc nx : Nat) (ls rest : List AV) : AO → Nat → AH → Prop := fun o n h => match o with
  | .inl r => AW M d mc ms K n nx ls (r.toList ++ rest) h
  | .inr E => AX M d mc ms K n pc ls h E
theorem am_call {M : AMM} {d mc ms mc' ms' : Nat} {K K' : AO → Nat → AH → Prop} {n pc : Nat} {ls rest : List AV} {h : AH} {z : AMZ} {p : Program} {l : Launch} {e : Env} {R : Room} {s : State} {m : MethodId} {args a : Array Value} {below : List Frame} {meth : Method} {c : Code} {H : Heap} {locs : List Loc} {cells slots MC MS : Nat} {la : Array Slot} {st0 : List Value}
    (hmc : mc' ≤ mc) (hms : ms' ≤ ms) (X : am_S M d mc ms n ls rest h z p l R s m args meth c H locs cells slots MC MS la) (hK : ∀ o n h, K' o n h → am_cont M d (mc - mc') (ms - ms') K pc (pc + 3) ls rest o n h)
    (hr : vx_Run p l e R s m args below meth c H locs cells slots mc' ms' (F0 m pc la st0) (rest.map (av z)) (am_Q z K' a) (am_X z K') (am_A z)) :
    W p l e R s m args below meth c H locs cells slots (vx_MQ below (am_Q z K) (am_X z K) args s MC MS (am_A z)) (F0 m pc la st0) := by
  obtain ⟨C, G, hS, hW, hI, hls, hst, hL, b1, b2, b3, b4⟩ := X
  intro T hT X
  rcases hr T hT X with ⟨v, st₀, t, T', L, h0, X', hL2, e1, e2, ⟨r, n', h', hk, hv, hok, hI', hW', hF⟩, st⟩ | ⟨q, st₀, t, T', L, E, ce, h0, X', hL2, e1, e2, ⟨n', h', hk, hI', hW', hF⟩, hce, hcv, hcl, st⟩
  · cases hv
    obtain ⟨k1, k2, k3⟩ := vx_keep h0 e1 hS (fun _ _ h => h) (fun _ h => h) hL2 hF
    have hgo := hK _ _ _ hk z p l e R s m args below meth c T'.heap (locs ++ L) (cells + mc') (slots + ms') MC MS la ⟨C, G, k3, by rw [e1]; exact hW', hI', hls, (by
      cases r with
      | none => exact hst
      | some v => exact am_oksc (hok v rfl) hst), hL, by omega, by omega, b3, b4⟩ T' rfl X'
    obtain ⟨t2, a1, b1⟩ := hgo
    refine ⟨t2, st t2 ?_, b1⟩
    cases r with
    | none => exact a1
    | some v => exact a1
  · obtain ⟨k1, k2, k3⟩ := vx_keep h0 e1 hS (fun _ _ h => h) (fun _ h => h) hL2 hF
    have hgo := hK _ _ _ hk z p l e R s m args below meth c T'.heap (locs ++ L) (cells + mc') (slots + ms') MC MS la ⟨C, G, k3, by rw [e1]; exact hW', hI', hls, am_nil, hL, by omega, by omega, b3, b4⟩ q ce (rest.map (av z)) (by rw [e1]; exact hce) hcv hcl T' rfl X'
    obtain ⟨t2, a1, b1⟩ := hgo
    exact ⟨t2, st.trans a1, b1⟩
theorem am_good {args : Array Value} {s : State} (hts : ∀ w ∈ am_WS, w.before args s = true) : ∀ w ∈ am_WS, ∀ (a' : Array Value) (U : State), s.WarmedH U.vm → w.before a' U = true := fun w hw a' U hU => word_at hU (good_of_word (List.mem_filter.mp hw).2) (hts w hw)
theorem am_hd0 {Y : AMM} (h : Y.2.2.2.2 = []) : am_hd Y = .code Y.1 Y.2.1 Y.2.2.1 Y.2.2.2.1 := if_pos h
theorem am_goodY {Y : AMM} {np : Nat} {args : Array Value} {s : State} (hy : am_yw Y np) (hts : ∀ w ∈ am_WS, w.before args s = true) : ∀ w ∈ am_ws Y, ∀ (a' : Array Value) (U : State), s.WarmedH U.vm → w.before a' U = true := by
  intro w hw
  rcases List.mem_cons.mp hw with e | e
  · rw [e, am_hd0 hy.1]
    exact am_good hts _ hy.2.1
  · exact am_good hts w e
theorem am_np {Y : AMM} {np : Nat} (hy : am_yw Y np) : ∀ sig, parseMethodDescriptor Y.1.desc = some sig → np = sig.parameters.length := by
  intro sig e
  have h := hy.2.2.2.2.1
  rw [e] at h
  exact (Option.some.inj h).symm
theorem am_catv {z : AMZ} (hr : ∀ k, (z.2.2.2.1 k).category = 1) (v : AV) : (av z v).category = if v.1 = 1 ∨ v.1 = 4 then 2 else 1 := by
  by_cases h : v.1 = 1 ∨ v.1 = 4
  · rw [if_pos h]
    obtain ⟨t, x⟩ := v
    rcases h with h | h <;> (dsimp only at h; subst h; rfl)
  · rw [if_neg h]
    exact av_cat (fun e => h (Or.inl e)) (fun e => h (Or.inr e)) hr
/-- words of the stack -/
def am_c8 : List AV → Nat
  | [] => 0
  | v :: l => (if v.1 = 1 ∨ v.1 = 4 then 2 else 1) + am_c8 l
theorem am_cat8 {z : AMZ} (hr : ∀ k, (z.2.2.2.1 k).category = 1) : ∀ (l : List AV), ((l.map (av z)).map fun v => v.category).sum = am_c8 l
  | [] => rfl
  | v :: l => by
    rw [List.map_cons, List.map_cons, List.sum_cons, am_cat8 hr l, am_catv hr]
    rfl
theorem aw_callS {M : AMM} {d mc ms : Nat} {K : AO → Nat → AH → Prop} {n pc : Nat} {ls st : List AV} {h : AH} (d' mc' ms' : Nat) {Y : AMM} {np idx : Nat} {as st0 : List AV} (hdg : decode M.2.1 pc = .ok (.invokestatic idx, 3)) (hy : am_yw Y np) (hlk : Cond.methodLink M.1.cls idx Y.1 ∈ am_WS) (hst0 : Cond.static Y.1 ∈ am_WS) (hn : as.length = np) (hs : st0 = as.reverse ++ st) (hd : d' + 1 ≤ d ∧ mc' ≤ mc ∧ ms' ≤ ms ∧ am_c8 st ≤ 8) (k : AC Y d' mc' ms' n as h (am_cont M d (mc - mc') (ms - ms') K pc (pc + 3) ls st)) : AW M d mc ms K n pc ls st0 h := by
  subst hs
  intro z p l e R s m args below meth c H locs cells slots MC MS la X
  obtain ⟨C, G, hS, hW, hI, hls, hst, hL, b1, b2, b3, b4⟩ := X
  have hts := C.2.2.2.2.1
  obtain ⟨hd1, hd2, hd3, hd4⟩ := hd
  have hrs : am_oks st := fun v hv => hst v (by simp [hv])
  have has : am_oks as := fun v hv => hst v (by simp at hv ⊢; first | exact Or.inl hv | (rcases hv with q | q; exact Or.inr (Or.inl q); exact Or.inl q))
  refine am_call (a := #[]) hd2 hd3 ⟨C, G, hS, hW, hI, hls, hrs, hL, b1, b2, b3, b4⟩ (fun _ _ _ q => q) ?_
  have hM := k has hI z l C.2.2.2.2.2.2.2.1
  have h8 := am_cat8 G.2.1 st
  exact vx_runS (As := as.map (av z)) (rest := st.map (av z)) ⟨C.1, C.2.1, C.2.2.1, C.2.2.2.1, hts⟩ hM ⟨⟨rfl, rfl, by show d' + 1 ≤ R.frames; have := C.2.2.2.2.2.2.2.2.2.1; omega, by show 8 + (Y.2.2.1 + 11) + 60 * d' ≤ R.locals; have := C.2.2.2.2.2.2.2.2.2.2.1; have := hy.2.2.2.2.2; omega, am_goodY hy hts, by rw [← am_hd0 hy.1]; exact List.mem_cons_self, hts _ hy.2.1, hts _ hy.2.2.1, hy.2.2.2.1, am_np hy, hts _ hlk⟩, hts _ hst0⟩ ⟨am_blind z n as h, fun U hU hWU => ⟨rfl, am_G.go G hWU (by rw [hU]; exact hS.1) (fun q h1 h2 => by rw [hU]; exact hS.2.1 q h1 h2), by rw [hU]; exact hW⟩⟩ rfl (by rw [List.length_map]; exact hn) hL.1 (by show (as.reverse ++ st).map (av z) = _; rw [List.map_append, List.map_reverse]) (lv_room (by omega)) hdg ⟨by omega, by omega⟩
theorem aw_callSN {M : AMM} {d mc ms : Nat} {K : AO → Nat → AH → Prop} {n pc : Nat} {ls st : List AV} {h : AH} (d' mc' ms' : Nat) {Y : AMM} {np idx : Nat} {as st0 : List AV} (hdg : decode M.2.1 pc = .ok (.invokestatic idx, 3)) (hy : am_yw Y np) (hlk : (M.1.cls, idx, Y.1) ∈ am_NW) (hst0 : Cond.static Y.1 ∈ am_WS) (hn : as.length = np) (hs : st0 = as.reverse ++ st) (hd : d' + 1 ≤ d ∧ mc' ≤ mc ∧ ms' ≤ ms ∧ am_c8 st ≤ 8) (k : AC Y d' mc' ms' n as h (am_cont M d (mc - mc') (ms - ms') K pc (pc + 3) ls st)) : AW M d mc ms K n pc ls st0 h := by
  subst hs
  intro z p l e R s m args below meth c H locs cells slots MC MS la X
  obtain ⟨C, G, hS, hW, hI, hls, hst, hL, b1, b2, b3, b4⟩ := X
  have hts := C.2.2.2.2.1
  obtain ⟨hd1, hd2, hd3, hd4⟩ := hd
  have hrs : am_oks st := fun v hv => hst v (by simp [hv])
  have has : am_oks as := fun v hv => hst v (by simp at hv ⊢; first | exact Or.inl hv | (rcases hv with q | q; exact Or.inr (Or.inl q); exact Or.inl q))
  refine am_call (a := #[]) hd2 hd3 ⟨C, G, hS, hW, hI, hls, hrs, hL, b1, b2, b3, b4⟩ (fun _ _ _ q => q) ?_
  have hM := k has hI z l C.2.2.2.2.2.2.2.1
  have h8 := am_cat8 G.2.1 st
  exact vx_runSN (As := as.map (av z)) (rest := st.map (av z)) ⟨C.1, C.2.1, C.2.2.1, C.2.2.2.1, hts⟩ hM ⟨⟨⟨rfl, rfl, by show d' + 1 ≤ R.frames; have := C.2.2.2.2.2.2.2.2.2.1; omega, by show 8 + (Y.2.2.1 + 11) + 60 * d' ≤ R.locals; have := C.2.2.2.2.2.2.2.2.2.2.1; have := hy.2.2.2.2.2; omega, am_goodY hy hts, by rw [← am_hd0 hy.1]; exact List.mem_cons_self⟩, hts _ hy.2.1, hts _ hy.2.2.1, hy.2.2.2.1, am_np hy, va_Nw.use rfl ((am_Gx G).1 _ hlk)⟩, hts _ hst0, trivial⟩ ⟨am_blind z n as h, fun U hU hWU => ⟨rfl, am_G.go G hWU (by rw [hU]; exact hS.1) (fun q h1 h2 => by rw [hU]; exact hS.2.1 q h1 h2), by rw [hU]; exact hW⟩⟩ rfl (by rw [List.length_map]; exact hn) hL.1 (by show (as.reverse ++ st).map (av z) = _; rw [List.map_append, List.map_reverse]) (lv_room (by omega)) hdg ⟨by omega, by omega⟩
theorem aw_callV {M : AMM} {d mc ms : Nat} {K : AO → Nat → AH → Prop} {n pc : Nat} {ls st : List AV} {h : AH} (d' mc' ms' : Nat) {Y : AMM} {np idx : Nat} {as st0 : List AV} (hdg : decode M.2.1 pc = .ok (.invokevirtual idx, 3)) (hy : am_yw Y np) (hlk : Cond.methodLink M.1.cls idx Y.1 ∈ am_WS) (hin : Cond.instanceMethod Y.1 ∈ am_WS) (hsel : Cond.selects Y.1.cls Y.1 Y.1 ∈ am_WS) {b : Int} {ci N : Nat} {T : u_T} (hci : vwCl[ci]? = some (Y.1.cls, T, N)) (hb : am_at n b ci) (hn : as.length = np) (hs : st0 = as.reverse ++ (2, b) :: st) (hd : d' + 1 ≤ d ∧ mc' ≤ mc ∧ ms' ≤ ms ∧ am_c8 st ≤ 8) (k : AC Y d' mc' ms' n ((2, b) :: as) h (am_cont M d (mc - mc') (ms - ms') K pc (pc + 3) ls st)) : AW M d mc ms K n pc ls st0 h := by
  subst hs
  intro z p l e R s m args below meth c H locs cells slots MC MS la X
  obtain ⟨C, G, hS, hW, hI, hls, hst, hL, b1, b2, b3, b4⟩ := X
  have hts := C.2.2.2.2.1
  obtain ⟨hd1, hd2, hd3, hd4⟩ := hd
  have hrs : am_oks st := fun v hv => hst v (by simp [hv])
  have has : am_oks ((2, b) :: as) := fun v hv => hst v (by simp at hv ⊢; first | exact Or.inl hv | (rcases hv with q | q; exact Or.inr (Or.inl q); exact Or.inl q))
  refine am_call (a := #[]) hd2 hd3 ⟨C, G, hS, hW, hI, hls, hrs, hL, b1, b2, b3, b4⟩ (fun _ _ _ q => q) ?_
  have hM := k has hI z l C.2.2.2.2.2.2.2.1
  have h8 := am_cat8 G.2.1 st
  have hb9 := hb.2.1
  have hn9 := hW.2.2
  have hrf : av z (2, b) = .ref (z.2.2.1 + b.toNat) := av_ref z hb.1 (by omega)
  have hMe : ((((2, b) : AV) :: as).map (av z)) = .ref (z.2.2.1 + b.toNat) :: as.map (av z) := by rw [List.map_cons, hrf]
  rw [hMe] at hM
  obtain ⟨r0, hr0, cell, q1, q2, q3, q4⟩ := am_obj hW hb
  cases hr0.symm.trans hci
  obtain ⟨-, hfc, -⟩ := G.1.1 _ _ hci
  exact vx_runV (As := as.map (av z)) (rest := st.map (av z)) ⟨C.1, C.2.1, C.2.2.1, C.2.2.2.1, hts⟩ hM ⟨⟨rfl, rfl, by show d' + 1 ≤ R.frames; have := C.2.2.2.2.2.2.2.2.2.1; omega, by show 8 + (Y.2.2.1 + 11) + 60 * d' ≤ R.locals; have := C.2.2.2.2.2.2.2.2.2.2.1; have := hy.2.2.2.2.2; omega, am_goodY hy hts, by rw [← am_hd0 hy.1]; exact List.mem_cons_self, hts _ hy.2.1, hts _ hy.2.2.1, hy.2.2.2.1, am_np hy, hts _ hlk⟩, hts _ hin, hts _ hsel⟩ ⟨(by have h9 := am_blind z n ((2, b) :: as) h; unfold am_Pc at h9; rw [hMe] at h9; exact h9), ⟨cell, q1, by rw [q3]; rfl, by rw [q2]; exact hfc⟩, fun U hU hWU => ⟨rfl, am_G.go G hWU (by rw [hU]; exact hS.1) (fun q h1 h2 => by rw [hU]; exact hS.2.1 q h1 h2), by rw [hU]; exact hW⟩⟩ rfl (by rw [List.length_map]; exact hn) hL.1 (by show (as.reverse ++ (2, b) :: st).map (av z) = _; rw [List.map_append, List.map_reverse, List.map_cons, hrf]) (lv_room (by omega)) hdg ⟨by omega, by omega⟩
theorem aw_callI {M : AMM} {d mc ms : Nat} {K : AO → Nat → AH → Prop} {n pc : Nat} {ls st : List AV} {h : AH} (d' mc' ms' : Nat) {Y : AMM} {np idx : Nat} {as st0 : List AV} (hdg : decode M.2.1 pc = .ok (.invokespecial idx, 3)) (hy : am_yw Y np) (hlk : Cond.methodLink M.1.cls idx Y.1 ∈ am_WS) (hin : Cond.instanceMethod Y.1 ∈ am_WS) (hini : Y.1.name = "<init>") (hrn : Y.2.2.2.1 = none) {b : Int} {ci N : Nat} {T : u_T} (hci : vwCl[ci]? = some (Y.1.cls, T, N)) (hb : am_at n b ci) (hn : as.length = np) (hs : st0 = as.reverse ++ (2, b) :: st) (hd : d' + 1 ≤ d ∧ mc' ≤ mc ∧ ms' ≤ ms ∧ am_c8 st ≤ 8) (k : AC Y d' mc' ms' n ((2, b) :: as) h (am_cont M d (mc - mc') (ms - ms') K pc (pc + 3) ls st)) : AW M d mc ms K n pc ls st0 h := by
  subst hs
  intro z p l e R s m args below meth c H locs cells slots MC MS la X
  obtain ⟨C, G, hS, hW, hI, hls, hst, hL, b1, b2, b3, b4⟩ := X
  have hts := C.2.2.2.2.1
  obtain ⟨hd1, hd2, hd3, hd4⟩ := hd
  have hrs : am_oks st := fun v hv => hst v (by simp [hv])
  have has : am_oks ((2, b) :: as) := fun v hv => hst v (by simp at hv ⊢; first | exact Or.inl hv | (rcases hv with q | q; exact Or.inr (Or.inl q); exact Or.inl q))
  refine am_call (a := #[]) hd2 hd3 ⟨C, G, hS, hW, hI, hls, hrs, hL, b1, b2, b3, b4⟩ (fun _ _ _ q => q) ?_
  have hM := k has hI z l C.2.2.2.2.2.2.2.1
  have h8 := am_cat8 G.2.1 st
  have hb9 := hb.2.1
  have hn9 := hW.2.2
  have hrf : av z (2, b) = .ref (z.2.2.1 + b.toNat) := av_ref z hb.1 (by omega)
  have hMe : ((((2, b) : AV) :: as).map (av z)) = .ref (z.2.2.1 + b.toNat) :: as.map (av z) := by rw [List.map_cons, hrf]
  rw [hMe] at hM
  obtain ⟨r0, hr0, cell, q1, q2, q3, q4⟩ := am_obj hW hb
  cases hr0.symm.trans hci
  obtain ⟨-, hfc, -⟩ := G.1.1 _ _ hci
  exact vx_runI (b := z.2.2.1 + b.toNat) (As := as.map (av z)) (rest := st.map (av z)) ⟨C.1, C.2.1, C.2.2.1, C.2.2.2.1, hts⟩ hM ⟨(by have h9 : CallB R s args M.1.cls idx Y.1 Y.2.1 Y.2.2.1 Y.2.2.2.1 (am_ws Y) (am_rm d' mc' ms') mc' ms' np := ⟨rfl, rfl, by show d' + 1 ≤ R.frames; have := C.2.2.2.2.2.2.2.2.2.1; omega, by show 8 + (Y.2.2.1 + 11) + 60 * d' ≤ R.locals; have := C.2.2.2.2.2.2.2.2.2.2.1; have := hy.2.2.2.2.2; omega, am_goodY hy hts, by rw [← am_hd0 hy.1]; exact List.mem_cons_self, hts _ hy.2.1, hts _ hy.2.2.1, hy.2.2.2.1, am_np hy, hts _ hlk⟩; rw [hrn] at h9; exact h9), hini, hts _ hin⟩ ⟨(by have h9 := am_blind z n ((2, b) :: as) h; unfold am_Pc at h9; rw [hMe] at h9; exact h9), fun U hU hWU => ⟨rfl, am_G.go G hWU (by rw [hU]; exact hS.1) (fun q h1 h2 => by rw [hU]; exact hS.2.1 q h1 h2), by rw [hU]; exact hW⟩⟩ rfl (by rw [List.length_map]; exact hn) hL.1 (by show (as.reverse ++ (2, b) :: st).map (av z) = _; rw [List.map_append, List.map_reverse, List.map_cons, hrf]) (lv_room (by omega)) hdg ⟨by omega, by omega⟩
theorem aw_callIN {M : AMM} {d mc ms : Nat} {K : AO → Nat → AH → Prop} {n pc : Nat} {ls st : List AV} {h : AH} (d' mc' ms' : Nat) {Y : AMM} {np idx : Nat} {as st0 : List AV} (hdg : decode M.2.1 pc = .ok (.invokespecial idx, 3)) (hy : am_yw Y np) (hlk : (M.1.cls, idx, Y.1) ∈ am_NW) (hin : Cond.instanceMethod Y.1 ∈ am_WS) (hini : Y.1.name = "<init>") (hrn : Y.2.2.2.1 = none) {b : Int} {ci N : Nat} {T : u_T} (hci : vwCl[ci]? = some (Y.1.cls, T, N)) (hb : am_at n b ci) (hn : as.length = np) (hs : st0 = as.reverse ++ (2, b) :: st) (hd : d' + 1 ≤ d ∧ mc' ≤ mc ∧ ms' ≤ ms ∧ am_c8 st ≤ 8) (k : AC Y d' mc' ms' n ((2, b) :: as) h (am_cont M d (mc - mc') (ms - ms') K pc (pc + 3) ls st)) : AW M d mc ms K n pc ls st0 h := by
  subst hs
  intro z p l e R s m args below meth c H locs cells slots MC MS la X
  obtain ⟨C, G, hS, hW, hI, hls, hst, hL, b1, b2, b3, b4⟩ := X
  have hts := C.2.2.2.2.1
  obtain ⟨hd1, hd2, hd3, hd4⟩ := hd
  have hrs : am_oks st := fun v hv => hst v (by simp [hv])
  have has : am_oks ((2, b) :: as) := fun v hv => hst v (by simp at hv ⊢; first | exact Or.inl hv | (rcases hv with q | q; exact Or.inr (Or.inl q); exact Or.inl q))
  refine am_call (a := #[]) hd2 hd3 ⟨C, G, hS, hW, hI, hls, hrs, hL, b1, b2, b3, b4⟩ (fun _ _ _ q => q) ?_
  have hM := k has hI z l C.2.2.2.2.2.2.2.1
  have h8 := am_cat8 G.2.1 st
  have hb9 := hb.2.1
  have hn9 := hW.2.2
  have hrf : av z (2, b) = .ref (z.2.2.1 + b.toNat) := av_ref z hb.1 (by omega)
  have hMe : ((((2, b) : AV) :: as).map (av z)) = .ref (z.2.2.1 + b.toNat) :: as.map (av z) := by rw [List.map_cons, hrf]
  rw [hMe] at hM
  obtain ⟨r0, hr0, cell, q1, q2, q3, q4⟩ := am_obj hW hb
  cases hr0.symm.trans hci
  obtain ⟨-, hfc, -⟩ := G.1.1 _ _ hci
  exact vx_runIN (b := z.2.2.1 + b.toNat) (As := as.map (av z)) (rest := st.map (av z)) ⟨C.1, C.2.1, C.2.2.1, C.2.2.2.1, hts⟩ hM ⟨(by have h9 : va_CN R s args M.1.cls idx Y.1 "FleetSheet" Y.2.1 Y.2.2.1 Y.2.2.2.1 (am_ws Y) (am_rm d' mc' ms') mc' ms' np := ⟨⟨rfl, rfl, by show d' + 1 ≤ R.frames; have := C.2.2.2.2.2.2.2.2.2.1; omega, by show 8 + (Y.2.2.1 + 11) + 60 * d' ≤ R.locals; have := C.2.2.2.2.2.2.2.2.2.2.1; have := hy.2.2.2.2.2; omega, am_goodY hy hts, by rw [← am_hd0 hy.1]; exact List.mem_cons_self⟩, hts _ hy.2.1, hts _ hy.2.2.1, hy.2.2.2.1, am_np hy, va_Nw.use rfl ((am_Gx G).1 _ hlk)⟩; rw [hrn] at h9; exact h9), hini, hts _ hin⟩ ⟨(by have h9 := am_blind z n ((2, b) :: as) h; unfold am_Pc at h9; rw [hMe] at h9; exact h9), fun U hU hWU => ⟨rfl, am_G.go G hWU (by rw [hU]; exact hS.1) (fun q h1 h2 => by rw [hU]; exact hS.2.1 q h1 h2), by rw [hU]; exact hW⟩⟩ rfl (by rw [List.length_map]; exact hn) hL.1 (by show (as.reverse ++ (2, b) :: st).map (av z) = _; rw [List.map_append, List.map_reverse, List.map_cons, hrf]) (lv_room (by omega)) hdg ⟨by omega, by omega⟩
def am_fs (as : List AV) : List AV := as.flatMap (fun v => if v.1 = 1 ∨ v.1 = 4 then [v, (9, 0)] else [v])
def am_en (as : List AV) (nL : Nat) : List AV := am_fs as ++ List.replicate (nL - (am_fs as).length) (9, 0)
theorem am_sl {z : AMZ} (hr : ∀ k, (z.2.2.2.1 k).category = 1) : ∀ (as : List AV), (lg_sl (as.map (av z))).length = (am_fs as).length ∧ ∀ (i : Nat) (v : AV), (am_fs as)[i]? = some v → v.1 ≠ 9 → (lg_sl (as.map (av z)))[i]? = some (.val (av z v))
  | [] => ⟨rfl, fun i v h => by simp [am_fs] at h⟩
  | u :: as => by
    obtain ⟨h1, h2⟩ := am_sl hr as
    have hc := am_catv hr u
    by_cases hu : u.1 = 1 ∨ u.1 = 4
    · rw [if_pos hu] at hc
      have e1 : am_fs (u :: as) = u :: (9, 0) :: am_fs as := by simp [am_fs, hu]
      have e2 : lg_sl ((u :: as).map (av z)) = .val (av z u) :: .second :: lg_sl (as.map (av z)) := by simp [lg_sl, hc]
      rw [e1, e2]
      refine ⟨by simp [h1], fun i v hv h9 => ?_⟩
      match i with
      | 0 => simp at hv ⊢; rw [hv]
      | 1 => simp at hv; rw [← hv] at h9; exact absurd rfl h9
      | i + 2 => simp at hv ⊢; exact h2 i v hv h9
    · rw [if_neg hu] at hc
      have e1 : am_fs (u :: as) = u :: am_fs as := by simp [am_fs, hu]
      have e2 : lg_sl ((u :: as).map (av z)) = .val (av z u) :: lg_sl (as.map (av z)) := by simp [lg_sl, hc]
      rw [e1, e2]
      refine ⟨by simp [h1], fun i v hv h9 => ?_⟩
      match i with
      | 0 => simp at hv ⊢; rw [hv]
      | i + 1 => simp at hv ⊢; exact h2 i v hv h9
theorem am_Len {z : AMZ} (hr : ∀ k, (z.2.2.2.1 k).category = 1) {as : List AV} {nL : Nat} (hl : (am_fs as).length ≤ nL) : am_L z nL (am_en as nL) ((lg_sl (as.map (av z)) ++ List.replicate (nL - (lg_sl (as.map (av z))).length) Slot.unset).toArray) := by
  obtain ⟨h1, h2⟩ := am_sl hr as
  have hv := lv_entry (as.map (av z)) (n := nL) (by omega)
  refine ⟨hv.1, hv.2.1, fun i v hi h9 => ?_⟩
  unfold am_en at hi
  rw [List.getElem?_append] at hi
  split at hi
  · have := h2 i v hi h9
    simp only [List.getElem?_toArray]
    rw [List.getElem?_append_left (by omega)]
    exact this
  · rw [List.getElem?_replicate] at hi
    split at hi
    · cases hi; exact absurd rfl h9
    · cases hi
theorem am_oksen {as : List AV} {nL : Nat} (h : am_oks as) : am_oks (am_en as nL) := by
  intro v hv
  rcases List.mem_append.mp hv with q | q
  · obtain ⟨u, hu, hv2⟩ := List.mem_flatMap.mp q
    split at hv2
    · simp at hv2
      rcases hv2 with e | e
      · rw [e]; exact h u hu
      · rw [e]; exact am_ok9 0
    · simp at hv2
      rw [hv2]; exact h u hu
  · rw [(List.mem_replicate.mp q).2]
    exact am_ok9 0
theorem vx_ofF {l : Launch} {y : MethodName} {ws ws' : List Cond} {rm : Room} {Pc : Array Value → State → Prop} {Qc : Array Value → State → Outcome → State → Prop} {XC : String → State → State → Prop} {mc ms : Nat} {free : Addr → Prop} {cc : ByteArray} {maxL : Nat} {ret : Option FieldType}
    (hy : plainFor y = true) (hw : ws = Cond.code y cc maxL ret :: ws')
    (body : ∀ p e s m args below meth c s₁, BodyLoose p l y (headSpec ws rm) cc maxL ret e s m args below meth c s₁ → c.maxLocals = maxL → (∀ x ∈ c.exceptionTable.toList, False) → Pc args s →
      W p l e (headSpec ws rm).room s m args below meth c s.heap [] 0 0 (vx_MQ below Qc XC args s mc ms free) (entryFrame m args maxL)) : vx_Met l y ws rm Pc Qc XC mc ms free := by
  refine MetFree.of_bodySF (code := cc) (maxLocals := maxL) (ret := ret) hy ?_ ?_
  · intro args s m h hn
    obtain ⟨meth, c, h1, h2, h3, h4, h5, h6, -, -⟩ := Cond.code_spec hn (atoms_spec (ws := ws) h _ (by rw [hw]; exact List.mem_cons_self))
    exact ⟨meth, c, h1, h2, h3, h4, h5, h6⟩
  · intro p e s m args below meth c s₁ B hml hP _
    have hh0 : s₁.heap = s.heap := by rw [B.state]; rfl
    have hno : ∀ x ∈ c.exceptionTable.toList, False := by
      obtain ⟨meth9, c9, h1, h2, -, -, -, -, h7, -⟩ := Cond.code_spec B.named (atoms_spec (ws := ws) B.pre _ (by rw [hw]; exact List.mem_cons_self))
      cases Option.some.inj (h1.symm.trans B.method)
      cases Option.some.inj (h2.symm.trans (Stand.of_body B).code)
      intro x hx
      rw [Array.isEmpty_iff.mp h7] at hx
      cases hx
    obtain ⟨t, a1, o, b1, b2, b3⟩ := body p e s m args below meth c s₁ B hml hno hP s₁ hh0 (Stand.of_body B)
    exact ⟨t, o, a1, b1, b2, b3⟩
/-- a call is the walk of the body from its entry -/
theorem ac_ofF {M : AMM} {d mc ms n : Nat} {as ls : List AV} {h : AH} {K : AO → Nat → AH → Prop} (hy : plainFor M.1 = true) (hh : M.2.2.2.2 = []) (hl : (am_fs as).length ≤ M.2.2.1) (he : am_en as M.2.2.1 = ls) (k : AW M d mc ms K n 0 ls [] h) : AC M d mc ms n as h K := by
  intro hok hI z l hl2
  subst he
  refine vx_ofF (cc := M.2.1) (maxL := M.2.2.1) (ret := M.2.2.2.1) (ws' := am_WS) hy (by unfold am_ws; rw [am_hd0 hh]) ?_
  intro p e s m args below meth c s₁ B hml hno hv
  obtain ⟨rfl, hG, hW⟩ := hv
  rw [lg_entry_eq]
  have hts : ∀ w ∈ am_WS, w.before _ s = true := fun w hw => atoms_spec (ws := am_ws M) B.pre w (List.mem_cons_of_mem _ hw)
  have htab : c.exceptionTable.toList = tableOf M.2.2.2.2 := by
    rw [hh]
    cases hq : c.exceptionTable.toList with
    | nil => rfl
    | cons x l => exact (hno x (by rw [hq]; exact List.mem_cons_self)).elim
  exact k z p l e _ s m _ below meth c s.heap [] 0 0 mc ms _ ⟨⟨B.exec, B.bytes, hml, findClass_of_methodNamed B.named, hts, B.returns, B.notSynchronized, hl2, htab, Nat.le_refl _, Nat.le_refl _, (name_of_methodNamed B.named B.method).1⟩, hG, va_S.rf, hW, hI, am_oksen hok, am_nil, am_Len hG.2.1 hl, by omega, by omega, Nat.le_refl _, Nat.le_refl _⟩
theorem ac_of {M : AMM} {d mc ms n : Nat} {as ls : List AV} {h : AH} {K : AO → Nat → AH → Prop} (hy : plainName M.1.cls = true) (hh : M.2.2.2.2 = []) (hl : (am_fs as).length ≤ M.2.2.1) (he : am_en as M.2.2.1 = ls) (k : AW M d mc ms K n 0 ls [] h) : AC M d mc ms n as h K := ac_ofF (plainFor_of_name hy) hh hl he k
theorem AW.mono {M : AMM} {d mc ms n pc : Nat} {ls st : List AV} {h : AH} {K K' : AO → Nat → AH → Prop} (hK : ∀ o n h, K o n h → K' o n h) (k : AW M d mc ms K n pc ls st h) : AW M d mc ms K' n pc ls st h := by
  intro z p l e R s m args below meth c H locs cells slots MC MS la X T hT X2
  obtain ⟨t, a1, o, b1, b2, b3⟩ := k z p l e R s m args below meth c H locs cells slots MC MS la X T hT X2
  refine ⟨t, a1, o, b1, b2, ?_⟩
  rcases b3 with ⟨⟨r, n', h', q1, q2⟩, q3⟩ | ⟨q, e0, E, ce, L, ⟨n', h', q1, q2⟩, q3⟩
  · exact Or.inl ⟨⟨r, n', h', hK _ _ _ q1, q2⟩, q3⟩
  · exact Or.inr ⟨q, e0, E, ce, L, ⟨n', h', hK _ _ _ q1, q2⟩, q3⟩
