/-! rows of the law: as the others, with the script told -/
def AZ (qz : Nat × (Nat → Int)) (M : AMM) (d mc ms : Nat) (K : AO → Nat → AH → Prop) (n pc : Nat) (ls st : List AV) (h : AH) : Prop :=
  ∀ (z : AMZ), z.2.2.2.2 = qz → ∀ (p : Program) (l : Launch) (e : Env) (R : Room) (s : State) (m : MethodId) (args : Array Value) (below : List Frame) (meth : Method) (c : Code) (H : Heap) (locs : List Loc) (cells slots MC MS : Nat) (la : Array Slot),
    va_AO "FleetSheet$Sheet" s → am_S M d mc ms n ls st h z p l R s m args meth c H locs cells slots MC MS la →
    W p l e R s m args below meth c H locs cells slots (vx_MQ below (am_Q z K) (am_X z K) args s MC MS (am_A z)) (F0 m pc la (st.map (av z)))
def az_cont (qz : Nat × (Nat → Int)) (M : AMM) (d mc ms : Nat) (K : AO → Nat → AH → Prop) (pc nx : Nat) (ls rest : List AV) : AO → Nat → AH → Prop := fun o n h => match o with
  | .inl r => AZ qz M d mc ms K n nx ls (r.toList ++ rest) h
  | .inr _ => False
theorem az_call {qz : Nat × (Nat → Int)} {M : AMM} {d mc ms mc' ms' : Nat} {K K' : AO → Nat → AH → Prop} {n pc : Nat} {ls rest : List AV} {h : AH} {z : AMZ} (hz : z.2.2.2.2 = qz) {p : Program} {l : Launch} {e : Env} {R : Room} {s : State} {m : MethodId} {args a : Array Value} {below : List Frame} {meth : Method} {c : Code} {H : Heap} {locs : List Loc} {cells slots MC MS : Nat} {la : Array Slot} {st0 : List Value}
    (ao : va_AO "FleetSheet$Sheet" s) (hmc : mc' ≤ mc) (hms : ms' ≤ ms) (X : am_S M d mc ms n ls rest h z p l R s m args meth c H locs cells slots MC MS la) (hK : ∀ o n h, K' o n h → az_cont qz M d (mc - mc') (ms - ms') K pc (pc + 3) ls rest o n h)
    (hr : vx_Run p l e R s m args below meth c H locs cells slots mc' ms' (F0 m pc la st0) (rest.map (av z)) (am_Q z K' a) (am_X z K') (am_A z)) :
    W p l e R s m args below meth c H locs cells slots (vx_MQ below (am_Q z K) (am_X z K) args s MC MS (am_A z)) (F0 m pc la st0) := by
  obtain ⟨C, G, hS, hW, hI, hls, hst, hL, b1, b2, b3, b4⟩ := X
  intro T hT X
  rcases hr T hT X with ⟨v, st₀, t, T', L, h0, X', hL2, e1, e2, ⟨r, n', h', hk, hv, hok, hI', hW', hF⟩, st⟩ | ⟨q, st₀, t, T', L, E, ce, h0, X', hL2, e1, e2, ⟨n', h', hk, hI', hW', hF⟩, hce, hcv, hcl, st⟩
  · cases hv
    obtain ⟨k1, k2, k3⟩ := vx_keep h0 e1 hS (fun _ _ h => h) (fun _ h => h) hL2 hF
    have hgo := hK _ _ _ hk z hz p l e R s m args below meth c T'.heap (locs ++ L) (cells + mc') (slots + ms') MC MS la ao ⟨C, G, k3, by rw [e1]; exact hW', hI', hls, (by
      cases r with
      | none => exact hst
      | some v => exact am_oksc (hok v rfl) hst), hL, by omega, by omega, b3, b4⟩ T' rfl X'
    obtain ⟨t2, a1, b1⟩ := hgo
    refine ⟨t2, st t2 ?_, b1⟩
    cases r with
    | none => exact a1
    | some v => exact a1
  · exact (hK _ _ _ hk).elim
theorem zaw_aload_n {qz : Nat × (Nat → Int)} {M : AMM} {d mc ms : Nat} {K : AO → Nat → AH → Prop} {n pc : Nat} {ls st : List AV} {h : AH} {x : Int} {kf : Fin 4} (h0 : 0 ≤ x) (hx : x < 1000) (hdg : decode M.2.1 pc = .ok (.aload_n kf, 1)) (hv : ls[(kf : Nat)]? = some (2, x)) (k : AZ qz M d mc ms K n (pc + 1) ls ((2, x) :: st) h) : AZ qz M d mc ms K n pc ls st h := by
  intro z hz p l e R s m args below meth c H locs cells slots MC MS la ao X
  obtain ⟨C, G, hS, hW, hI, hls, hst, hL, b1, b2, b3, b4⟩ := X
  have h1 : la[(kf : Nat)]? = some (.val (av z (2, x))) := hL.at hv (by decide : ¬ (2 : Nat) = 9)
  have hgo : W p l e R s m args below meth c H locs cells slots (vx_MQ below (am_Q z K) (am_X z K) args s MC MS (am_A z)) (F0 m (pc + 1) la (av z (2, x) :: st.map (av z))) := k z hz p l e R s m args below meth c H locs cells slots MC MS la ao ⟨C, G, hS, hW, hI, hls, am_oksc (am_ok2 x) hst, hL, b1, b2, b3, b4⟩
  rw [av_ref z h0 hx] at h1 hgo
  exact lv_aload_n C.1 C.2.1 hdg rfl h1 hgo
theorem za_al0 {qz : Nat × (Nat → Int)} {d mc ms : Nat} {M : AMM} {K : AO → Nat → AH → Prop} {n pc : Nat} {t st : List AV} {h : AH} {x : Int} (hx : 0 ≤ x ∧ x < 1000) (hdg : decode M.2.1 pc = .ok (.aload_n 0, 1)) (k : AZ qz M d mc ms K n (pc + 1) ((2, x) :: t) ((2, x) :: st) h) : AZ qz M d mc ms K n pc ((2, x) :: t) st h := zaw_aload_n hx.1 hx.2 hdg rfl k
theorem zaw_objinit {qz : Nat × (Nat → Int)} {M : AMM} {d mc ms : Nat} {K : AO → Nat → AH → Prop} {n pc : Nat} {ls st : List AV} {h : AH} {x : Int} {idx : Nat} (hdg : decode M.2.1 pc = .ok (.invokespecial idx, 3)) (hx : 0 ≤ x ∧ x < 1000) (hw : Cond.methodLink M.1.cls idx Lib.objectInit ∈ am_WS ∧ Cond.instanceMethod Lib.objectInit ∈ am_WS ∧ Cond.code Lib.objectInit ⟨#[0xb1]⟩ 1 none ∈ am_WS) (hd : 1 ≤ d ∧ am_c8 st ≤ 8) (k : AZ qz M d mc ms K n (pc + 3) ls st h) : AZ qz M d mc ms K n pc ls ((2, x) :: st) h := by
  intro z hz p l e R s m args below meth c H locs cells slots MC MS la ao X
  obtain ⟨C, G, hS, hW, hI, hls, hst, hL, b1, b2, b3, b4⟩ := X
  have hts := C.2.2.2.2.1
  have h8 := am_cat8 G.2.1 st
  show W p l e R s m args below meth c H locs cells slots (vx_MQ below (am_Q z K) (am_X z K) args s MC MS (am_A z)) (F0 m pc la (av z (2, x) :: st.map (av z)))
  rw [av_ref z hx.1 hx.2]
  exact W.objInit C.1 C.2.1 C.2.2.2.1 (hts _ hw.1) (hts _ hw.2.1) (hts _ hw.2.2) rfl (hL.1.trans C.2.2.1.symm) rfl hdg (by have := C.2.2.2.2.2.2.2.2.2.1; omega) (by show 2 * 0 + _ + 12 ≤ _; have := C.2.2.2.2.2.2.2.2.2.2.1; omega) (k z hz p l e R s m args below meth c H locs cells slots MC MS la ao ⟨C, G, hS, hW, hI, hls, am_okst hst, hL, b1, b2, b3, b4⟩)
theorem zaw_iload_n {qz : Nat × (Nat → Int)} {M : AMM} {d mc ms : Nat} {K : AO → Nat → AH → Prop} {n pc : Nat} {ls st : List AV} {h : AH} {x : Int} {kf : Fin 4} (hdg : decode M.2.1 pc = .ok (.iload_n kf, 1)) (hv : ls[(kf : Nat)]? = some (0, x)) (k : AZ qz M d mc ms K n (pc + 1) ls ((0, x) :: st) h) : AZ qz M d mc ms K n pc ls st h := by
  intro z hz p l e R s m args below meth c H locs cells slots MC MS la ao X
  obtain ⟨C, G, hS, hW, hI, hls, hst, hL, b1, b2, b3, b4⟩ := X
  refine lv_iload_n C.1 C.2.1 hdg rfl (show la[(kf : Nat)]? = some (.val (.int (Int32.ofInt x))) from hL.at hv (by decide : ¬ (0 : Nat) = 9)) ?_
  exact k z hz p l e R s m args below meth c H locs cells slots MC MS la ao ⟨C, G, hS, hW, hI, hls, am_oksc (hls _ (List.mem_of_getElem? hv)) hst, hL, b1, b2, b3, b4⟩
theorem za_il1 {qz : Nat × (Nat → Int)} {d mc ms : Nat} {M : AMM} {K : AO → Nat → AH → Prop} {n pc : Nat} {v0 : AV} {t st : List AV} {h : AH} {x : Int} (hdg : decode M.2.1 pc = .ok (.iload_n 1, 1)) (k : AZ qz M d mc ms K n (pc + 1) (v0 :: (0, x) :: t) ((0, x) :: st) h) : AZ qz M d mc ms K n pc (v0 :: (0, x) :: t) st h := zaw_iload_n hdg rfl k
theorem za_il2 {qz : Nat × (Nat → Int)} {d mc ms : Nat} {M : AMM} {K : AO → Nat → AH → Prop} {n pc : Nat} {v0 v1 : AV} {t st : List AV} {h : AH} {x : Int} (hdg : decode M.2.1 pc = .ok (.iload_n 2, 1)) (k : AZ qz M d mc ms K n (pc + 1) (v0 :: v1 :: (0, x) :: t) ((0, x) :: st) h) : AZ qz M d mc ms K n pc (v0 :: v1 :: (0, x) :: t) st h := zaw_iload_n hdg rfl k
theorem zaw_istore_n {qz : Nat × (Nat → Int)} {M : AMM} {d mc ms : Nat} {K : AO → Nat → AH → Prop} {n pc : Nat} {ls st : List AV} {h : AH} {x : Int} {kf : Fin 4} (hdg : decode M.2.1 pc = .ok (.istore_n kf, 1)) (hl : ls.length = M.2.2.1) (hi : (kf : Nat) < M.2.2.1) (h2 : am_n2at ls (kf : Nat) = true) (k : AZ qz M d mc ms K n (pc + 1) (ls.set (kf : Nat) (0, x)) st h) : AZ qz M d mc ms K n pc ls ((0, x) :: st) h := by
  intro z hz p l e R s m args below meth c H locs cells slots MC MS la ao X
  obtain ⟨C, G, hS, hW, hI, hls, hst, hL, b1, b2, b3, b4⟩ := X
  refine lv_istore_n C.1 C.2.1 hdg rfl hL.has (by omega) rfl (fun la2 hla2 => ?_)
  exact k z hz p l e R s m args below meth c H locs cells slots MC MS la2 ao ⟨C, G, hS, hW, hI, am_oks_set hls (am_oksh hst), am_okst hst, am_L.store1 G.2.1 hl h2 hla2, b1, b2, b3, b4⟩
theorem za_is2 {qz : Nat × (Nat → Int)} {d mc ms : Nat} {M : AMM} {K : AO → Nat → AH → Prop} {n pc : Nat} {v0 v1 : AV} {t st : List AV} {h : AH} {x : Int} {u : AV} (hl : (v0 :: v1 :: u :: t).length = M.2.2.1) (h2 : am_n2 v1 = true) (hdg : decode M.2.1 pc = .ok (.istore_n 2, 1)) (k : AZ qz M d mc ms K n (pc + 1) (v0 :: v1 :: (0, x) :: t) st h) : AZ qz M d mc ms K n pc (v0 :: v1 :: u :: t) ((0, x) :: st) h := zaw_istore_n hdg hl (by rw [← hl]; simp only [List.length_cons]; show 2 < _; omega) h2 k
theorem zaw_mmax {qz : Nat × (Nat → Int)} {M : AMM} {d mc ms : Nat} {K : AO → Nat → AH → Prop} {n pc : Nat} {ls st : List AV} {h : AH} {a b : Int} {idx : Nat} (hdg : decode M.2.1 pc = .ok (.invokestatic idx, 3)) (hw : Cond.methodLink M.1.cls idx Lib.Math.max.name ∈ am_WS ∧ Cond.static Lib.Math.max.name ∈ am_WS ∧ Cond.initialized "java/lang/Math" ∈ am_WS ∧ Cond.code Lib.Math.max.name Lib.Math.max.code 2 (some .int) ∈ am_WS) (hd : 1 ≤ d ∧ am_c8 st ≤ 8) (k : AZ qz M d mc ms K n (pc + 3) ls ((0, if a < b then b else a) :: st) h) : AZ qz M d mc ms K n pc ls ((0, b) :: (0, a) :: st) h := by
  intro z hz p l e R s m args below meth c H locs cells slots MC MS la ao X
  obtain ⟨C, G, hS, hW, hI, hls, hst, hL, b1, b2, b3, b4⟩ := X
  have hts := C.2.2.2.2.1
  have ra := (am_oksh (am_okst hst)).1 rfl
  have rb := (am_oksh hst).1 rfl
  dsimp only at ra rb
  have h8 := am_cat8 G.2.1 st
  have hgo : W p l e R s m args below meth c H locs cells slots (vx_MQ below (am_Q z K) (am_X z K) args s MC MS (am_A z)) (F0 m (pc + 3) la (.int (Int32.ofInt (if a < b then b else a)) :: st.map (av z))) := k z hz p l e R s m args below meth c H locs cells slots MC MS la ao ⟨C, G, hS, hW, hI, hls, am_oksc (am_ok0 (by split <;> omega) (by split <;> omega)) (am_okst (am_okst hst)), hL, b1, b2, b3, b4⟩
  have hv : Int32.ofInt (if a < b then b else a) = (if Int32.ofInt a < Int32.ofInt b then Int32.ofInt b else Int32.ofInt a) := by
    by_cases q : a < b
    · rw [if_pos q, if_pos ((am_lt ra rb).mpr q)]
    · rw [if_neg q, if_neg (fun x => q ((am_lt ra rb).mp x))]
  rw [hv] at hgo
  exact va_mmax C.1 C.2.1 (C.2.2.1.trans hL.1.symm) C.2.2.2.1 (hts _ hw.1) (hts _ hw.2.1) (hts _ hw.2.2.1) (hts _ hw.2.2.2) (by have := C.2.2.2.2.2.2.2.2.2.1; omega) (by have := C.2.2.2.2.2.2.2.2.2.2.1; omega) (by omega) (by omega) hdg hgo
theorem zaw_alen {qz : Nat × (Nat → Int)} {M : AMM} {d mc ms : Nat} {K : AO → Nat → AH → Prop} {n pc : Nat} {ls st : List AV} {h : AH} {b : Int} {kd len : Nat} (hl : len < 2147483648) (hdg : decode M.2.1 pc = .ok (.arraylength, 1)) (hb : am_ar n b kd len) (hkd : kd = 100 ∨ kd = 110 ∨ kd = 101 ∨ kd = 102) (k : AZ qz M d mc ms K n (pc + 1) ls ((0, len) :: st) h) : AZ qz M d mc ms K n pc ls ((2, b) :: st) h := by
  intro z hz p l e R s m args below meth c H locs cells slots MC MS la ao X
  obtain ⟨C, G, hS, hW, hI, hls, hst, hL, b1, b2, b3, b4⟩ := X
  have hc := am_arr hW hb
  have hgo : W p l e R s m args below meth c H locs cells slots (vx_MQ below (am_Q z K) (am_X z K) args s MC MS (am_A z)) (F0 m (pc + 1) la (.int (Int32.ofInt len) :: st.map (av z))) := k z hz p l e R s m args below meth c H locs cells slots MC MS la ao ⟨C, G, hS, hW, hI, hls, am_oksc (am_ok0 (by omega) (by omega)) (am_okst hst), hL, b1, b2, b3, b4⟩
  show W p l e R s m args below meth c H locs cells slots (vx_MQ below (am_Q z K) (am_X z K) args s MC MS (am_A z)) (F0 m pc la (av z (2, b) :: st.map (av z)))
  rw [av_ref z hb.1 (by have := hb.2.1; have := hW.2.2; omega)]
  have hn : (arrV (z.2.1 kd) len (fun j => av z (kd % 10, h b j))).slots.size.toInt32 = Int32.ofInt len := by rw [arrV_size, Int32.ofInt_eq_ofNat]
  rcases hkd with rfl | rfl | rfl | rfl
  · exact W.alen C.1 C.2.1 hc (am_tyat G (t := 0) rfl _ _) hn rfl rfl hdg hgo
  · exact W.alen C.1 C.2.1 hc (am_tyat G (t := 1) rfl _ _) hn rfl rfl hdg hgo
  · exact W.alen C.1 C.2.1 hc (am_tyat G (t := 2) rfl _ _) hn rfl rfl hdg hgo
  · exact W.alen C.1 C.2.1 hc (am_tyat G (t := 4) rfl _ _) hn rfl rfl hdg hgo
theorem zaw_icmp_ge {qz : Nat × (Nat → Int)} {M : AMM} {d mc ms : Nat} {K : AO → Nat → AH → Prop} {n pc : Nat} {ls st : List AV} {h : AH} {a b off : Int} (tgt : Nat) (hdg : decode M.2.1 pc = .ok (.if_icmp .ge off, 3)) (ht : (pc : Int) + off = (tgt : Int)) (kt : b ≤ a → AZ qz M d mc ms K n tgt ls st h) (kf : ¬ (b ≤ a) → AZ qz M d mc ms K n (pc + 3) ls st h) : AZ qz M d mc ms K n pc ls ((0, b) :: (0, a) :: st) h := by
  intro z hz p l e R s m args below meth c H locs cells slots MC MS la ao X
  obtain ⟨C, G, hS, hW, hI, hls, hst, hL, b1, b2, b3, b4⟩ := X
  have ra := (am_oksh (am_okst hst)).1 rfl
  have rb := (am_oksh hst).1 rfl
  dsimp only at ra rb
  refine lv_icmp_ge C.1 C.2.1 hdg ht (fun q => ?_) (fun q => ?_)
  · exact kt ((am_le rb ra).mp q) z hz p l e R s m args below meth c H locs cells slots MC MS la ao ⟨C, G, hS, hW, hI, hls, am_okst (am_okst hst), hL, b1, b2, b3, b4⟩
  · exact kf (fun x => q ((am_le rb ra).mpr x)) z hz p l e R s m args below meth c H locs cells slots MC MS la ao ⟨C, G, hS, hW, hI, hls, am_okst (am_okst hst), hL, b1, b2, b3, b4⟩
theorem zaw_iinc {qz : Nat × (Nat → Int)} {M : AMM} {d mc ms : Nat} {K : AO → Nat → AH → Prop} {n pc : Nat} {ls st : List AV} {h : AH} {x a : Int} {i : Nat} (hdg : decode M.2.1 pc = .ok (.iinc i a, 3)) (hl : ls.length = M.2.2.1) (hi : i < M.2.2.1) (h2 : am_n2at ls i = true) (hv : ls[i]? = some (0, x)) (k : AZ qz M d mc ms K n (pc + 3) (ls.set i (0, wr (x + a))) st h) : AZ qz M d mc ms K n pc ls st h := by
  intro z hz p l e R s m args below meth c H locs cells slots MC MS la ao X
  obtain ⟨C, G, hS, hW, hI, hls, hst, hL, b1, b2, b3, b4⟩ := X
  have hm : ((i, .int (Int32.ofInt x)) : Nat × Value) ∈ am_lv z ls := am_lv_mem.mpr ⟨(0, x), hv, (by decide : ¬ (0 : Nat) = 9), rfl⟩
  obtain ⟨j, hj⟩ := List.getElem?_of_mem hm
  refine lv_iinc (v := Int32.ofInt (wr (x + a))) C.1 C.2.1 hdg hL.has hj (by rw [ofInt_wr, Int32.ofInt_add]) (by omega) rfl (fun la2 hla2 => ?_)
  exact k z hz p l e R s m args below meth c H locs cells slots MC MS la2 ao ⟨C, G, hS, hW, hI, am_oks_set hls (am_okw _), hst, am_L.store1 (v := (0, wr (x + a))) G.2.1 hl h2 hla2, b1, b2, b3, b4⟩
theorem za_ii2 {qz : Nat × (Nat → Int)} {d mc ms : Nat} {M : AMM} {K : AO → Nat → AH → Prop} {n pc : Nat} {v0 v1 : AV} {t st : List AV} {h : AH} {x a : Int} (hl : (v0 :: v1 :: (0, x) :: t).length = M.2.2.1) (h2 : am_n2 v1 = true) (hdg : decode M.2.1 pc = .ok (.iinc 2 a, 3)) (k : AZ qz M d mc ms K n (pc + 3) (v0 :: v1 :: (0, wr (x + a)) :: t) st h) : AZ qz M d mc ms K n pc (v0 :: v1 :: (0, x) :: t) st h := zaw_iinc hdg hl (by rw [← hl]; simp only [List.length_cons]; omega) h2 rfl k
theorem za_iiR2 {qz : Nat × (Nat → Int)} {d mc ms : Nat} {M : AMM} {K : AO → Nat → AH → Prop} {n pc : Nat} {v0 v1 : AV} {t st : List AV} {h : AH} {x a : Int} (hr : -2147483648 ≤ x + a ∧ x + a < 2147483648) (hl : (v0 :: v1 :: (0, x) :: t).length = M.2.2.1) (h2 : am_n2 v1 = true) (hdg : decode M.2.1 pc = .ok (.iinc 2 a, 3)) (k : AZ qz M d mc ms K n (pc + 3) (v0 :: v1 :: (0, x + a) :: t) st h) : AZ qz M d mc ms K n pc (v0 :: v1 :: (0, x) :: t) st h := za_ii2 hl h2 hdg (by rw [wr_id hr.1 hr.2]; exact k)
theorem zaw_put {qz : Nat × (Nat → Int)} {M : AMM} {d mc ms : Nat} {K : AO → Nat → AH → Prop} {n pc : Nat} {ls st : List AV} {h : AH} {b v : Int} {idx ci : Nat} (f : Int) (hdg : decode M.2.1 pc = .ok (.putfield idx, 3)) (hw : am_flp M.1.cls idx ci f .int) (hb : am_at n b ci) (ht : am_FT ci f.toNat = 0) (k : AZ qz M d mc ms K n (pc + 3) ls st (up h b f v)) : AZ qz M d mc ms K n pc ls ((0, v) :: (2, b) :: st) h := by
  intro z hz p l e R s m args below meth c H locs cells slots MC MS la ao X
  obtain ⟨C, G, hS, hW, hI, hls, hst, hL, b1, b2, b3, b4⟩ := X
  obtain ⟨h0f, Cn, T, N, ⟨hc, hin, ty0, hty, hnm, htg⟩, hf, hlk, hfin, hd⟩ := hw
  have hts := C.2.2.2.2.1
  have hap := va_apart (own := M.1.cls) hts hin ty0 hty hnm G.1 hc
  obtain ⟨r, h1, cell, q1, q2, q3, q4⟩ := am_obj hW hb
  have hr : r = (Cn, T, N) := Option.some.inj (h1.symm.trans hc)
  subst hr
  obtain ⟨hSl, hfc, kC, hkC, hkind⟩ := G.1.1 ci _ hc
  obtain ⟨cf, kf, fi, fd, hi, hsl⟩ := hSl f.toNat hf
  have hlay := hts _ (hin _ (u_in_lay hf))
  unfold u_lay at hlay
  rw [if_neg (by rw [hfin]; decide)] at hlay
  have hfst := (u_facts hfc hkC (u_lays hts hin hf) hi).1
  have h6 : k2_Sd s fd (z.1.1 ci) (.int (Int32.ofInt v)) := u_store hfc hkC hkind hlay hi hd rfl rfl
  show W p l e R s m args below meth c H locs cells slots (vx_MQ below (am_Q z K) (am_X z K) args s MC MS (am_A z)) (F0 m pc la (.int (Int32.ofInt v) :: av z (2, b) :: st.map (av z)))
  rw [av_ref z hb.1 (by have := hb.2.1; have := hW.2.2; omega)]
  refine W.putK (v := .int (Int32.ofInt v)) C.1 C.2.1 (f := fd) ⟨C.2.2.2.1, hts _ hlk, ⟨_, _, _, hi⟩, hfst⟩ (by rw [q2]; exact h6) q1 q3 (by rw [hsl]; exact k2_hasslot (q4 _ hf)) rfl rfl hdg fun H' e1 e2 e3 => ?_
  rw [hsl] at e1 ⊢
  have hok := am_oksh hst
  refine k z hz p l e R s m args below meth c H' (locs ++ [⟨z.2.2.1 + b.toNat, _⟩]) cells slots MC MS la ao ⟨C, G, hS.put e2 e3 (Nat.le_add_right _ _), ?_, am_inv_up hI hb.1 h0f (by rw [am_T_at hb, ht]; exact hok) (Or.inl (by rw [am_T_at hb, ht]; decide)), hls, am_okst (am_okst hst), hL, b1, b2, b3, b4⟩
  refine am_Wd_obj hW hb h0f h1 ⟨_, e1, q2, q3, ?_⟩ e2 e3
  rw [ht]
  exact t_set q4 hap hf _
theorem zaw_putF {qz : Nat × (Nat → Int)} {M : AMM} {d mc ms : Nat} {K : AO → Nat → AH → Prop} {n pc : Nat} {ls st : List AV} {h : AH} {b v : Int} {idx ci : Nat} {ty : FieldType} (f : Int) (hn : n < 159) (hv0 : 0 ≤ v) (hv1 : v < 1000) (hdg : decode M.2.1 pc = .ok (.putfield idx, 3)) (hw : am_flf M.1.cls idx ci f ty) (hfit : ∀ a : Nat, narrow ty (.ref a) = .ref a ∧ fits ty (.ref a) = true) (hin2 : M.1.name = "<init>") (hb : am_at n b ci) (ht : am_FT ci f.toNat = 2) (k : AZ qz M d mc ms K n (pc + 3) ls st (up h b f v)) : AZ qz M d mc ms K n pc ls ((2, v) :: (2, b) :: st) h := by
  intro z hz p l e R s m args below meth c H locs cells slots MC MS la ao X
  obtain ⟨C, G, hS, hW, hI, hls, hst, hL, b1, b2, b3, b4⟩ := X
  obtain ⟨h0f, Cn, T, N, ⟨hc, hin, ty0, hty, hnm, htg⟩, hf, hlk, hfin, hd, hown2, hdecl⟩ := hw
  have hts := C.2.2.2.2.1
  have hap := va_apart (own := M.1.cls) hts hin ty0 hty hnm G.1 hc
  obtain ⟨r, h1, cell, q1, q2, q3, q4⟩ := am_obj hW hb
  have hr : r = (Cn, T, N) := Option.some.inj (h1.symm.trans hc)
  subst hr
  obtain ⟨hSl, hfc, kC, hkC, hkind⟩ := G.1.1 ci _ hc
  obtain ⟨cf, kf, fi, fd, hi, hsl⟩ := hSl f.toNat hf
  have hlay := hts _ (hin _ (u_in_lay hf))
  unfold u_lay at hlay
  rw [if_pos hfin] at hlay
  have hfst := (u_facts hfc hkC (u_lays hts hin hf) hi).1
  have hcf : m.cls = cf := by
    obtain ⟨_, _, c', _, _, _, -, -, hf', -, -, -, hown3, -⟩ := Cond.laysFinal_spec hlay
    have e1 : c' = cf := by have := hi.symm.trans hf'; simp at this; exact this.1.symm
    rw [hdecl] at hown3
    rw [← e1]; exact Option.some.inj (C.2.2.2.1.symm.trans hown3)
  have h6 := u_fits (v := .ref (z.2.2.1 + v.toNat)) hfc hkC hkind (Or.inr hlay) hi hd (hfit _).1 (hfit _).2
  show W p l e R s m args below meth c H locs cells slots (vx_MQ below (am_Q z K) (am_X z K) args s MC MS (am_A z)) (F0 m pc la (av z (2, v) :: av z (2, b) :: st.map (av z)))
  rw [av_ref z hb.1 (by have := hb.2.1; have := hW.2.2; omega), av_ref z hv0 hv1]
  refine W.putFinK C.1 C.2.1 C.2.2.2.1 (hts _ hlk) hi hfst hcf (C.2.2.2.2.2.2.2.2.2.2.2.trans hin2) (by rw [q2]; exact h6) q1 q3 (by rw [hsl]; exact k2_hasslot (q4 _ hf)) rfl rfl hdg fun H' e1 e2 e3 => ?_
  rw [hsl] at e1 ⊢
  have hok := am_oksh hst
  refine k z hz p l e R s m args below meth c H' (locs ++ [⟨z.2.2.1 + b.toNat, _⟩]) cells slots MC MS la ao ⟨C, G, hS.put e2 e3 (Nat.le_add_right _ _), ?_, am_inv_up hI hb.1 h0f (by rw [am_T_at hb, ht]; exact hok) (Or.inr hn), hls, am_okst (am_okst hst), hL, b1, b2, b3, b4⟩
  refine am_Wd_obj hW hb h0f h1 ⟨_, e1, q2, q3, ?_⟩ e2 e3
  rw [ht, av_ref z hv0 hv1]
  exact t_set q4 hap hf _
theorem zaw_get {qz : Nat × (Nat → Int)} {M : AMM} {d mc ms : Nat} {K : AO → Nat → AH → Prop} {n pc : Nat} {ls st : List AV} {h : AH} {b : Int} {idx ci tg : Nat} (f : Int) (hdg : decode M.2.1 pc = .ok (.getfield idx, 3)) (hw : am_fl M.1.cls idx ci f) (hb : am_at n b ci) (ht : am_FT ci f.toNat = tg) (k : AZ qz M d mc ms K n (pc + 3) ls ((tg, h b f) :: st) h) : AZ qz M d mc ms K n pc ls ((2, b) :: st) h := by
  intro z hz p l e R s m args below meth c H locs cells slots MC MS la ao X
  obtain ⟨C, G, hS, hW, hI, hls, hst, hL, b1, b2, b3, b4⟩ := X
  obtain ⟨h0f, Cn, T, N, ⟨hc, hin, -⟩, hf, hlk⟩ := hw
  obtain ⟨r, h1, cell, q1, q2, q3, q4⟩ := am_obj hW hb
  have hr : r = (Cn, T, N) := Option.some.inj (h1.symm.trans hc)
  subst hr
  obtain ⟨hSl, hfc, kC, hkC, hkind⟩ := G.1.1 ci _ hc
  obtain ⟨cf, kf, fi, fd, hi, hsl⟩ := hSl f.toNat hf
  have hts := C.2.2.2.2.1
  have hfst := (u_facts hfc hkC (u_lays hts hin hf) hi).1
  have hok : am_ok (tg, h b f) := by rw [← ht, ← am_T_at hb]; exact am_okh hI hb.1 h0f
  have hgo : W p l e R s m args below meth c H locs cells slots (vx_MQ below (am_Q z K) (am_X z K) args s MC MS (am_A z)) (F0 m (pc + 3) la (av z (tg, h b f) :: st.map (av z))) := k z hz p l e R s m args below meth c H locs cells slots MC MS la ao ⟨C, G, hS, hW, hI, hls, am_oksc hok (am_okst hst), hL, b1, b2, b3, b4⟩
  show W p l e R s m args below meth c H locs cells slots (vx_MQ below (am_Q z K) (am_X z K) args s MC MS (am_A z)) (F0 m pc la (av z (2, b) :: st.map (av z)))
  rw [av_ref z hb.1 (by have := hb.2.1; have := hW.2.2; omega)]
  refine W.getf C.1 C.2.1 C.2.2.2.1 (hts _ hlk) hi hfst q1 (by rw [q3]; exact fun h => by cases h) (v := av z (tg, h b f)) ?_ rfl rfl hdg hgo
  rw [hsl, q4 _ hf]
  show some (av z (am_FT ci f.toNat, h b (f.toNat : Int))) = _
  rw [ht, Int.toNat_of_nonneg h0f]
theorem zaw_callIN {qz : Nat × (Nat → Int)} {M : AMM} {d mc ms : Nat} {K : AO → Nat → AH → Prop} {n pc : Nat} {ls st : List AV} {h : AH} (d' mc' ms' : Nat) {Y : AMM} {np idx : Nat} {as st0 : List AV} (hdg : decode M.2.1 pc = .ok (.invokespecial idx, 3)) (hy : am_yw Y np) (hlk : (M.1.cls, idx, Y.1) ∈ am_NW) (hin : Cond.instanceMethod Y.1 ∈ am_WS) (hini : Y.1.name = "<init>") (hrn : Y.2.2.2.1 = none) {b : Int} {ci N : Nat} {T : u_T} (hci : vwCl[ci]? = some (Y.1.cls, T, N)) (hb : am_at n b ci) (hn : as.length = np) (hs : st0 = as.reverse ++ (2, b) :: st) (hd : d' + 1 ≤ d ∧ mc' ≤ mc ∧ ms' ≤ ms ∧ am_c8 st ≤ 8) (k : AC Y d' mc' ms' n ((2, b) :: as) h (az_cont qz M d (mc - mc') (ms - ms') K pc (pc + 3) ls st)) : AZ qz M d mc ms K n pc ls st0 h := by
  subst hs
  intro z hz p l e R s m args below meth c H locs cells slots MC MS la ao X
  obtain ⟨C, G, hS, hW, hI, hls, hst, hL, b1, b2, b3, b4⟩ := X
  have hts := C.2.2.2.2.1
  obtain ⟨hd1, hd2, hd3, hd4⟩ := hd
  have hrs : am_oks st := fun v hv => hst v (by simp [hv])
  have has : am_oks ((2, b) :: as) := fun v hv => hst v (by simp at hv ⊢; first | exact Or.inl hv | (rcases hv with q | q; exact Or.inr (Or.inl q); exact Or.inl q))
  refine az_call hz ao (a := #[]) hd2 hd3 ⟨C, G, hS, hW, hI, hls, hrs, hL, b1, b2, b3, b4⟩ (fun _ _ _ q => q) ?_
  have hM := k has hI z l C.2.2.2.2.2.2.2.1
  have h8 := am_cat8 G.2.1 st
  have hb9 := hb.2.1
  have hn9 := hW.2.2
  have hrf : av z (2, b) = .ref (z.2.2.1 + b.toNat) := av_ref z hb.1 (by omega)
  have hMe : ((((2, b) : AV) :: as).map (av z)) = .ref (z.2.2.1 + b.toNat) :: as.map (av z) := by rw [List.map_cons, hrf]
  rw [hMe] at hM
  obtain ⟨r0, hr0, cell, q1, q2, q3, q4⟩ := am_obj hW hb
  cases hr0.symm.trans hci
  obtain ⟨-, hfc, -⟩ := G.1.1 _ _ hci
  exact vx_runIN (b := z.2.2.1 + b.toNat) (As := as.map (av z)) (rest := st.map (av z)) ⟨C.1, C.2.1, C.2.2.1, C.2.2.2.1, hts⟩ hM ⟨(by have h9 : va_CN R s args M.1.cls idx Y.1 "FleetSheet" Y.2.1 Y.2.2.1 Y.2.2.2.1 (am_ws Y) (am_rm d' mc' ms') mc' ms' np := ⟨⟨rfl, rfl, by show d' + 1 ≤ R.frames; have := C.2.2.2.2.2.2.2.2.2.1; omega, by show 8 + (Y.2.2.1 + 11) + 60 * d' ≤ R.locals; have := C.2.2.2.2.2.2.2.2.2.2.1; have := hy.2.2.2.2.2; omega, am_goodY hy hts, by rw [← am_hd0 hy.1]; exact List.mem_cons_self⟩, hts _ hy.2.1, hts _ hy.2.2.1, hy.2.2.2.1, am_np hy, va_Nw.use rfl ((am_Gx G).1 _ hlk)⟩; rw [hrn] at h9; exact h9), hini, hts _ hin⟩ ⟨(by have h9 := am_blind z n ((2, b) :: as) h; unfold am_Pc at h9; rw [hMe] at h9; exact h9), fun U hU hWU => ⟨rfl, am_G.go G hWU (by rw [hU]; exact hS.1) (fun q h1 h2 => by rw [hU]; exact hS.2.1 q h1 h2), by rw [hU]; exact hW⟩⟩ rfl (by rw [List.length_map]; exact hn) hL.1 (by show (as.reverse ++ (2, b) :: st).map (av z) = _; rw [List.map_append, List.map_reverse, List.map_cons, hrf]) (lv_room (by omega)) hdg ⟨by omega, by omega⟩
theorem zaw_vret {qz : Nat × (Nat → Int)} {M : AMM} {d mc ms : Nat} {K : AO → Nat → AH → Prop} {n pc : Nat} {ls : List AV} {h : AH} (hdg : decode M.2.1 pc = .ok (.return_, 1)) (hr : M.2.2.2.1 = none) (k : K (.inl none) n h) : AZ qz M d mc ms K n pc ls [] h := by
  intro z hz p l e R s m args below meth c H locs cells slots MC MS la ao X
  obtain ⟨C, G, hS, hW, hI, hls, hst, hL, b1, b2, b3, b4⟩ := X
  have hlk := C.2.2.2.2.2.2.1
  refine vx_ret (W.widen (k := MC) (n := MS) (by omega) (by omega) ?_)
  exact W.vret C.1 C.2.1 (C.2.2.2.2.2.1.trans hr) (fun t ht _ => ⟨none, n, h, k, rfl, fun v hv => (by cases hv), hI, ht ▸ hW, am_F hS ht⟩) hS.2.2 hdg hlk
theorem za_al1 {qz : Nat × (Nat → Int)} {d mc ms : Nat} {M : AMM} {K : AO → Nat → AH → Prop} {n pc : Nat} {v0 : AV} {t st : List AV} {h : AH} {x : Int} (hx : 0 ≤ x ∧ x < 1000) (hdg : decode M.2.1 pc = .ok (.aload_n 1, 1)) (k : AZ qz M d mc ms K n (pc + 1) (v0 :: (2, x) :: t) ((2, x) :: st) h) : AZ qz M d mc ms K n pc (v0 :: (2, x) :: t) st h := zaw_aload_n hx.1 hx.2 hdg rfl k
theorem za_al2 {qz : Nat × (Nat → Int)} {d mc ms : Nat} {M : AMM} {K : AO → Nat → AH → Prop} {n pc : Nat} {v0 v1 : AV} {t st : List AV} {h : AH} {x : Int} (hx : 0 ≤ x ∧ x < 1000) (hdg : decode M.2.1 pc = .ok (.aload_n 2, 1)) (k : AZ qz M d mc ms K n (pc + 1) (v0 :: v1 :: (2, x) :: t) ((2, x) :: st) h) : AZ qz M d mc ms K n pc (v0 :: v1 :: (2, x) :: t) st h := zaw_aload_n hx.1 hx.2 hdg rfl k
theorem za_al3 {qz : Nat × (Nat → Int)} {d mc ms : Nat} {M : AMM} {K : AO → Nat → AH → Prop} {n pc : Nat} {v0 v1 v2 : AV} {t st : List AV} {h : AH} {x : Int} (hx : 0 ≤ x ∧ x < 1000) (hdg : decode M.2.1 pc = .ok (.aload_n 3, 1)) (k : AZ qz M d mc ms K n (pc + 1) (v0 :: v1 :: v2 :: (2, x) :: t) ((2, x) :: st) h) : AZ qz M d mc ms K n pc (v0 :: v1 :: v2 :: (2, x) :: t) st h := zaw_aload_n hx.1 hx.2 hdg rfl k
theorem zaw_aload {qz : Nat × (Nat → Int)} {M : AMM} {d mc ms : Nat} {K : AO → Nat → AH → Prop} {n pc : Nat} {ls st : List AV} {h : AH} {x : Int} {i : Nat} (h0 : 0 ≤ x) (hx : x < 1000) (hdg : decode M.2.1 pc = .ok (.aload i, 2)) (hv : ls[i]? = some (2, x)) (k : AZ qz M d mc ms K n (pc + 2) ls ((2, x) :: st) h) : AZ qz M d mc ms K n pc ls st h := by
  intro z hz p l e R s m args below meth c H locs cells slots MC MS la ao X
  obtain ⟨C, G, hS, hW, hI, hls, hst, hL, b1, b2, b3, b4⟩ := X
  have h1 : la[i]? = some (.val (av z (2, x))) := hL.at hv (by decide : ¬ (2 : Nat) = 9)
  have hgo : W p l e R s m args below meth c H locs cells slots (vx_MQ below (am_Q z K) (am_X z K) args s MC MS (am_A z)) (F0 m (pc + 2) la (av z (2, x) :: st.map (av z))) := k z hz p l e R s m args below meth c H locs cells slots MC MS la ao ⟨C, G, hS, hW, hI, hls, am_oksc (am_ok2 x) hst, hL, b1, b2, b3, b4⟩
  rw [av_ref z h0 hx] at h1 hgo
  exact lv_aload C.1 C.2.1 hdg h1 hgo
theorem za_al4 {qz : Nat × (Nat → Int)} {d mc ms : Nat} {M : AMM} {K : AO → Nat → AH → Prop} {n pc : Nat} {v0 v1 v2 v3 : AV} {t st : List AV} {h : AH} {x : Int} (hx : 0 ≤ x ∧ x < 1000) (hdg : decode M.2.1 pc = .ok (.aload 4, 2)) (k : AZ qz M d mc ms K n (pc + 2) (v0 :: v1 :: v2 :: v3 :: (2, x) :: t) ((2, x) :: st) h) : AZ qz M d mc ms K n pc (v0 :: v1 :: v2 :: v3 :: (2, x) :: t) st h := zaw_aload hx.1 hx.2 hdg rfl k
theorem zaw_aloadX_n {qz : Nat × (Nat → Int)} {M : AMM} {d mc ms : Nat} {K : AO → Nat → AH → Prop} {n pc : Nat} {ls st : List AV} {h : AH} {x : Int} {kf : Fin 4} (h0 : am_or x = true) (hdg : decode M.2.1 pc = .ok (.aload_n kf, 1)) (hv : ls[(kf : Nat)]? = some (2, x)) (k : AZ qz M d mc ms K n (pc + 1) ls ((2, x) :: st) h) : AZ qz M d mc ms K n pc ls st h := by
  intro z hz p l e R s m args below meth c H locs cells slots MC MS la ao X
  obtain ⟨C, G, hS, hW, hI, hls, hst, hL, b1, b2, b3, b4⟩ := X
  have h1 : la[(kf : Nat)]? = some (.val (av z (2, x))) := hL.at hv (by decide : ¬ (2 : Nat) = 9)
  have hgo : W p l e R s m args below meth c H locs cells slots (vx_MQ below (am_Q z K) (am_X z K) args s MC MS (am_A z)) (F0 m (pc + 1) la (av z (2, x) :: st.map (av z))) := k z hz p l e R s m args below meth c H locs cells slots MC MS la ao ⟨C, G, hS, hW, hI, hls, am_oksc (am_ok2 x) hst, hL, b1, b2, b3, b4⟩
  obtain ⟨a, ha⟩ := am_rvref G h0
  rw [ha] at h1 hgo
  exact lv_aload_n C.1 C.2.1 hdg rfl h1 hgo
theorem za_alX0 {qz : Nat × (Nat → Int)} {d mc ms : Nat} {M : AMM} {K : AO → Nat → AH → Prop} {n pc : Nat} {t st : List AV} {h : AH} {x : Int} (hx : am_or x = true) (hdg : decode M.2.1 pc = .ok (.aload_n 0, 1)) (k : AZ qz M d mc ms K n (pc + 1) ((2, x) :: t) ((2, x) :: st) h) : AZ qz M d mc ms K n pc ((2, x) :: t) st h := zaw_aloadX_n hx hdg rfl k
theorem zaw_iload {qz : Nat × (Nat → Int)} {M : AMM} {d mc ms : Nat} {K : AO → Nat → AH → Prop} {n pc : Nat} {ls st : List AV} {h : AH} {x : Int} {i : Nat} (hdg : decode M.2.1 pc = .ok (.iload i, 2)) (hv : ls[i]? = some (0, x)) (k : AZ qz M d mc ms K n (pc + 2) ls ((0, x) :: st) h) : AZ qz M d mc ms K n pc ls st h := by
  intro z hz p l e R s m args below meth c H locs cells slots MC MS la ao X
  obtain ⟨C, G, hS, hW, hI, hls, hst, hL, b1, b2, b3, b4⟩ := X
  refine lv_iload C.1 C.2.1 hdg (show la[i]? = some (.val (.int (Int32.ofInt x))) from hL.at hv (by decide : ¬ (0 : Nat) = 9)) ?_
  exact k z hz p l e R s m args below meth c H locs cells slots MC MS la ao ⟨C, G, hS, hW, hI, hls, am_oksc (hls _ (List.mem_of_getElem? hv)) hst, hL, b1, b2, b3, b4⟩
theorem za_il5 {qz : Nat × (Nat → Int)} {d mc ms : Nat} {M : AMM} {K : AO → Nat → AH → Prop} {n pc : Nat} {v0 v1 v2 v3 v4 : AV} {t st : List AV} {h : AH} {x : Int} (hdg : decode M.2.1 pc = .ok (.iload 5, 2)) (k : AZ qz M d mc ms K n (pc + 2) (v0 :: v1 :: v2 :: v3 :: v4 :: (0, x) :: t) ((0, x) :: st) h) : AZ qz M d mc ms K n pc (v0 :: v1 :: v2 :: v3 :: v4 :: (0, x) :: t) st h := zaw_iload hdg rfl k
theorem za_il6 {qz : Nat × (Nat → Int)} {d mc ms : Nat} {M : AMM} {K : AO → Nat → AH → Prop} {n pc : Nat} {v0 v1 v2 v3 v4 v5 : AV} {t st : List AV} {h : AH} {x : Int} (hdg : decode M.2.1 pc = .ok (.iload 6, 2)) (k : AZ qz M d mc ms K n (pc + 2) (v0 :: v1 :: v2 :: v3 :: v4 :: v5 :: (0, x) :: t) ((0, x) :: st) h) : AZ qz M d mc ms K n pc (v0 :: v1 :: v2 :: v3 :: v4 :: v5 :: (0, x) :: t) st h := zaw_iload hdg rfl k
theorem za_il7 {qz : Nat × (Nat → Int)} {d mc ms : Nat} {M : AMM} {K : AO → Nat → AH → Prop} {n pc : Nat} {v0 v1 v2 v3 v4 v5 v6 : AV} {t st : List AV} {h : AH} {x : Int} (hdg : decode M.2.1 pc = .ok (.iload 7, 2)) (k : AZ qz M d mc ms K n (pc + 2) (v0 :: v1 :: v2 :: v3 :: v4 :: v5 :: v6 :: (0, x) :: t) ((0, x) :: st) h) : AZ qz M d mc ms K n pc (v0 :: v1 :: v2 :: v3 :: v4 :: v5 :: v6 :: (0, x) :: t) st h := zaw_iload hdg rfl k
theorem zaw_istore {qz : Nat × (Nat → Int)} {M : AMM} {d mc ms : Nat} {K : AO → Nat → AH → Prop} {n pc : Nat} {ls st : List AV} {h : AH} {x : Int} {i : Nat} (hdg : decode M.2.1 pc = .ok (.istore i, 2)) (hl : ls.length = M.2.2.1) (hi : i < M.2.2.1) (h2 : am_n2at ls i = true) (k : AZ qz M d mc ms K n (pc + 2) (ls.set i (0, x)) st h) : AZ qz M d mc ms K n pc ls ((0, x) :: st) h := by
  intro z hz p l e R s m args below meth c H locs cells slots MC MS la ao X
  obtain ⟨C, G, hS, hW, hI, hls, hst, hL, b1, b2, b3, b4⟩ := X
  refine lv_istore C.1 C.2.1 hdg hL.has (by omega) rfl (fun la2 hla2 => ?_)
  exact k z hz p l e R s m args below meth c H locs cells slots MC MS la2 ao ⟨C, G, hS, hW, hI, am_oks_set hls (am_oksh hst), am_okst hst, am_L.store1 G.2.1 hl h2 hla2, b1, b2, b3, b4⟩
theorem za_is5 {qz : Nat × (Nat → Int)} {d mc ms : Nat} {M : AMM} {K : AO → Nat → AH → Prop} {n pc : Nat} {v0 v1 v2 v3 v4 : AV} {t st : List AV} {h : AH} {x : Int} {u : AV} (hl : (v0 :: v1 :: v2 :: v3 :: v4 :: u :: t).length = M.2.2.1) (h2 : am_n2 v4 = true) (hdg : decode M.2.1 pc = .ok (.istore 5, 2)) (k : AZ qz M d mc ms K n (pc + 2) (v0 :: v1 :: v2 :: v3 :: v4 :: (0, x) :: t) st h) : AZ qz M d mc ms K n pc (v0 :: v1 :: v2 :: v3 :: v4 :: u :: t) ((0, x) :: st) h := zaw_istore hdg hl (by rw [← hl]; simp only [List.length_cons]; omega) h2 k
theorem za_is6 {qz : Nat × (Nat → Int)} {d mc ms : Nat} {M : AMM} {K : AO → Nat → AH → Prop} {n pc : Nat} {v0 v1 v2 v3 v4 v5 : AV} {t st : List AV} {h : AH} {x : Int} {u : AV} (hl : (v0 :: v1 :: v2 :: v3 :: v4 :: v5 :: u :: t).length = M.2.2.1) (h2 : am_n2 v5 = true) (hdg : decode M.2.1 pc = .ok (.istore 6, 2)) (k : AZ qz M d mc ms K n (pc + 2) (v0 :: v1 :: v2 :: v3 :: v4 :: v5 :: (0, x) :: t) st h) : AZ qz M d mc ms K n pc (v0 :: v1 :: v2 :: v3 :: v4 :: v5 :: u :: t) ((0, x) :: st) h := zaw_istore hdg hl (by rw [← hl]; simp only [List.length_cons]; omega) h2 k
theorem za_is7 {qz : Nat × (Nat → Int)} {d mc ms : Nat} {M : AMM} {K : AO → Nat → AH → Prop} {n pc : Nat} {v0 v1 v2 v3 v4 v5 v6 : AV} {t st : List AV} {h : AH} {x : Int} {u : AV} (hl : (v0 :: v1 :: v2 :: v3 :: v4 :: v5 :: v6 :: u :: t).length = M.2.2.1) (h2 : am_n2 v6 = true) (hdg : decode M.2.1 pc = .ok (.istore 7, 2)) (k : AZ qz M d mc ms K n (pc + 2) (v0 :: v1 :: v2 :: v3 :: v4 :: v5 :: v6 :: (0, x) :: t) st h) : AZ qz M d mc ms K n pc (v0 :: v1 :: v2 :: v3 :: v4 :: v5 :: v6 :: u :: t) ((0, x) :: st) h := zaw_istore hdg hl (by rw [← hl]; simp only [List.length_cons]; omega) h2 k
theorem zaw_astore_n {qz : Nat × (Nat → Int)} {M : AMM} {d mc ms : Nat} {K : AO → Nat → AH → Prop} {n pc : Nat} {ls st : List AV} {h : AH} {x : Int} {kf : Fin 4} (h0 : 0 ≤ x) (hx : x < 1000) (hdg : decode M.2.1 pc = .ok (.astore_n kf, 1)) (hl : ls.length = M.2.2.1) (hi : (kf : Nat) < M.2.2.1) (h2 : am_n2at ls (kf : Nat) = true) (k : AZ qz M d mc ms K n (pc + 1) (ls.set (kf : Nat) (2, x)) st h) : AZ qz M d mc ms K n pc ls ((2, x) :: st) h := by
  intro z hz p l e R s m args below meth c H locs cells slots MC MS la ao X
  obtain ⟨C, G, hS, hW, hI, hls, hst, hL, b1, b2, b3, b4⟩ := X
  have hst1 := hst
  have hre : av z (2, x) = .ref (z.2.2.1 + x.toNat) := av_ref z h0 hx
  have hgo : ∀ la2 : Array Slot, lv_has la2 M.2.2.1 (((kf : Nat), av z (2, x)) :: (am_lv z ls).filter (fun q => !(q.1 == (kf : Nat)) && !(q.1 + 1 == (kf : Nat) && q.2.category == 2))) → W p l e R s m args below meth c H locs cells slots (vx_MQ below (am_Q z K) (am_X z K) args s MC MS (am_A z)) (F0 m (pc + 1) la2 (st.map (av z))) := fun la2 hla2 => k z hz p l e R s m args below meth c H locs cells slots MC MS la2 ao ⟨C, G, hS, hW, hI, am_oks_set hls (am_oksh hst), am_okst hst, am_L.store1 G.2.1 hl h2 hla2, b1, b2, b3, b4⟩
  show W _ _ _ _ _ _ _ _ _ _ _ _ _ _ _ (F0 _ _ _ (av z (2, x) :: st.map (av z)))
  rw [hre] at hgo ⊢
  exact lv_astore_n C.1 C.2.1 hdg rfl hL.has (by omega) rfl hgo
theorem za_as1 {qz : Nat × (Nat → Int)} {d mc ms : Nat} {M : AMM} {K : AO → Nat → AH → Prop} {n pc : Nat} {v0 : AV} {t st : List AV} {h : AH} {x : Int} {u : AV} (hx : 0 ≤ x ∧ x < 1000) (hl : (v0 :: u :: t).length = M.2.2.1) (h2 : am_n2 v0 = true) (hdg : decode M.2.1 pc = .ok (.astore_n 1, 1)) (k : AZ qz M d mc ms K n (pc + 1) (v0 :: (2, x) :: t) st h) : AZ qz M d mc ms K n pc (v0 :: u :: t) ((2, x) :: st) h := zaw_astore_n hx.1 hx.2 hdg hl (by rw [← hl]; simp only [List.length_cons]; show 1 < _; omega) h2 k
theorem za_as2 {qz : Nat × (Nat → Int)} {d mc ms : Nat} {M : AMM} {K : AO → Nat → AH → Prop} {n pc : Nat} {v0 v1 : AV} {t st : List AV} {h : AH} {x : Int} {u : AV} (hx : 0 ≤ x ∧ x < 1000) (hl : (v0 :: v1 :: u :: t).length = M.2.2.1) (h2 : am_n2 v1 = true) (hdg : decode M.2.1 pc = .ok (.astore_n 2, 1)) (k : AZ qz M d mc ms K n (pc + 1) (v0 :: v1 :: (2, x) :: t) st h) : AZ qz M d mc ms K n pc (v0 :: v1 :: u :: t) ((2, x) :: st) h := zaw_astore_n hx.1 hx.2 hdg hl (by rw [← hl]; simp only [List.length_cons]; show 2 < _; omega) h2 k
theorem za_as3 {qz : Nat × (Nat → Int)} {d mc ms : Nat} {M : AMM} {K : AO → Nat → AH → Prop} {n pc : Nat} {v0 v1 v2 : AV} {t st : List AV} {h : AH} {x : Int} {u : AV} (hx : 0 ≤ x ∧ x < 1000) (hl : (v0 :: v1 :: v2 :: u :: t).length = M.2.2.1) (h2 : am_n2 v2 = true) (hdg : decode M.2.1 pc = .ok (.astore_n 3, 1)) (k : AZ qz M d mc ms K n (pc + 1) (v0 :: v1 :: v2 :: (2, x) :: t) st h) : AZ qz M d mc ms K n pc (v0 :: v1 :: v2 :: u :: t) ((2, x) :: st) h := zaw_astore_n hx.1 hx.2 hdg hl (by rw [← hl]; simp only [List.length_cons]; show 3 < _; omega) h2 k
theorem zaw_astore {qz : Nat × (Nat → Int)} {M : AMM} {d mc ms : Nat} {K : AO → Nat → AH → Prop} {n pc : Nat} {ls st : List AV} {h : AH} {x : Int} {i : Nat} (h0 : 0 ≤ x) (hx : x < 1000) (hdg : decode M.2.1 pc = .ok (.astore i, 2)) (hl : ls.length = M.2.2.1) (hi : i < M.2.2.1) (h2 : am_n2at ls i = true) (k : AZ qz M d mc ms K n (pc + 2) (ls.set i (2, x)) st h) : AZ qz M d mc ms K n pc ls ((2, x) :: st) h := by
  intro z hz p l e R s m args below meth c H locs cells slots MC MS la ao X
  obtain ⟨C, G, hS, hW, hI, hls, hst, hL, b1, b2, b3, b4⟩ := X
  have hst1 := hst
  have hre : av z (2, x) = .ref (z.2.2.1 + x.toNat) := av_ref z h0 hx
  have hgo : ∀ la2 : Array Slot, lv_has la2 M.2.2.1 ((i, av z (2, x)) :: (am_lv z ls).filter (fun q => !(q.1 == i) && !(q.1 + 1 == i && q.2.category == 2))) → W p l e R s m args below meth c H locs cells slots (vx_MQ below (am_Q z K) (am_X z K) args s MC MS (am_A z)) (F0 m (pc + 2) la2 (st.map (av z))) := fun la2 hla2 => k z hz p l e R s m args below meth c H locs cells slots MC MS la2 ao ⟨C, G, hS, hW, hI, am_oks_set hls (am_oksh hst), am_okst hst, am_L.store1 G.2.1 hl h2 hla2, b1, b2, b3, b4⟩
  show W _ _ _ _ _ _ _ _ _ _ _ _ _ _ _ (F0 _ _ _ (av z (2, x) :: st.map (av z)))
  rw [hre] at hgo ⊢
  exact lv_astore C.1 C.2.1 hdg hL.has (by omega) rfl hgo
theorem za_as4 {qz : Nat × (Nat → Int)} {d mc ms : Nat} {M : AMM} {K : AO → Nat → AH → Prop} {n pc : Nat} {v0 v1 v2 v3 : AV} {t st : List AV} {h : AH} {x : Int} {u : AV} (hx : 0 ≤ x ∧ x < 1000) (hl : (v0 :: v1 :: v2 :: v3 :: u :: t).length = M.2.2.1) (h2 : am_n2 v3 = true) (hdg : decode M.2.1 pc = .ok (.astore 4, 2)) (k : AZ qz M d mc ms K n (pc + 2) (v0 :: v1 :: v2 :: v3 :: (2, x) :: t) st h) : AZ qz M d mc ms K n pc (v0 :: v1 :: v2 :: v3 :: u :: t) ((2, x) :: st) h := zaw_astore hx.1 hx.2 hdg hl (by rw [← hl]; simp only [List.length_cons]; omega) h2 k
theorem zaw_iconst {qz : Nat × (Nat → Int)} {M : AMM} {d mc ms : Nat} {K : AO → Nat → AH → Prop} {n pc : Nat} {ls st : List AV} {h : AH} {x : Int} (hdg : decode M.2.1 pc = .ok (.iconst x, 1)) (hr : -2147483648 ≤ x ∧ x < 2147483648) (k : AZ qz M d mc ms K n (pc + 1) ls ((0, x) :: st) h) : AZ qz M d mc ms K n pc ls st h := by
  intro z hz p l e R s m args below meth c H locs cells slots MC MS la ao X
  obtain ⟨C, G, hS, hW, hI, hls, hst, hL, b1, b2, b3, b4⟩ := X
  refine lv_iconst C.1 C.2.1 hdg rfl ?_
  exact k z hz p l e R s m args below meth c H locs cells slots MC MS la ao ⟨C, G, hS, hW, hI, hls, am_oksc (am_ok0 hr.1 hr.2) hst, hL, b1, b2, b3, b4⟩
theorem zaw_iadd {qz : Nat × (Nat → Int)} {M : AMM} {d mc ms : Nat} {K : AO → Nat → AH → Prop} {n pc : Nat} {ls st : List AV} {h : AH} {a b : Int} (hdg : decode M.2.1 pc = .ok (.iadd, 1))  (k : AZ qz M d mc ms K n (pc + 1) ls ((0, wr (a + b)) :: st) h) : AZ qz M d mc ms K n pc ls ((0, b) :: (0, a) :: st) h := by
  intro z hz p l e R s m args below meth c H locs cells slots MC MS la ao X
  obtain ⟨C, G, hS, hW, hI, hls, hst, hL, b1, b2, b3, b4⟩ := X
  have ra := (am_oksh (am_okst hst)).1 rfl
  have rb := (am_oksh hst).1 rfl
  dsimp only at ra rb
  have hgo := k z hz p l e R s m args below meth c H locs cells slots MC MS la ao ⟨C, G, hS, hW, hI, hls, am_oksc (am_okw _) (am_okst (am_okst hst)), hL, b1, b2, b3, b4⟩
  have ev : av z (0, wr (a + b)) = .int (Int32.ofInt a + Int32.ofInt b) := by show Value.int (Int32.ofInt (wr (a + b))) = _; rw [ofInt_wr, Int32.ofInt_add]
  replace hgo : W p l e R s m args below meth c H locs cells slots (vx_MQ below (am_Q z K) (am_X z K) args s MC MS (am_A z)) (F0 m (pc + 1) la (av z (0, wr (a + b)) :: st.map (av z))) := hgo
  rw [ev] at hgo
  exact lv_iadd C.1 C.2.1 hdg hgo
theorem zaw_iaddR {qz : Nat × (Nat → Int)} {M : AMM} {d mc ms : Nat} {K : AO → Nat → AH → Prop} {n pc : Nat} {ls st : List AV} {h : AH} {a b : Int} (hr : -2147483648 ≤ a + b ∧ a + b < 2147483648) (hdg : decode M.2.1 pc = .ok (.iadd, 1)) (k : AZ qz M d mc ms K n (pc + 1) ls ((0, a + b) :: st) h) : AZ qz M d mc ms K n pc ls ((0, b) :: (0, a) :: st) h := zaw_iadd hdg (by rw [wr_id hr.1 hr.2]; exact k)
theorem zaw_isub {qz : Nat × (Nat → Int)} {M : AMM} {d mc ms : Nat} {K : AO → Nat → AH → Prop} {n pc : Nat} {ls st : List AV} {h : AH} {a b : Int} (hdg : decode M.2.1 pc = .ok (.isub, 1))  (k : AZ qz M d mc ms K n (pc + 1) ls ((0, wr (a - b)) :: st) h) : AZ qz M d mc ms K n pc ls ((0, b) :: (0, a) :: st) h := by
  intro z hz p l e R s m args below meth c H locs cells slots MC MS la ao X
  obtain ⟨C, G, hS, hW, hI, hls, hst, hL, b1, b2, b3, b4⟩ := X
  have ra := (am_oksh (am_okst hst)).1 rfl
  have rb := (am_oksh hst).1 rfl
  dsimp only at ra rb
  have hgo := k z hz p l e R s m args below meth c H locs cells slots MC MS la ao ⟨C, G, hS, hW, hI, hls, am_oksc (am_okw _) (am_okst (am_okst hst)), hL, b1, b2, b3, b4⟩
  have ev : av z (0, wr (a - b)) = .int (Int32.ofInt a - Int32.ofInt b) := by show Value.int (Int32.ofInt (wr (a - b))) = _; rw [ofInt_wr, Int32.ofInt_sub]
  replace hgo : W p l e R s m args below meth c H locs cells slots (vx_MQ below (am_Q z K) (am_X z K) args s MC MS (am_A z)) (F0 m (pc + 1) la (av z (0, wr (a - b)) :: st.map (av z))) := hgo
  rw [ev] at hgo
  exact lv_isub C.1 C.2.1 hdg hgo
theorem zaw_isubR {qz : Nat × (Nat → Int)} {M : AMM} {d mc ms : Nat} {K : AO → Nat → AH → Prop} {n pc : Nat} {ls st : List AV} {h : AH} {a b : Int} (hr : -2147483648 ≤ a - b ∧ a - b < 2147483648) (hdg : decode M.2.1 pc = .ok (.isub, 1)) (k : AZ qz M d mc ms K n (pc + 1) ls ((0, a - b) :: st) h) : AZ qz M d mc ms K n pc ls ((0, b) :: (0, a) :: st) h := zaw_isub hdg (by rw [wr_id hr.1 hr.2]; exact k)
theorem zaw_iand {qz : Nat × (Nat → Int)} {M : AMM} {d mc ms : Nat} {K : AO → Nat → AH → Prop} {n pc : Nat} {ls st : List AV} {h : AH} {a b : Int} (hdg : decode M.2.1 pc = .ok (.iand, 1))  (k : AZ qz M d mc ms K n (pc + 1) ls ((0, i_and a b) :: st) h) : AZ qz M d mc ms K n pc ls ((0, b) :: (0, a) :: st) h := by
  intro z hz p l e R s m args below meth c H locs cells slots MC MS la ao X
  obtain ⟨C, G, hS, hW, hI, hls, hst, hL, b1, b2, b3, b4⟩ := X
  have ra := (am_oksh (am_okst hst)).1 rfl
  have rb := (am_oksh hst).1 rfl
  dsimp only at ra rb
  have hgo := k z hz p l e R s m args below meth c H locs cells slots MC MS la ao ⟨C, G, hS, hW, hI, hls, am_oksc (am_ok0 (am_tI _).1 (am_tI _).2) (am_okst (am_okst hst)), hL, b1, b2, b3, b4⟩
  have ev : av z (0, i_and a b) = .int (Int32.ofInt a &&& Int32.ofInt b) := by show Value.int (Int32.ofInt (i_and a b)) = _; unfold i_and; rw [Int32.ofInt_toInt]
  replace hgo : W p l e R s m args below meth c H locs cells slots (vx_MQ below (am_Q z K) (am_X z K) args s MC MS (am_A z)) (F0 m (pc + 1) la (av z (0, i_and a b) :: st.map (av z))) := hgo
  rw [ev] at hgo
  exact lv_iand C.1 C.2.1 hdg hgo
theorem zaw_tsw_in {qz : Nat × (Nat → Int)} {M : AMM} {d mc ms : Nat} {K : AO → Nat → AH → Prop} {n pc : Nat} {ls st : List AV} {h : AH} {x dflt lo hi off : Int} {offs : Array Int} {len : Nat} (tgt : Nat) (hdg : decode M.2.1 pc = .ok (.tableswitch dflt lo hi offs, len)) (hx : lo ≤ x ∧ x ≤ hi) (ho : offs[(x - lo).toNat]? = some off) (ht : (pc : Int) + off = (tgt : Int)) (k : AZ qz M d mc ms K n tgt ls st h) : AZ qz M d mc ms K n pc ls ((0, x) :: st) h := by
  intro z hz p l e R s m args below meth c H locs cells slots MC MS la ao X
  obtain ⟨C, G, hS, hW, hI, hls, hst, hL, b1, b2, b3, b4⟩ := X
  have rx := (am_oksh hst).1 rfl
  dsimp only at rx
  have he := am_toI rx.1 rx.2
  exact lv_tableIn C.1 C.2.1 hdg (by rw [show ((0, x) : AV).2 = x from rfl, he]; omega) (by rw [show ((0, x) : AV).2 = x from rfl, he]; omega) (by rw [show ((0, x) : AV).2 = x from rfl, he]; exact ho) ht (k z hz p l e R s m args below meth c H locs cells slots MC MS la ao ⟨C, G, hS, hW, hI, hls, am_okst hst, hL, b1, b2, b3, b4⟩)
theorem zaw_tsw_out {qz : Nat × (Nat → Int)} {M : AMM} {d mc ms : Nat} {K : AO → Nat → AH → Prop} {n pc : Nat} {ls st : List AV} {h : AH} {x dflt lo hi : Int} {offs : Array Int} {len : Nat} (tgt : Nat) (hdg : decode M.2.1 pc = .ok (.tableswitch dflt lo hi offs, len)) (hx : x < lo ∨ hi < x) (ht : (pc : Int) + dflt = (tgt : Int)) (k : AZ qz M d mc ms K n tgt ls st h) : AZ qz M d mc ms K n pc ls ((0, x) :: st) h := by
  intro z hz p l e R s m args below meth c H locs cells slots MC MS la ao X
  obtain ⟨C, G, hS, hW, hI, hls, hst, hL, b1, b2, b3, b4⟩ := X
  have rx := (am_oksh hst).1 rfl
  dsimp only at rx
  have he := am_toI rx.1 rx.2
  exact lv_tableOut C.1 C.2.1 hdg (by rw [show ((0, x) : AV).2 = x from rfl, he]; exact hx) ht (k z hz p l e R s m args below meth c H locs cells slots MC MS la ao ⟨C, G, hS, hW, hI, hls, am_okst hst, hL, b1, b2, b3, b4⟩)
theorem zaw_callV {qz : Nat × (Nat → Int)} {M : AMM} {d mc ms : Nat} {K : AO → Nat → AH → Prop} {n pc : Nat} {ls st : List AV} {h : AH} (d' mc' ms' : Nat) {Y : AMM} {np idx : Nat} {as st0 : List AV} (hdg : decode M.2.1 pc = .ok (.invokevirtual idx, 3)) (hy : am_yw Y np) (hlk : Cond.methodLink M.1.cls idx Y.1 ∈ am_WS) (hin : Cond.instanceMethod Y.1 ∈ am_WS) (hsel : Cond.selects Y.1.cls Y.1 Y.1 ∈ am_WS) {b : Int} {ci N : Nat} {T : u_T} (hci : vwCl[ci]? = some (Y.1.cls, T, N)) (hb : am_at n b ci) (hn : as.length = np) (hs : st0 = as.reverse ++ (2, b) :: st) (hd : d' + 1 ≤ d ∧ mc' ≤ mc ∧ ms' ≤ ms ∧ am_c8 st ≤ 8) (k : AC Y d' mc' ms' n ((2, b) :: as) h (az_cont qz M d (mc - mc') (ms - ms') K pc (pc + 3) ls st)) : AZ qz M d mc ms K n pc ls st0 h := by
  subst hs
  intro z hz p l e R s m args below meth c H locs cells slots MC MS la ao X
  obtain ⟨C, G, hS, hW, hI, hls, hst, hL, b1, b2, b3, b4⟩ := X
  have hts := C.2.2.2.2.1
  obtain ⟨hd1, hd2, hd3, hd4⟩ := hd
  have hrs : am_oks st := fun v hv => hst v (by simp [hv])
  have has : am_oks ((2, b) :: as) := fun v hv => hst v (by simp at hv ⊢; first | exact Or.inl hv | (rcases hv with q | q; exact Or.inr (Or.inl q); exact Or.inl q))
  refine az_call hz ao (a := #[]) hd2 hd3 ⟨C, G, hS, hW, hI, hls, hrs, hL, b1, b2, b3, b4⟩ (fun _ _ _ q => q) ?_
  have hM := k has hI z l C.2.2.2.2.2.2.2.1
  have h8 := am_cat8 G.2.1 st
  have hb9 := hb.2.1
  have hn9 := hW.2.2
  have hrf : av z (2, b) = .ref (z.2.2.1 + b.toNat) := av_ref z hb.1 (by omega)
  have hMe : ((((2, b) : AV) :: as).map (av z)) = .ref (z.2.2.1 + b.toNat) :: as.map (av z) := by rw [List.map_cons, hrf]
  rw [hMe] at hM
  obtain ⟨r0, hr0, cell, q1, q2, q3, q4⟩ := am_obj hW hb
  cases hr0.symm.trans hci
  obtain ⟨-, hfc, -⟩ := G.1.1 _ _ hci
  exact vx_runV (As := as.map (av z)) (rest := st.map (av z)) ⟨C.1, C.2.1, C.2.2.1, C.2.2.2.1, hts⟩ hM ⟨⟨rfl, rfl, by show d' + 1 ≤ R.frames; have := C.2.2.2.2.2.2.2.2.2.1; omega, by show 8 + (Y.2.2.1 + 11) + 60 * d' ≤ R.locals; have := C.2.2.2.2.2.2.2.2.2.2.1; have := hy.2.2.2.2.2; omega, am_goodY hy hts, by rw [← am_hd0 hy.1]; exact List.mem_cons_self, hts _ hy.2.1, hts _ hy.2.2.1, hy.2.2.2.1, am_np hy, hts _ hlk⟩, hts _ hin, hts _ hsel⟩ ⟨(by have h9 := am_blind z n ((2, b) :: as) h; unfold am_Pc at h9; rw [hMe] at h9; exact h9), ⟨cell, q1, by rw [q3]; rfl, by rw [q2]; exact hfc⟩, fun U hU hWU => ⟨rfl, am_G.go G hWU (by rw [hU]; exact hS.1) (fun q h1 h2 => by rw [hU]; exact hS.2.1 q h1 h2), by rw [hU]; exact hW⟩⟩ rfl (by rw [List.length_map]; exact hn) hL.1 (by show (as.reverse ++ (2, b) :: st).map (av z) = _; rw [List.map_append, List.map_reverse, List.map_cons, hrf]) (lv_room (by omega)) hdg ⟨by omega, by omega⟩
theorem zaw_callI {qz : Nat × (Nat → Int)} {M : AMM} {d mc ms : Nat} {K : AO → Nat → AH → Prop} {n pc : Nat} {ls st : List AV} {h : AH} (d' mc' ms' : Nat) {Y : AMM} {np idx : Nat} {as st0 : List AV} (hdg : decode M.2.1 pc = .ok (.invokespecial idx, 3)) (hy : am_yw Y np) (hlk : Cond.methodLink M.1.cls idx Y.1 ∈ am_WS) (hin : Cond.instanceMethod Y.1 ∈ am_WS) (hini : Y.1.name = "<init>") (hrn : Y.2.2.2.1 = none) {b : Int} {ci N : Nat} {T : u_T} (hci : vwCl[ci]? = some (Y.1.cls, T, N)) (hb : am_at n b ci) (hn : as.length = np) (hs : st0 = as.reverse ++ (2, b) :: st) (hd : d' + 1 ≤ d ∧ mc' ≤ mc ∧ ms' ≤ ms ∧ am_c8 st ≤ 8) (k : AC Y d' mc' ms' n ((2, b) :: as) h (az_cont qz M d (mc - mc') (ms - ms') K pc (pc + 3) ls st)) : AZ qz M d mc ms K n pc ls st0 h := by
  subst hs
  intro z hz p l e R s m args below meth c H locs cells slots MC MS la ao X
  obtain ⟨C, G, hS, hW, hI, hls, hst, hL, b1, b2, b3, b4⟩ := X
  have hts := C.2.2.2.2.1
  obtain ⟨hd1, hd2, hd3, hd4⟩ := hd
  have hrs : am_oks st := fun v hv => hst v (by simp [hv])
  have has : am_oks ((2, b) :: as) := fun v hv => hst v (by simp at hv ⊢; first | exact Or.inl hv | (rcases hv with q | q; exact Or.inr (Or.inl q); exact Or.inl q))
  refine az_call hz ao (a := #[]) hd2 hd3 ⟨C, G, hS, hW, hI, hls, hrs, hL, b1, b2, b3, b4⟩ (fun _ _ _ q => q) ?_
  have hM := k has hI z l C.2.2.2.2.2.2.2.1
  have h8 := am_cat8 G.2.1 st
  have hb9 := hb.2.1
  have hn9 := hW.2.2
  have hrf : av z (2, b) = .ref (z.2.2.1 + b.toNat) := av_ref z hb.1 (by omega)
  have hMe : ((((2, b) : AV) :: as).map (av z)) = .ref (z.2.2.1 + b.toNat) :: as.map (av z) := by rw [List.map_cons, hrf]
  rw [hMe] at hM
  obtain ⟨r0, hr0, cell, q1, q2, q3, q4⟩ := am_obj hW hb
  cases hr0.symm.trans hci
  obtain ⟨-, hfc, -⟩ := G.1.1 _ _ hci
  exact vx_runI (b := z.2.2.1 + b.toNat) (As := as.map (av z)) (rest := st.map (av z)) ⟨C.1, C.2.1, C.2.2.1, C.2.2.2.1, hts⟩ hM ⟨(by have h9 : CallB R s args M.1.cls idx Y.1 Y.2.1 Y.2.2.1 Y.2.2.2.1 (am_ws Y) (am_rm d' mc' ms') mc' ms' np := ⟨rfl, rfl, by show d' + 1 ≤ R.frames; have := C.2.2.2.2.2.2.2.2.2.1; omega, by show 8 + (Y.2.2.1 + 11) + 60 * d' ≤ R.locals; have := C.2.2.2.2.2.2.2.2.2.2.1; have := hy.2.2.2.2.2; omega, am_goodY hy hts, by rw [← am_hd0 hy.1]; exact List.mem_cons_self, hts _ hy.2.1, hts _ hy.2.2.1, hy.2.2.2.1, am_np hy, hts _ hlk⟩; rw [hrn] at h9; exact h9), hini, hts _ hin⟩ ⟨(by have h9 := am_blind z n ((2, b) :: as) h; unfold am_Pc at h9; rw [hMe] at h9; exact h9), fun U hU hWU => ⟨rfl, am_G.go G hWU (by rw [hU]; exact hS.1) (fun q h1 h2 => by rw [hU]; exact hS.2.1 q h1 h2), by rw [hU]; exact hW⟩⟩ rfl (by rw [List.length_map]; exact hn) hL.1 (by show (as.reverse ++ (2, b) :: st).map (av z) = _; rw [List.map_append, List.map_reverse, List.map_cons, hrf]) (lv_room (by omega)) hdg ⟨by omega, by omega⟩
theorem zaw_icmp_eq {qz : Nat × (Nat → Int)} {M : AMM} {d mc ms : Nat} {K : AO → Nat → AH → Prop} {n pc : Nat} {ls st : List AV} {h : AH} {a b off : Int} (tgt : Nat) (hdg : decode M.2.1 pc = .ok (.if_icmp .eq off, 3)) (ht : (pc : Int) + off = (tgt : Int)) (kt : a = b → AZ qz M d mc ms K n tgt ls st h) (kf : ¬ (a = b) → AZ qz M d mc ms K n (pc + 3) ls st h) : AZ qz M d mc ms K n pc ls ((0, b) :: (0, a) :: st) h := by
  intro z hz p l e R s m args below meth c H locs cells slots MC MS la ao X
  obtain ⟨C, G, hS, hW, hI, hls, hst, hL, b1, b2, b3, b4⟩ := X
  have ra := (am_oksh (am_okst hst)).1 rfl
  have rb := (am_oksh hst).1 rfl
  dsimp only at ra rb
  refine lv_icmp_eq C.1 C.2.1 hdg ht (fun q => ?_) (fun q => ?_)
  · exact kt ((am_eq ra rb).mp q) z hz p l e R s m args below meth c H locs cells slots MC MS la ao ⟨C, G, hS, hW, hI, hls, am_okst (am_okst hst), hL, b1, b2, b3, b4⟩
  · exact kf (fun x => q ((am_eq ra rb).mpr x)) z hz p l e R s m args below meth c H locs cells slots MC MS la ao ⟨C, G, hS, hW, hI, hls, am_okst (am_okst hst), hL, b1, b2, b3, b4⟩
theorem zaw_icmp_gt {qz : Nat × (Nat → Int)} {M : AMM} {d mc ms : Nat} {K : AO → Nat → AH → Prop} {n pc : Nat} {ls st : List AV} {h : AH} {a b off : Int} (tgt : Nat) (hdg : decode M.2.1 pc = .ok (.if_icmp .gt off, 3)) (ht : (pc : Int) + off = (tgt : Int)) (kt : b < a → AZ qz M d mc ms K n tgt ls st h) (kf : ¬ (b < a) → AZ qz M d mc ms K n (pc + 3) ls st h) : AZ qz M d mc ms K n pc ls ((0, b) :: (0, a) :: st) h := by
  intro z hz p l e R s m args below meth c H locs cells slots MC MS la ao X
  obtain ⟨C, G, hS, hW, hI, hls, hst, hL, b1, b2, b3, b4⟩ := X
  have ra := (am_oksh (am_okst hst)).1 rfl
  have rb := (am_oksh hst).1 rfl
  dsimp only at ra rb
  refine lv_icmp_gt C.1 C.2.1 hdg ht (fun q => ?_) (fun q => ?_)
  · exact kt ((am_lt rb ra).mp q) z hz p l e R s m args below meth c H locs cells slots MC MS la ao ⟨C, G, hS, hW, hI, hls, am_okst (am_okst hst), hL, b1, b2, b3, b4⟩
  · exact kf (fun x => q ((am_lt rb ra).mpr x)) z hz p l e R s m args below meth c H locs cells slots MC MS la ao ⟨C, G, hS, hW, hI, hls, am_okst (am_okst hst), hL, b1, b2, b3, b4⟩
theorem zaw_if_ne {qz : Nat × (Nat → Int)} {M : AMM} {d mc ms : Nat} {K : AO → Nat → AH → Prop} {n pc : Nat} {ls st : List AV} {h : AH} {a off : Int} (tgt : Nat) (hdg : decode M.2.1 pc = .ok (.ifCond .ne off, 3)) (ht : (pc : Int) + off = (tgt : Int)) (kt : ¬ a = 0 → AZ qz M d mc ms K n tgt ls st h) (kf : a = 0 → AZ qz M d mc ms K n (pc + 3) ls st h) : AZ qz M d mc ms K n pc ls ((0, a) :: st) h := by
  intro z hz p l e R s m args below meth c H locs cells slots MC MS la ao X
  obtain ⟨C, G, hS, hW, hI, hls, hst, hL, b1, b2, b3, b4⟩ := X
  have ra := (am_oksh hst).1 rfl
  dsimp only at ra
  have rb : (-2147483648 : Int) ≤ 0 ∧ (0 : Int) < 2147483648 := by decide
  refine lv_if_ne C.1 C.2.1 hdg ht (fun q => ?_) (fun q => ?_)
  · exact kt (fun x => q ((am_eq ra rb).mpr x)) z hz p l e R s m args below meth c H locs cells slots MC MS la ao ⟨C, G, hS, hW, hI, hls, am_okst hst, hL, b1, b2, b3, b4⟩
  · exact kf ((am_eq ra rb).mp q) z hz p l e R s m args below meth c H locs cells slots MC MS la ao ⟨C, G, hS, hW, hI, hls, am_okst hst, hL, b1, b2, b3, b4⟩
theorem zaw_if_eq {qz : Nat × (Nat → Int)} {M : AMM} {d mc ms : Nat} {K : AO → Nat → AH → Prop} {n pc : Nat} {ls st : List AV} {h : AH} {a off : Int} (tgt : Nat) (hdg : decode M.2.1 pc = .ok (.ifCond .eq off, 3)) (ht : (pc : Int) + off = (tgt : Int)) (kt : a = 0 → AZ qz M d mc ms K n tgt ls st h) (kf : ¬ (a = 0) → AZ qz M d mc ms K n (pc + 3) ls st h) : AZ qz M d mc ms K n pc ls ((0, a) :: st) h := by
  intro z hz p l e R s m args below meth c H locs cells slots MC MS la ao X
  obtain ⟨C, G, hS, hW, hI, hls, hst, hL, b1, b2, b3, b4⟩ := X
  have ra := (am_oksh hst).1 rfl
  dsimp only at ra
  have rb : (-2147483648 : Int) ≤ 0 ∧ (0 : Int) < 2147483648 := by decide
  refine lv_if_eq C.1 C.2.1 hdg ht (fun q => ?_) (fun q => ?_)
  · exact kt ((am_eq ra rb).mp q) z hz p l e R s m args below meth c H locs cells slots MC MS la ao ⟨C, G, hS, hW, hI, hls, am_okst hst, hL, b1, b2, b3, b4⟩
  · exact kf (fun x => q ((am_eq ra rb).mpr x)) z hz p l e R s m args below meth c H locs cells slots MC MS la ao ⟨C, G, hS, hW, hI, hls, am_okst hst, hL, b1, b2, b3, b4⟩
theorem zaw_lald {qz : Nat × (Nat → Int)} {M : AMM} {d mc ms : Nat} {K : AO → Nat → AH → Prop} {n pc : Nat} {ls st : List AV} {h : AH} {b i : Int} {len : Nat} (hdg : decode M.2.1 pc = .ok (.laload, 1)) (hb : am_ar n b 101 len) (hi : 0 ≤ i ∧ i < len) (k : AZ qz M d mc ms K n (pc + 1) ls ((1, h b i) :: st) h) : AZ qz M d mc ms K n pc ls ((0, i) :: (2, b) :: st) h := by
  intro z hz p l e R s m args below meth c H locs cells slots MC MS la ao X
  obtain ⟨C, G, hS, hW, hI, hls, hst, hL, b1, b2, b3, b4⟩ := X
  have hc := am_arr hW hb
  have ri := (am_oksh hst).1 rfl
  dsimp only at ri
  have hok : am_ok (1, h b i) := by have := am_okh hI hb.1 hi.1; rwa [am_T_ar hb] at this
  have hgo : W p l e R s m args below meth c H locs cells slots (vx_MQ below (am_Q z K) (am_X z K) args s MC MS (am_A z)) (F0 m (pc + 1) la (av z (1, h b i) :: st.map (av z))) := k z hz p l e R s m args below meth c H locs cells slots MC MS la ao ⟨C, G, hS, hW, hI, hls, am_oksc hok (am_okst (am_okst hst)), hL, b1, b2, b3, b4⟩
  show W p l e R s m args below meth c H locs cells slots (vx_MQ below (am_Q z K) (am_X z K) args s MC MS (am_A z)) (F0 m pc la (.int (Int32.ofInt i) :: av z (2, b) :: st.map (av z)))
  rw [av_ref z hb.1 (by have := hb.2.1; have := hW.2.2; omega)]
  refine W.lald C.1 C.2.1 hc (am_tyat G (t := 2) rfl _ _) (fun q => by cases q) (by rw [arrV_size]; exact am_inb hi.1 hi.2 ri.2) (v := av z (1, h b i)) ?_ rfl rfl hdg hgo
  rw [am_nat hi.1 ri.2, arrV_read _ _ (by omega), Int.toNat_of_nonneg hi.1]
theorem zaw_i2l {qz : Nat × (Nat → Int)} {M : AMM} {d mc ms : Nat} {K : AO → Nat → AH → Prop} {n pc : Nat} {ls st : List AV} {h : AH} {a : Int} (hdg : decode M.2.1 pc = .ok (.i2l, 1)) (k : AZ qz M d mc ms K n (pc + 1) ls ((1, a) :: st) h) : AZ qz M d mc ms K n pc ls ((0, a) :: st) h := by
  intro z hz p l e R s m args below meth c H locs cells slots MC MS la ao X
  obtain ⟨C, G, hS, hW, hI, hls, hst, hL, b1, b2, b3, b4⟩ := X
  have ra := (am_oksh hst).1 rfl
  dsimp only at ra
  exact lv_i2l C.1 C.2.1 hdg (am_i2l ra.1 ra.2) (k z hz p l e R s m args below meth c H locs cells slots MC MS la ao ⟨C, G, hS, hW, hI, hls, am_oksc (am_ok1 (by omega) (by omega)) (am_okst hst), hL, b1, b2, b3, b4⟩)
theorem zaw_lcmp {qz : Nat × (Nat → Int)} {M : AMM} {d mc ms : Nat} {K : AO → Nat → AH → Prop} {n pc : Nat} {ls st : List AV} {h : AH} {a b : Int} (hdg : decode M.2.1 pc = .ok (.lcmp, 1)) (k : AZ qz M d mc ms K n (pc + 1) ls ((0, if a < b then -1 else if a = b then 0 else 1) :: st) h) : AZ qz M d mc ms K n pc ls ((1, b) :: (1, a) :: st) h := by
  intro z hz p l e R s m args below meth c H locs cells slots MC MS la ao X
  obtain ⟨C, G, hS, hW, hI, hls, hst, hL, b1, b2, b3, b4⟩ := X
  have ra := (am_oksh (am_okst hst)).2.1 rfl
  have rb := (am_oksh hst).2.1 rfl
  dsimp only at ra rb
  refine W.lcmp C.1 C.2.1 hdg ?_
  rw [am_lcmp ra rb]
  exact k z hz p l e R s m args below meth c H locs cells slots MC MS la ao ⟨C, G, hS, hW, hI, hls, am_oksc (am_ok0 (by split <;> (try split) <;> omega) (by split <;> (try split) <;> omega)) (am_okst (am_okst hst)), hL, b1, b2, b3, b4⟩
theorem zaw_goto {qz : Nat × (Nat → Int)} {M : AMM} {d mc ms : Nat} {K : AO → Nat → AH → Prop} {n pc : Nat} {ls st : List AV} {h : AH} {off : Int} (tgt : Nat) (hdg : decode M.2.1 pc = .ok (.goto off, 3)) (ht : (pc : Int) + off = (tgt : Int)) (k : AZ qz M d mc ms K n tgt ls st h) : AZ qz M d mc ms K n pc ls st h := by
  intro z hz p l e R s m args below meth c H locs cells slots MC MS la ao X
  obtain ⟨C, G, hS, hW, hI, hls, hst, hL, b1, b2, b3, b4⟩ := X
  exact lv_goto C.1 C.2.1 hdg ht (k z hz p l e R s m args below meth c H locs cells slots MC MS la ao ⟨C, G, hS, hW, hI, hls, hst, hL, b1, b2, b3, b4⟩)
theorem za_ii5 {qz : Nat × (Nat → Int)} {d mc ms : Nat} {M : AMM} {K : AO → Nat → AH → Prop} {n pc : Nat} {v0 v1 v2 v3 v4 : AV} {t st : List AV} {h : AH} {x a : Int} (hl : (v0 :: v1 :: v2 :: v3 :: v4 :: (0, x) :: t).length = M.2.2.1) (h2 : am_n2 v4 = true) (hdg : decode M.2.1 pc = .ok (.iinc 5 a, 3)) (k : AZ qz M d mc ms K n (pc + 3) (v0 :: v1 :: v2 :: v3 :: v4 :: (0, wr (x + a)) :: t) st h) : AZ qz M d mc ms K n pc (v0 :: v1 :: v2 :: v3 :: v4 :: (0, x) :: t) st h := zaw_iinc hdg hl (by rw [← hl]; simp only [List.length_cons]; omega) h2 rfl k
theorem za_iiR5 {qz : Nat × (Nat → Int)} {d mc ms : Nat} {M : AMM} {K : AO → Nat → AH → Prop} {n pc : Nat} {v0 v1 v2 v3 v4 : AV} {t st : List AV} {h : AH} {x a : Int} (hr : -2147483648 ≤ x + a ∧ x + a < 2147483648) (hl : (v0 :: v1 :: v2 :: v3 :: v4 :: (0, x) :: t).length = M.2.2.1) (h2 : am_n2 v4 = true) (hdg : decode M.2.1 pc = .ok (.iinc 5 a, 3)) (k : AZ qz M d mc ms K n (pc + 3) (v0 :: v1 :: v2 :: v3 :: v4 :: (0, x + a) :: t) st h) : AZ qz M d mc ms K n pc (v0 :: v1 :: v2 :: v3 :: v4 :: (0, x) :: t) st h := za_ii5 hl h2 hdg (by rw [wr_id hr.1 hr.2]; exact k)
theorem zaw_zret {qz : Nat × (Nat → Int)} {M : AMM} {d mc ms : Nat} {K : AO → Nat → AH → Prop} {n pc : Nat} {ls : List AV} {h : AH} {x : Int} (hdg : decode M.2.1 pc = .ok (.ireturn, 1)) (hr : M.2.2.2.1 = some .boolean) (hx : x = 0 ∨ x = 1) (k : K (.inl (some (0, x))) n h) : AZ qz M d mc ms K n pc ls [(0, x)] h := by
  intro z hz p l e R s m args below meth c H locs cells slots MC MS la ao X
  obtain ⟨C, G, hS, hW, hI, hls, hst, hL, b1, b2, b3, b4⟩ := X
  have hlk := C.2.2.2.2.2.2.1
  refine vx_ret (W.widen (k := MC) (n := MS) (by omega) (by omega) ?_)
  exact W.zret C.1 C.2.1 (C.2.2.2.2.2.1.trans hr) (by rcases hx with rfl | rfl <;> decide) (fun t ht _ => ⟨some (0, x), n, h, k, rfl, fun v hv => by cases hv; exact am_oksh hst, hI, ht ▸ hW, am_F hS ht⟩) hS.2.2 hdg hlk
theorem zaw_bipush {qz : Nat × (Nat → Int)} {M : AMM} {d mc ms : Nat} {K : AO → Nat → AH → Prop} {n pc : Nat} {ls st : List AV} {h : AH} {x : Int} (hdg : decode M.2.1 pc = .ok (.bipush x, 2)) (hr : (Int8.ofInt x).toInt32 = Int32.ofInt x ∧ -2147483648 ≤ x ∧ x < 2147483648) (k : AZ qz M d mc ms K n (pc + 2) ls ((0, x) :: st) h) : AZ qz M d mc ms K n pc ls st h := by
  intro z hz p l e R s m args below meth c H locs cells slots MC MS la ao X
  obtain ⟨C, G, hS, hW, hI, hls, hst, hL, b1, b2, b3, b4⟩ := X
  refine lv_bipush C.1 C.2.1 hdg hr.1 ?_
  exact k z hz p l e R s m args below meth c H locs cells slots MC MS la ao ⟨C, G, hS, hW, hI, hls, am_oksc (am_ok0 hr.2.1 hr.2.2) hst, hL, b1, b2, b3, b4⟩
theorem zaw_lconst {qz : Nat × (Nat → Int)} {M : AMM} {d mc ms : Nat} {K : AO → Nat → AH → Prop} {n pc : Nat} {ls st : List AV} {h : AH} {kf : Fin 2} {x : Int} (hdg : decode M.2.1 pc = .ok (.lconst kf, 1)) (hr : Int64.ofNat (kf : Nat) = Int64.ofInt x ∧ 0 ≤ x ∧ x < 2) (k : AZ qz M d mc ms K n (pc + 1) ls ((1, x) :: st) h) : AZ qz M d mc ms K n pc ls st h := by
  intro z hz p l e R s m args below meth c H locs cells slots MC MS la ao X
  obtain ⟨C, G, hS, hW, hI, hls, hst, hL, b1, b2, b3, b4⟩ := X
  refine lv_lconst C.1 C.2.1 hdg hr.1 ?_
  exact k z hz p l e R s m args below meth c H locs cells slots MC MS la ao ⟨C, G, hS, hW, hI, hls, am_oksc (am_ok1 (by omega) (by omega)) hst, hL, b1, b2, b3, b4⟩
theorem zaw_f2d {qz : Nat × (Nat → Int)} {M : AMM} {d mc ms : Nat} {K : AO → Nat → AH → Prop} {n pc : Nat} {ls st : List AV} {h : AH} {a : Int} (hdg : decode M.2.1 pc = .ok (.f2d, 1)) (hne : vf_n64 (FP.f2d (UInt32.ofNat a.toNat))) (k : AZ qz M d mc ms K n (pc + 1) ls ((4, f_f2d a) :: st) h) : AZ qz M d mc ms K n pc ls ((3, a) :: st) h := by
  intro z hz p l e R s m args below meth c H locs cells slots MC MS la ao X
  obtain ⟨C, G, hS, hW, hI, hls, hst, hL, b1, b2, b3, b4⟩ := X
  have hgo : W p l e R s m args below meth c H locs cells slots (vx_MQ below (am_Q z K) (am_X z K) args s MC MS (am_A z)) (F0 m (pc + 1) la (.double (UInt64.ofNat (f_f2d a).toNat) :: st.map (av z))) := k z hz p l e R s m args below meth c H locs cells slots MC MS la ao ⟨C, G, hS, hW, hI, hls, am_oksc (am_ok4u _) (am_okst hst), hL, b1, b2, b3, b4⟩
  unfold f_f2d at hgo
  rw [am_u64] at hgo
  exact lv_f2d C.1 C.2.1 hdg hne hgo
theorem zaw_dald {qz : Nat × (Nat → Int)} {M : AMM} {d mc ms : Nat} {K : AO → Nat → AH → Prop} {n pc : Nat} {ls st : List AV} {h : AH} {b i : Int} {len : Nat} (hdg : decode M.2.1 pc = .ok (.daload, 1)) (hb : am_ar n b 104 len) (hi : 0 ≤ i ∧ i < len) (k : AZ qz M d mc ms K n (pc + 1) ls ((4, h b i) :: st) h) : AZ qz M d mc ms K n pc ls ((0, i) :: (2, b) :: st) h := by
  intro z hz p l e R s m args below meth c H locs cells slots MC MS la ao X
  obtain ⟨C, G, hS, hW, hI, hls, hst, hL, b1, b2, b3, b4⟩ := X
  have hc := am_arr hW hb
  have ri := (am_oksh hst).1 rfl
  dsimp only at ri
  have hok : am_ok (4, h b i) := by have := am_okh hI hb.1 hi.1; rwa [am_T_ar hb] at this
  have hgo : W p l e R s m args below meth c H locs cells slots (vx_MQ below (am_Q z K) (am_X z K) args s MC MS (am_A z)) (F0 m (pc + 1) la (av z (4, h b i) :: st.map (av z))) := k z hz p l e R s m args below meth c H locs cells slots MC MS la ao ⟨C, G, hS, hW, hI, hls, am_oksc hok (am_okst (am_okst hst)), hL, b1, b2, b3, b4⟩
  show W p l e R s m args below meth c H locs cells slots (vx_MQ below (am_Q z K) (am_X z K) args s MC MS (am_A z)) (F0 m pc la (.int (Int32.ofInt i) :: av z (2, b) :: st.map (av z)))
  rw [av_ref z hb.1 (by have := hb.2.1; have := hW.2.2; omega)]
  refine W.dald C.1 C.2.1 hc (am_tyat G (t := 3) rfl _ _) (fun q => by cases q) (by rw [arrV_size]; exact am_inb hi.1 hi.2 ri.2) (v := av z (4, h b i)) ?_ rfl rfl hdg hgo
  rw [am_nat hi.1 ri.2, arrV_read _ _ (by omega), Int.toNat_of_nonneg hi.1]
theorem zaw_dcmpl {qz : Nat × (Nat → Int)} {M : AMM} {d mc ms : Nat} {K : AO → Nat → AH → Prop} {n pc : Nat} {ls st : List AV} {h : AH} {a b : Int} (hdg : decode M.2.1 pc = .ok (.dcmp .l, 1)) (k : AZ qz M d mc ms K n (pc + 1) ls ((0, f_dcmpl a b) :: st) h) : AZ qz M d mc ms K n pc ls ((4, b) :: (4, a) :: st) h := by
  intro z hz p l e R s m args below meth c H locs cells slots MC MS la ao X
  obtain ⟨C, G, hS, hW, hI, hls, hst, hL, b1, b2, b3, b4⟩ := X
  have hgo : W p l e R s m args below meth c H locs cells slots (vx_MQ below (am_Q z K) (am_X z K) args s MC MS (am_A z)) (F0 m (pc + 1) la (.int (Int32.ofInt (f_dcmpl a b)) :: st.map (av z))) := k z hz p l e R s m args below meth c H locs cells slots MC MS la ao ⟨C, G, hS, hW, hI, hls, am_oksc (am_ok0 (am_tI _).1 (am_tI _).2) (am_okst (am_okst hst)), hL, b1, b2, b3, b4⟩
  unfold f_dcmpl at hgo
  rw [Int32.ofInt_toInt] at hgo
  exact lv_dcmp C.1 C.2.1 hdg hgo
theorem zaw_dup {qz : Nat × (Nat → Int)} {M : AMM} {d mc ms : Nat} {K : AO → Nat → AH → Prop} {n pc : Nat} {ls st : List AV} {h : AH} {v : AV} (hdg : decode M.2.1 pc = .ok (.dup, 1)) (h2 : am_n2 v = true) (k : AZ qz M d mc ms K n (pc + 1) ls (v :: v :: st) h) : AZ qz M d mc ms K n pc ls (v :: st) h := by
  intro z hz p l e R s m args below meth c H locs cells slots MC MS la ao X
  obtain ⟨C, G, hS, hW, hI, hls, hst, hL, b1, b2, b3, b4⟩ := X
  exact lv_dup C.1 C.2.1 hdg (am_cat2 G.2.1 h2) (k z hz p l e R s m args below meth c H locs cells slots MC MS la ao ⟨C, G, hS, hW, hI, hls, am_oksc (am_oksh hst) hst, hL, b1, b2, b3, b4⟩)
theorem zaw_fstore {qz : Nat × (Nat → Int)} {M : AMM} {d mc ms : Nat} {K : AO → Nat → AH → Prop} {n pc : Nat} {ls st : List AV} {h : AH} {x : Int} {i : Nat} (hdg : decode M.2.1 pc = .ok (.fstore i, 2)) (hl : ls.length = M.2.2.1) (hi : i < M.2.2.1) (h2 : am_n2at ls i = true) (k : AZ qz M d mc ms K n (pc + 2) (ls.set i (3, x)) st h) : AZ qz M d mc ms K n pc ls ((3, x) :: st) h := by
  intro z hz p l e R s m args below meth c H locs cells slots MC MS la ao X
  obtain ⟨C, G, hS, hW, hI, hls, hst, hL, b1, b2, b3, b4⟩ := X
  refine lv_fstore C.1 C.2.1 hdg hL.has (by omega) rfl (fun la2 hla2 => ?_)
  exact k z hz p l e R s m args below meth c H locs cells slots MC MS la2 ao ⟨C, G, hS, hW, hI, am_oks_set hls (am_oksh hst), am_okst hst, am_L.store1 G.2.1 hl h2 hla2, b1, b2, b3, b4⟩
theorem za_fs7 {qz : Nat × (Nat → Int)} {d mc ms : Nat} {M : AMM} {K : AO → Nat → AH → Prop} {n pc : Nat} {v0 v1 v2 v3 v4 v5 v6 : AV} {t st : List AV} {h : AH} {x : Int} {u : AV} (hl : (v0 :: v1 :: v2 :: v3 :: v4 :: v5 :: v6 :: u :: t).length = M.2.2.1) (h2 : am_n2 v6 = true) (hdg : decode M.2.1 pc = .ok (.fstore 7, 2)) (k : AZ qz M d mc ms K n (pc + 2) (v0 :: v1 :: v2 :: v3 :: v4 :: v5 :: v6 :: (3, x) :: t) st h) : AZ qz M d mc ms K n pc (v0 :: v1 :: v2 :: v3 :: v4 :: v5 :: v6 :: u :: t) ((3, x) :: st) h := zaw_fstore hdg hl (by rw [← hl]; simp only [List.length_cons]; omega) h2 k
theorem zaw_fload {qz : Nat × (Nat → Int)} {M : AMM} {d mc ms : Nat} {K : AO → Nat → AH → Prop} {n pc : Nat} {ls st : List AV} {h : AH} {x : Int} {i : Nat} (hdg : decode M.2.1 pc = .ok (.fload i, 2)) (hv : ls[i]? = some (3, x)) (k : AZ qz M d mc ms K n (pc + 2) ls ((3, x) :: st) h) : AZ qz M d mc ms K n pc ls st h := by
  intro z hz p l e R s m args below meth c H locs cells slots MC MS la ao X
  obtain ⟨C, G, hS, hW, hI, hls, hst, hL, b1, b2, b3, b4⟩ := X
  refine lv_fload C.1 C.2.1 hdg (show la[i]? = some (.val (.float (UInt32.ofNat x.toNat))) from hL.at hv (by decide : ¬ (3 : Nat) = 9)) ?_
  exact k z hz p l e R s m args below meth c H locs cells slots MC MS la ao ⟨C, G, hS, hW, hI, hls, am_oksc (hls _ (List.mem_of_getElem? hv)) hst, hL, b1, b2, b3, b4⟩
theorem za_fl7 {qz : Nat × (Nat → Int)} {d mc ms : Nat} {M : AMM} {K : AO → Nat → AH → Prop} {n pc : Nat} {v0 v1 v2 v3 v4 v5 v6 : AV} {t st : List AV} {h : AH} {x : Int} (hdg : decode M.2.1 pc = .ok (.fload 7, 2)) (k : AZ qz M d mc ms K n (pc + 2) (v0 :: v1 :: v2 :: v3 :: v4 :: v5 :: v6 :: (3, x) :: t) ((3, x) :: st) h) : AZ qz M d mc ms K n pc (v0 :: v1 :: v2 :: v3 :: v4 :: v5 :: v6 :: (3, x) :: t) st h := zaw_fload hdg rfl k
theorem zaw_if_ne_y {qz : Nat × (Nat → Int)} {M : AMM} {d mc ms : Nat} {K : AO → Nat → AH → Prop} {n pc : Nat} {ls st : List AV} {h : AH} {a off : Int} (tgt : Nat) (hdg : decode M.2.1 pc = .ok (.ifCond .ne off, 3)) (ht : (pc : Int) + off = (tgt : Int)) (hc : ¬ a = 0) (k : AZ qz M d mc ms K n tgt ls st h) : AZ qz M d mc ms K n pc ls ((0, a) :: st) h := zaw_if_ne tgt hdg ht (fun _ => k) (fun q => absurd hc (fun x => x q))
theorem zaw_if_ne_n {qz : Nat × (Nat → Int)} {M : AMM} {d mc ms : Nat} {K : AO → Nat → AH → Prop} {n pc : Nat} {ls st : List AV} {h : AH} {a off : Int} (tgt : Nat) (hdg : decode M.2.1 pc = .ok (.ifCond .ne off, 3)) (ht : (pc : Int) + off = (tgt : Int)) (hc : a = 0) (k : AZ qz M d mc ms K n (pc + 3) ls st h) : AZ qz M d mc ms K n pc ls ((0, a) :: st) h := zaw_if_ne tgt hdg ht (fun q => absurd hc q) (fun _ => k)
theorem zaw_if_eq_y {qz : Nat × (Nat → Int)} {M : AMM} {d mc ms : Nat} {K : AO → Nat → AH → Prop} {n pc : Nat} {ls st : List AV} {h : AH} {a off : Int} (tgt : Nat) (hdg : decode M.2.1 pc = .ok (.ifCond .eq off, 3)) (ht : (pc : Int) + off = (tgt : Int)) (hc : a = 0) (k : AZ qz M d mc ms K n tgt ls st h) : AZ qz M d mc ms K n pc ls ((0, a) :: st) h := zaw_if_eq tgt hdg ht (fun _ => k) (fun q => absurd hc q)
theorem zaw_if_eq_n {qz : Nat × (Nat → Int)} {M : AMM} {d mc ms : Nat} {K : AO → Nat → AH → Prop} {n pc : Nat} {ls st : List AV} {h : AH} {a off : Int} (tgt : Nat) (hdg : decode M.2.1 pc = .ok (.ifCond .eq off, 3)) (ht : (pc : Int) + off = (tgt : Int)) (hc : ¬ (a = 0)) (k : AZ qz M d mc ms K n (pc + 3) ls st h) : AZ qz M d mc ms K n pc ls ((0, a) :: st) h := zaw_if_eq tgt hdg ht (fun q => absurd q hc) (fun _ => k)
theorem zaw_callX {qz : Nat × (Nat → Int)} {M : AMM} {d mc ms : Nat} {K : AO → Nat → AH → Prop} {n pc : Nat} {ls st : List AV} {h : AH} (d' mc' ms' : Nat) {Y : AMM} {np idx : Nat} {as st0 : List AV} (hdg : decode M.2.1 pc = .ok (.invokestatic idx, 3)) (hy : am_ywX Y np) (hlk : Cond.methodLink M.1.cls idx Y.1 ∈ am_WS) (hst0 : Cond.static Y.1 ∈ am_WS) (hn : as.length = np) (hs : st0 = as.reverse ++ st) (hd : d' + 1 ≤ d ∧ mc' ≤ mc ∧ ms' ≤ ms ∧ am_c8 st ≤ 8) (k : AC Y d' mc' ms' n as h (az_cont qz M d (mc - mc') (ms - ms') K pc (pc + 3) ls st)) : AZ qz M d mc ms K n pc ls st0 h := by
  subst hs
  intro z hz p l e R s m args below meth c H locs cells slots MC MS la ao X
  obtain ⟨C, G, hS, hW, hI, hls, hst, hL, b1, b2, b3, b4⟩ := X
  have hts := C.2.2.2.2.1
  obtain ⟨hd1, hd2, hd3, hd4⟩ := hd
  have hrs : am_oks st := fun v hv => hst v (by simp [hv])
  have has : am_oks as := fun v hv => hst v (by simp at hv ⊢; first | exact Or.inl hv | (rcases hv with q | q; exact Or.inr (Or.inl q); exact Or.inl q))
  refine az_call hz ao (a := #[]) hd2 hd3 ⟨C, G, hS, hW, hI, hls, hrs, hL, b1, b2, b3, b4⟩ (fun _ _ _ q => q) ?_
  have hM := k has hI z l C.2.2.2.2.2.2.2.1
  have h8 := am_cat8 G.2.1 st
  exact vx_runSX (As := as.map (av z)) (rest := st.map (av z)) ⟨C.1, C.2.1, C.2.2.1, C.2.2.2.1, hts⟩ hM ⟨⟨rfl, rfl, by show d' + 1 ≤ R.frames; have := C.2.2.2.2.2.2.2.2.2.1; omega, by show 8 + (Y.2.2.1 + 11) + 60 * d' ≤ R.locals; have := C.2.2.2.2.2.2.2.2.2.2.1; have := hy.2.2.2.2.2; omega, am_goodYX hy hts, by rw [← am_hdX hy.1]; exact List.mem_cons_self⟩, hts _ hy.2.1, hts _ hy.2.2.1, hy.2.2.2.1, am_npX hy, hts _ hlk, hts _ hst0⟩ ⟨am_blind z n as h, fun U hU hWU => ⟨rfl, am_G.go G hWU (by rw [hU]; exact hS.1) (fun q h1 h2 => by rw [hU]; exact hS.2.1 q h1 h2), by rw [hU]; exact hW⟩⟩ rfl (by rw [List.length_map]; exact hn) hL.1 (by show (as.reverse ++ st).map (av z) = _; rw [List.map_append, List.map_reverse]) (lv_room (by omega)) hdg ⟨by omega, by omega⟩
theorem zaw_slen {qz : Nat × (Nat → Int)} {M : AMM} {d mc ms : Nat} {K : AO → Nat → AH → Prop} {n pc : Nat} {ls st : List AV} {h : AH} (hL : qz.1 ≤ 3072) (hdg : decode M.2.1 pc = .ok (.arraylength, 1)) (k : AZ qz M d mc ms K n (pc + 1) ls ((0, qz.1) :: st) h) : AZ qz M d mc ms K n pc ls ((2, 3000) :: st) h := by
  intro z hz p l e R s m args below meth c H locs cells slots MC MS la ao X
  obtain ⟨C, G, hS, hW, hI, hls, hst, hL2, b1, b2, b3, b4⟩ := X
  have G0 := G
  obtain ⟨-, -, -, -, -, -, -, -, b, g8, g9, g10, g11, -⟩ := G0
  have hgo := k z hz p l e R s m args below meth c H locs cells slots MC MS la ao ⟨C, G, hS, hW, hI, hls, am_oksc (am_ok0 (by omega) (by omega)) (am_okst hst), hL2, b1, b2, b3, b4⟩
  show W p l e R s m args below meth c H locs cells slots (vx_MQ below (am_Q z K) (am_X z K) args s MC MS (am_A z)) (F0 m pc la (av z (2, 3000) :: st.map (av z)))
  rw [av_out z (by decide), show (3000 : Int).toNat = 3000 from rfl, g8]
  refine va_slen C.1 C.2.1 g9 g10 g11 hS hdg ?_
  rw [hz, ← Int32.ofInt_eq_ofNat]
  exact hgo
theorem zaw_sld {qz : Nat × (Nat → Int)} {M : AMM} {d mc ms : Nat} {K : AO → Nat → AH → Prop} {n pc : Nat} {ls st : List AV} {h : AH} {i : Int} (hq : ∀ j : Nat, -2147483648 ≤ qz.2 j ∧ qz.2 j < 2147483648) (hdg : decode M.2.1 pc = .ok (.iaload, 1)) (hi : 0 ≤ i ∧ i < qz.1) (k : AZ qz M d mc ms K n (pc + 1) ls ((0, qz.2 i.toNat) :: st) h) : AZ qz M d mc ms K n pc ls ((0, i) :: (2, 3000) :: st) h := by
  intro z hz p l e R s m args below meth c H locs cells slots MC MS la ao X
  obtain ⟨C, G, hS, hW, hI, hls, hst, hL2, b1, b2, b3, b4⟩ := X
  have G0 := G
  obtain ⟨-, -, -, -, -, -, -, -, b, g8, g9, g10, g11, -⟩ := G0
  have ri := (am_oksh hst).1 rfl
  dsimp only at ri
  have hgo := k z hz p l e R s m args below meth c H locs cells slots MC MS la ao ⟨C, G, hS, hW, hI, hls, am_oksc (am_ok0 (hq _).1 (hq _).2) (am_okst (am_okst hst)), hL2, b1, b2, b3, b4⟩
  show W p l e R s m args below meth c H locs cells slots (vx_MQ below (am_Q z K) (am_X z K) args s MC MS (am_A z)) (F0 m pc la (.int (Int32.ofInt i) :: av z (2, 3000) :: st.map (av z)))
  rw [av_out z (by decide), show (3000 : Int).toNat = 3000 from rfl, g8]
  refine va_sld C.1 C.2.1 g9 g10 g11 hS (am_inb hi.1 (by rw [hz]; exact hi.2) ri.2) hdg ?_
  rw [hz, am_nat hi.1 ri.2]
  exact hgo
/-- a call that may make an array of sheets -/
def AD (qz : Nat × (Nat → Int)) (M : AMM) (d mc ms n : Nat) (as : List AV) (h : AH) (K : AO → Nat → AH → Prop) : Prop :=
  am_oks as → am_inv n h → ∀ (z : AMZ) (l : Launch), z.2.2.2.2 = qz → l.stackTraces = false → vx_Met l M.1 (am_ws M) (am_rm d mc ms) (va_Pc (as.map (av z)) (fun U => (am_G z U ∧ va_AO "FleetSheet$Sheet" U) ∧ am_Wd z n h U.heap)) (am_Q z K) (am_X z K) mc ms (am_A z)
def ad_Pc (z : AMZ) (n : Nat) (as : List AV) (h : AH) : Array Value → State → Prop := va_Pc (as.map (av z)) (fun U => (am_G z U ∧ va_AO "FleetSheet$Sheet" U) ∧ am_Wd z n h U.heap)
theorem ad_blind (z : AMZ) (n : Nat) (as : List AV) (h : AH) : FrameBlind (ad_Pc z n as h) := fun a U g mk hp => ⟨hp.1, ⟨am_G.go (U := U.calling g mk a) hp.2.1.1 (State.WarmedH.refl U) (Nat.le_refl _) (fun _ _ _ => rfl), va_AO.moved (U := U.calling g mk a) (Vm.Alike.refl U.vm) hp.2.1.2⟩, hp.2.2⟩
theorem ad_of {qz : Nat × (Nat → Int)} {M : AMM} {d mc ms n : Nat} {as ls : List AV} {h : AH} {K : AO → Nat → AH → Prop} (hy : plainName M.1.cls = true) (hh : M.2.2.2.2 = []) (hl : (am_fs as).length ≤ M.2.2.1) (he : am_en as M.2.2.1 = ls) (k : AZ qz M d mc ms K n 0 ls [] h) : AD qz M d mc ms n as h K := by
  intro hok hI z l hz hl2
  subst he
  refine vx_ofF (cc := M.2.1) (maxL := M.2.2.1) (ret := M.2.2.2.1) (ws' := am_WS) (plainFor_of_name hy) (by unfold am_ws; rw [am_hd0 hh]) ?_
  intro p e s m args below meth c s₁ B hml hno hv
  obtain ⟨rfl, ⟨hG, hao⟩, hW⟩ := hv
  rw [lg_entry_eq]
  have hts : ∀ w ∈ am_WS, w.before _ s = true := fun w hw => atoms_spec (ws := am_ws M) B.pre w (List.mem_cons_of_mem _ hw)
  have htab : c.exceptionTable.toList = tableOf M.2.2.2.2 := by
    rw [hh]
    cases hq : c.exceptionTable.toList with
    | nil => rfl
    | cons x l => exact (hno x (by rw [hq]; exact List.mem_cons_self)).elim
  exact k z hz p l e _ s m _ below meth c s.heap [] 0 0 mc ms _ hao ⟨⟨B.exec, B.bytes, hml, findClass_of_methodNamed B.named, hts, B.returns, B.notSynchronized, hl2, htab, Nat.le_refl _, Nat.le_refl _, (name_of_methodNamed B.named B.method).1⟩, hG, va_S.rf, hW, hI, am_oksen hok, am_nil, am_Len hG.2.1 hl, by omega, by omega, Nat.le_refl _, Nat.le_refl _⟩
theorem zaw_callD {qz : Nat × (Nat → Int)} {M : AMM} {d mc ms : Nat} {K : AO → Nat → AH → Prop} {n pc : Nat} {ls st : List AV} {h : AH} (d' mc' ms' : Nat) {Y : AMM} {np idx : Nat} {as st0 : List AV} (hdg : decode M.2.1 pc = .ok (.invokespecial idx, 3)) (hy : am_yw Y np) (hlk : Cond.methodLink M.1.cls idx Y.1 ∈ am_WS) (hin : Cond.instanceMethod Y.1 ∈ am_WS) (hini : Y.1.name = "<init>") (hrn : Y.2.2.2.1 = none) {b : Int} {ci N : Nat} {T : u_T} (hci : vwCl[ci]? = some (Y.1.cls, T, N)) (hb : am_at n b ci) (hn : as.length = np) (hs : st0 = as.reverse ++ (2, b) :: st) (hd : d' + 1 ≤ d ∧ mc' ≤ mc ∧ ms' ≤ ms ∧ am_c8 st ≤ 8) (k : AD qz Y d' mc' ms' n ((2, b) :: as) h (az_cont qz M d (mc - mc') (ms - ms') K pc (pc + 3) ls st)) : AZ qz M d mc ms K n pc ls st0 h := by
  subst hs
  intro z hz p l e R s m args below meth c H locs cells slots MC MS la ao X
  obtain ⟨C, G, hS, hW, hI, hls, hst, hL, b1, b2, b3, b4⟩ := X
  have hts := C.2.2.2.2.1
  obtain ⟨hd1, hd2, hd3, hd4⟩ := hd
  have hrs : am_oks st := fun v hv => hst v (by simp [hv])
  have has : am_oks ((2, b) :: as) := fun v hv => hst v (by simp at hv ⊢; first | exact Or.inl hv | (rcases hv with q | q; exact Or.inr (Or.inl q); exact Or.inl q))
  refine az_call hz ao (a := #[]) hd2 hd3 ⟨C, G, hS, hW, hI, hls, hrs, hL, b1, b2, b3, b4⟩ (fun _ _ _ q => q) ?_
  have hM := k has hI z l hz C.2.2.2.2.2.2.2.1
  have h8 := am_cat8 G.2.1 st
  have hb9 := hb.2.1
  have hn9 := hW.2.2
  have hrf : av z (2, b) = .ref (z.2.2.1 + b.toNat) := av_ref z hb.1 (by omega)
  have hMe : ((((2, b) : AV) :: as).map (av z)) = .ref (z.2.2.1 + b.toNat) :: as.map (av z) := by rw [List.map_cons, hrf]
  rw [hMe] at hM
  obtain ⟨r0, hr0, cell, q1, q2, q3, q4⟩ := am_obj hW hb
  cases hr0.symm.trans hci
  obtain ⟨-, hfc, -⟩ := G.1.1 _ _ hci
  exact vx_runI (b := z.2.2.1 + b.toNat) (As := as.map (av z)) (rest := st.map (av z)) ⟨C.1, C.2.1, C.2.2.1, C.2.2.2.1, hts⟩ hM ⟨(by have h9 : CallB R s args M.1.cls idx Y.1 Y.2.1 Y.2.2.1 Y.2.2.2.1 (am_ws Y) (am_rm d' mc' ms') mc' ms' np := ⟨rfl, rfl, by show d' + 1 ≤ R.frames; have := C.2.2.2.2.2.2.2.2.2.1; omega, by show 8 + (Y.2.2.1 + 11) + 60 * d' ≤ R.locals; have := C.2.2.2.2.2.2.2.2.2.2.1; have := hy.2.2.2.2.2; omega, am_goodY hy hts, by rw [← am_hd0 hy.1]; exact List.mem_cons_self, hts _ hy.2.1, hts _ hy.2.2.1, hy.2.2.2.1, am_np hy, hts _ hlk⟩; rw [hrn] at h9; exact h9), hini, hts _ hin⟩ ⟨(by have h9 := ad_blind z n ((2, b) :: as) h; unfold ad_Pc at h9; rw [hMe] at h9; exact h9), fun U hU hWU => ⟨rfl, ⟨am_G.go G hWU (by rw [hU]; exact hS.1) (fun q h1 h2 => by rw [hU]; exact hS.2.1 q h1 h2), va_AO.moved hWU.alike ao⟩, by rw [hU]; exact hW⟩⟩ rfl (by rw [List.length_map]; exact hn) hL.1 (by show (as.reverse ++ (2, b) :: st).map (av z) = _; rw [List.map_append, List.map_reverse, List.map_cons, hrf]) (lv_room (by omega)) hdg ⟨by omega, by omega⟩
theorem zaw_callDN {qz : Nat × (Nat → Int)} {M : AMM} {d mc ms : Nat} {K : AO → Nat → AH → Prop} {n pc : Nat} {ls st : List AV} {h : AH} (d' mc' ms' : Nat) {Y : AMM} {np idx : Nat} {as st0 : List AV} (hdg : decode M.2.1 pc = .ok (.invokespecial idx, 3)) (hy : am_yw Y np) (hlk : (M.1.cls, idx, Y.1) ∈ am_NW) (hin : Cond.instanceMethod Y.1 ∈ am_WS) (hini : Y.1.name = "<init>") (hrn : Y.2.2.2.1 = none) {b : Int} {ci N : Nat} {T : u_T} (hci : vwCl[ci]? = some (Y.1.cls, T, N)) (hb : am_at n b ci) (hn : as.length = np) (hs : st0 = as.reverse ++ (2, b) :: st) (hd : d' + 1 ≤ d ∧ mc' ≤ mc ∧ ms' ≤ ms ∧ am_c8 st ≤ 8) (k : AD qz Y d' mc' ms' n ((2, b) :: as) h (az_cont qz M d (mc - mc') (ms - ms') K pc (pc + 3) ls st)) : AZ qz M d mc ms K n pc ls st0 h := by
  subst hs
  intro z hz p l e R s m args below meth c H locs cells slots MC MS la ao X
  obtain ⟨C, G, hS, hW, hI, hls, hst, hL, b1, b2, b3, b4⟩ := X
  have hts := C.2.2.2.2.1
  obtain ⟨hd1, hd2, hd3, hd4⟩ := hd
  have hrs : am_oks st := fun v hv => hst v (by simp [hv])
  have has : am_oks ((2, b) :: as) := fun v hv => hst v (by simp at hv ⊢; first | exact Or.inl hv | (rcases hv with q | q; exact Or.inr (Or.inl q); exact Or.inl q))
  refine az_call hz ao (a := #[]) hd2 hd3 ⟨C, G, hS, hW, hI, hls, hrs, hL, b1, b2, b3, b4⟩ (fun _ _ _ q => q) ?_
  have hM := k has hI z l hz C.2.2.2.2.2.2.2.1
  have h8 := am_cat8 G.2.1 st
  have hb9 := hb.2.1
  have hn9 := hW.2.2
  have hrf : av z (2, b) = .ref (z.2.2.1 + b.toNat) := av_ref z hb.1 (by omega)
  have hMe : ((((2, b) : AV) :: as).map (av z)) = .ref (z.2.2.1 + b.toNat) :: as.map (av z) := by rw [List.map_cons, hrf]
  rw [hMe] at hM
  obtain ⟨r0, hr0, cell, q1, q2, q3, q4⟩ := am_obj hW hb
  cases hr0.symm.trans hci
  obtain ⟨-, hfc, -⟩ := G.1.1 _ _ hci
  exact vx_runIN (b := z.2.2.1 + b.toNat) (As := as.map (av z)) (rest := st.map (av z)) ⟨C.1, C.2.1, C.2.2.1, C.2.2.2.1, hts⟩ hM ⟨(by have h9 : va_CN R s args M.1.cls idx Y.1 "FleetSheet" Y.2.1 Y.2.2.1 Y.2.2.2.1 (am_ws Y) (am_rm d' mc' ms') mc' ms' np := ⟨⟨rfl, rfl, by show d' + 1 ≤ R.frames; have := C.2.2.2.2.2.2.2.2.2.1; omega, by show 8 + (Y.2.2.1 + 11) + 60 * d' ≤ R.locals; have := C.2.2.2.2.2.2.2.2.2.2.1; have := hy.2.2.2.2.2; omega, am_goodY hy hts, by rw [← am_hd0 hy.1]; exact List.mem_cons_self⟩, hts _ hy.2.1, hts _ hy.2.2.1, hy.2.2.2.1, am_np hy, va_Nw.use rfl ((am_Gx G).1 _ hlk)⟩; rw [hrn] at h9; exact h9), hini, hts _ hin⟩ ⟨(by have h9 := ad_blind z n ((2, b) :: as) h; unfold ad_Pc at h9; rw [hMe] at h9; exact h9), fun U hU hWU => ⟨rfl, ⟨am_G.go G hWU (by rw [hU]; exact hS.1) (fun q h1 h2 => by rw [hU]; exact hS.2.1 q h1 h2), va_AO.moved hWU.alike ao⟩, by rw [hU]; exact hW⟩⟩ rfl (by rw [List.length_map]; exact hn) hL.1 (by show (as.reverse ++ (2, b) :: st).map (av z) = _; rw [List.map_append, List.map_reverse, List.map_cons, hrf]) (lv_room (by omega)) hdg ⟨by omega, by omega⟩
