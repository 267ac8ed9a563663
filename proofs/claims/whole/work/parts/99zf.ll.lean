/-! rows that make cells -/
def am_df (t : Nat) : Int := if t = 2 then -1 else 0
theorem am_dfl (z : AMZ) (ty : FieldType) : defaultValue ty = av z (am_tag ty, am_df (am_tag ty)) := by
  cases ty <;> rfl
theorem am_Wd_new {z : AMZ} {h : AH} {H H1 : Heap} {n : Nat} (hn : n < 159) (hW : am_Wd z n h H) (e : am_cell z h H1 n) (z1 : H1.size = H.size + 1) (o1 : ∀ q, q < H.size → H1[q]? = H[q]?) : am_Wd z (n + 1) h H1 := by
  have hs := hW.2.1
  unfold am_sz at hs
  rw [if_pos hn] at hs
  refine ⟨fun k hk => ?_, ?_, by omega⟩
  · by_cases e9 : k = n
    · rw [e9]; exact e
    · exact am_cell_other (fun _ => rfl) (o1 _ (by omega)) (hW.1 k (by omega))
  · unfold am_sz
    by_cases q : n + 1 < 159
    · rw [if_pos q]; omega
    · rw [if_neg q]; omega
theorem am_hsz {z : AMZ} {h : AH} {H : Heap} {n : Nat} (hn : n < 159) (hW : am_Wd z n h H) : H.size = z.2.2.1 + n := by
  have hs := hW.2.1
  unfold am_sz at hs
  rw [if_pos hn] at hs
  exact hs
theorem am_S_new {A : Nat → Prop} {H0 H H1 : Heap} {locs : List Loc} (hS : va_S A H0 H locs) (z1 : H1.size = H.size + 1) (o1 : ∀ q, q < H.size → H1[q]? = H[q]?) : va_S A H0 H1 locs := ⟨Nat.le_trans hS.1 (by omega), fun x h1 h2 => (o1 x (Nat.lt_of_lt_of_le h1 hS.1)).trans (hS.2.1 x h1 h2), hS.2.2⟩
theorem am_avn (z : AMZ) {n : Nat} (hn : n < 159) : av z (2, (n : Int)) = .ref (z.2.2.1 + n) := by
  rw [av_ref z (by omega) (by omega)]
  rfl
/-- what a new cell's number asks -/
def am_RR (n : Nat) (h : AH) : Prop := n = 159 → ∀ (k f : Nat) (r : Int), am_RV k f = some r → h k f = r
theorem am_RR_lt {n : Nat} {h : AH} (hn : n < 159) : am_RR n h := fun e => by omega
theorem aw_new {M : AMM} {d mc ms : Nat} {K : AO → Nat → AH → Prop} {n pc : Nat} {ls st : List AV} {h : AH} {idx ci N : Nat} {Cn : String} {T : u_T} (hn : n + 1 < 159) (hdg : decode M.2.1 pc = .ok (.new idx, 3)) (hc : am_cls ci Cn T N) (hcl : Cond.classLink M.1.cls idx Cn ∈ am_WS) (hinst : Cond.instantiable Cn N ∈ am_WS) (hini : Cond.initialized Cn ∈ am_WS) (hsh : am_SH n = (ci, N)) (hci : ci < 100) (hmc : 1 ≤ mc ∧ N ≤ ms) (hd : ∀ j : Nat, j < N → h n j = am_df (am_FT ci j)) (k : AW M d (mc - 1) (ms - N) K (n + 1) (pc + 3) ls ((2, (n : Int)) :: st) h) : AW M d mc ms K n pc ls st h := by
  intro z p l e R s m args below meth c H locs cells slots MC MS la X
  obtain ⟨C, G, hS, hW, hI, hls, hst, hL, b1, b2, b3, b4⟩ := X
  obtain ⟨hc1, hin, ty0, hty, hnm, htg⟩ := hc
  have hts := C.2.2.2.2.1
  have hKn := G.1.1 ci _ hc1
  refine W.newcK C.1 C.2.1 C.2.2.2.1 (hts _ hcl) (hts _ hinst) (hts _ hini) rfl hdg (by omega) (by omega) hKn.2.1 rfl fun H1 kC hkC e1 z1 o1 => ?_
  have hsz := am_hsz (by omega) hW
  have hob := u_born ty0 hts hin hKn hkC e1 hty
  have hcell : am_cell z h H1 n := by
    unfold am_cell
    rw [hsh]
    dsimp only
    rw [if_pos hci]
    refine ⟨_, hc1, ?_⟩
    rw [← hsz]
    refine hob.to (fun j hj => ?_)
    rw [am_dfl z (ty0 j), htg j hj, hd j hj]
  have hgo := k z p l e R s m args below meth c H1 locs (cells + 1) (slots + N) MC MS la ⟨C, G, am_S_new hS z1 o1, am_Wd_new (by omega) hW hcell z1 o1, ⟨hI.1, am_RR_lt hn⟩, hls, am_oksc (am_ok2 _) hst, hL, by omega, by omega, b3, b4⟩
  rw [List.map_cons, am_avn z (by omega), ← hsz] at hgo
  exact hgo
theorem aw_nai {M : AMM} {d mc ms : Nat} {K : AO → Nat → AH → Prop} {n pc : Nat} {ls st : List AV} {h : AH} {N : Nat} (hn : n < 159) (hR : am_RR (n + 1) h) (hdg : decode M.2.1 pc = .ok (.newarray .int, 2)) (harr : Cond.arrayClass .int ∈ am_WS) (hsh : am_SH n = (100, N)) (hN : N ≤ 20000) (hcb : N * componentBytes (newarray.typeOf .int) ≤ 536870912) (hmc : 1 ≤ mc ∧ N ≤ ms) (hd : ∀ j : Int, h n j = 0) (k : AW M d (mc - 1) (ms - N) K (n + 1) (pc + 2) ls ((2, (n : Int)) :: st) h) : AW M d mc ms K n pc ls ((0, (N : Int)) :: st) h := by
  intro z p l e R s m args below meth c H locs cells slots MC MS la X
  obtain ⟨C, G, hS, hW, hI, hls, hst, hL, b1, b2, b3, b4⟩ := X
  have hts := C.2.2.2.2.1
  have hsz := am_hsz hn hW
  show W p l e R s m args below meth c H locs cells slots (vx_MQ below (am_Q z K) (am_X z K) args s MC MS (am_A z)) (F0 m pc la (.int (Int32.ofInt N) :: st.map (av z)))
  refine va_newaK (atype := .int) (N := N) C.1 C.2.1 (hts _ harr) rfl hdg rfl (fun q => am_inb (n := N + 1) (j := (N : Int)) (by omega) (by omega) (by omega) (Or.inl q)) (by rw [am_nat (by omega) (by omega)]; rfl) hcb (by omega) (by omega) rfl fun H1 cA e1 z1 o1 hAr hNm => ?_
  have hcA : cA = z.2.1 100 := Option.some.inj (hNm.symm.trans (G.1.2 0 _ rfl).2)
  have hcell : am_cell z h H1 n := by
    unfold am_cell
    rw [hsh]
    dsimp only
    rw [if_neg (by decide), ← hsz, e1, hcA]
    congr 2
    funext j
    rw [hd]
    rfl
  have hgo := k z p l e R s m args below meth c H1 locs (cells + 1) (slots + N) MC MS la ⟨C, G, am_S_new hS z1 o1, am_Wd_new hn hW hcell z1 o1, ⟨hI.1, hR⟩, hls, am_oksc (am_ok2 _) (am_okst hst), hL, by omega, by omega, b3, b4⟩
  rw [List.map_cons, am_avn z hn, ← hsz] at hgo
  exact hgo
theorem aw_naz {M : AMM} {d mc ms : Nat} {K : AO → Nat → AH → Prop} {n pc : Nat} {ls st : List AV} {h : AH} {N : Nat} (hn : n < 159) (hR : am_RR (n + 1) h) (hdg : decode M.2.1 pc = .ok (.newarray .boolean, 2)) (harr : Cond.arrayClass .boolean ∈ am_WS) (hsh : am_SH n = (110, N)) (hN : N ≤ 20000) (hcb : N * componentBytes (newarray.typeOf .boolean) ≤ 536870912) (hmc : 1 ≤ mc ∧ N ≤ ms) (hd : ∀ j : Int, h n j = 0) (k : AW M d (mc - 1) (ms - N) K (n + 1) (pc + 2) ls ((2, (n : Int)) :: st) h) : AW M d mc ms K n pc ls ((0, (N : Int)) :: st) h := by
  intro z p l e R s m args below meth c H locs cells slots MC MS la X
  obtain ⟨C, G, hS, hW, hI, hls, hst, hL, b1, b2, b3, b4⟩ := X
  have hts := C.2.2.2.2.1
  have hsz := am_hsz hn hW
  show W p l e R s m args below meth c H locs cells slots (vx_MQ below (am_Q z K) (am_X z K) args s MC MS (am_A z)) (F0 m pc la (.int (Int32.ofInt N) :: st.map (av z)))
  refine va_newaK (atype := .boolean) (N := N) C.1 C.2.1 (hts _ harr) rfl hdg rfl (fun q => am_inb (n := N + 1) (j := (N : Int)) (by omega) (by omega) (by omega) (Or.inl q)) (by rw [am_nat (by omega) (by omega)]; rfl) hcb (by omega) (by omega) rfl fun H1 cA e1 z1 o1 hAr hNm => ?_
  have hcA : cA = z.2.1 110 := Option.some.inj (hNm.symm.trans (G.1.2 1 _ rfl).2)
  have hcell : am_cell z h H1 n := by
    unfold am_cell
    rw [hsh]
    dsimp only
    rw [if_neg (by decide), ← hsz, e1, hcA]
    congr 2
    funext j
    rw [hd]
    rfl
  have hgo := k z p l e R s m args below meth c H1 locs (cells + 1) (slots + N) MC MS la ⟨C, G, am_S_new hS z1 o1, am_Wd_new hn hW hcell z1 o1, ⟨hI.1, hR⟩, hls, am_oksc (am_ok2 _) (am_okst hst), hL, by omega, by omega, b3, b4⟩
  rw [List.map_cons, am_avn z hn, ← hsz] at hgo
  exact hgo
theorem aw_nal {M : AMM} {d mc ms : Nat} {K : AO → Nat → AH → Prop} {n pc : Nat} {ls st : List AV} {h : AH} {N : Nat} (hn : n < 159) (hR : am_RR (n + 1) h) (hdg : decode M.2.1 pc = .ok (.newarray .long, 2)) (harr : Cond.arrayClass .long ∈ am_WS) (hsh : am_SH n = (101, N)) (hN : N ≤ 20000) (hcb : N * componentBytes (newarray.typeOf .long) ≤ 536870912) (hmc : 1 ≤ mc ∧ N ≤ ms) (hd : ∀ j : Int, h n j = 0) (k : AW M d (mc - 1) (ms - N) K (n + 1) (pc + 2) ls ((2, (n : Int)) :: st) h) : AW M d mc ms K n pc ls ((0, (N : Int)) :: st) h := by
  intro z p l e R s m args below meth c H locs cells slots MC MS la X
  obtain ⟨C, G, hS, hW, hI, hls, hst, hL, b1, b2, b3, b4⟩ := X
  have hts := C.2.2.2.2.1
  have hsz := am_hsz hn hW
  show W p l e R s m args below meth c H locs cells slots (vx_MQ below (am_Q z K) (am_X z K) args s MC MS (am_A z)) (F0 m pc la (.int (Int32.ofInt N) :: st.map (av z)))
  refine va_newaK (atype := .long) (N := N) C.1 C.2.1 (hts _ harr) rfl hdg rfl (fun q => am_inb (n := N + 1) (j := (N : Int)) (by omega) (by omega) (by omega) (Or.inl q)) (by rw [am_nat (by omega) (by omega)]; rfl) hcb (by omega) (by omega) rfl fun H1 cA e1 z1 o1 hAr hNm => ?_
  have hcA : cA = z.2.1 101 := Option.some.inj (hNm.symm.trans (G.1.2 2 _ rfl).2)
  have hcell : am_cell z h H1 n := by
    unfold am_cell
    rw [hsh]
    dsimp only
    rw [if_neg (by decide), ← hsz, e1, hcA]
    congr 2
    funext j
    rw [hd]
    rfl
  have hgo := k z p l e R s m args below meth c H1 locs (cells + 1) (slots + N) MC MS la ⟨C, G, am_S_new hS z1 o1, am_Wd_new hn hW hcell z1 o1, ⟨hI.1, hR⟩, hls, am_oksc (am_ok2 _) (am_okst hst), hL, by omega, by omega, b3, b4⟩
  rw [List.map_cons, am_avn z hn, ← hsz] at hgo
  exact hgo
theorem aw_nad {M : AMM} {d mc ms : Nat} {K : AO → Nat → AH → Prop} {n pc : Nat} {ls st : List AV} {h : AH} {N : Nat} (hn : n < 159) (hR : am_RR (n + 1) h) (hdg : decode M.2.1 pc = .ok (.newarray .double, 2)) (harr : Cond.arrayClass .double ∈ am_WS) (hsh : am_SH n = (104, N)) (hN : N ≤ 20000) (hcb : N * componentBytes (newarray.typeOf .double) ≤ 536870912) (hmc : 1 ≤ mc ∧ N ≤ ms) (hd : ∀ j : Int, h n j = 0) (k : AW M d (mc - 1) (ms - N) K (n + 1) (pc + 2) ls ((2, (n : Int)) :: st) h) : AW M d mc ms K n pc ls ((0, (N : Int)) :: st) h := by
  intro z p l e R s m args below meth c H locs cells slots MC MS la X
  obtain ⟨C, G, hS, hW, hI, hls, hst, hL, b1, b2, b3, b4⟩ := X
  have hts := C.2.2.2.2.1
  have hsz := am_hsz hn hW
  show W p l e R s m args below meth c H locs cells slots (vx_MQ below (am_Q z K) (am_X z K) args s MC MS (am_A z)) (F0 m pc la (.int (Int32.ofInt N) :: st.map (av z)))
  refine va_newaK (atype := .double) (N := N) C.1 C.2.1 (hts _ harr) rfl hdg rfl (fun q => am_inb (n := N + 1) (j := (N : Int)) (by omega) (by omega) (by omega) (Or.inl q)) (by rw [am_nat (by omega) (by omega)]; rfl) hcb (by omega) (by omega) rfl fun H1 cA e1 z1 o1 hAr hNm => ?_
  have hcA : cA = z.2.1 104 := Option.some.inj (hNm.symm.trans (G.1.2 3 _ rfl).2)
  have hcell : am_cell z h H1 n := by
    unfold am_cell
    rw [hsh]
    dsimp only
    rw [if_neg (by decide), ← hsz, e1, hcA]
    congr 2
    funext j
    rw [hd]
    rfl
  have hgo := k z p l e R s m args below meth c H1 locs (cells + 1) (slots + N) MC MS la ⟨C, G, am_S_new hS z1 o1, am_Wd_new hn hW hcell z1 o1, ⟨hI.1, hR⟩, hls, am_oksc (am_ok2 _) (am_okst hst), hL, by omega, by omega, b3, b4⟩
  rw [List.map_cons, am_avn z hn, ← hsz] at hgo
  exact hgo
theorem zaw_new {qz : Nat × (Nat → Int)} {M : AMM} {d mc ms : Nat} {K : AO → Nat → AH → Prop} {n pc : Nat} {ls st : List AV} {h : AH} {idx ci N : Nat} {Cn : String} {T : u_T} (hn : n + 1 < 159) (hdg : decode M.2.1 pc = .ok (.new idx, 3)) (hc : am_cls ci Cn T N) (hcl : Cond.classLink M.1.cls idx Cn ∈ am_WS) (hinst : Cond.instantiable Cn N ∈ am_WS) (hini : Cond.initialized Cn ∈ am_WS) (hsh : am_SH n = (ci, N)) (hci : ci < 100) (hmc : 1 ≤ mc ∧ N ≤ ms) (hd : ∀ j : Nat, j < N → h n j = am_df (am_FT ci j)) (k : AZ qz M d (mc - 1) (ms - N) K (n + 1) (pc + 3) ls ((2, (n : Int)) :: st) h) : AZ qz M d mc ms K n pc ls st h := by
  intro z hz p l e R s m args below meth c H locs cells slots MC MS la ao X
  obtain ⟨C, G, hS, hW, hI, hls, hst, hL, b1, b2, b3, b4⟩ := X
  obtain ⟨hc1, hin, ty0, hty, hnm, htg⟩ := hc
  have hts := C.2.2.2.2.1
  have hKn := G.1.1 ci _ hc1
  refine W.newcK C.1 C.2.1 C.2.2.2.1 (hts _ hcl) (hts _ hinst) (hts _ hini) rfl hdg (by omega) (by omega) hKn.2.1 rfl fun H1 kC hkC e1 z1 o1 => ?_
  have hsz := am_hsz (by omega) hW
  have hob := u_born ty0 hts hin hKn hkC e1 hty
  have hcell : am_cell z h H1 n := by
    unfold am_cell
    rw [hsh]
    dsimp only
    rw [if_pos hci]
    refine ⟨_, hc1, ?_⟩
    rw [← hsz]
    refine hob.to (fun j hj => ?_)
    rw [am_dfl z (ty0 j), htg j hj, hd j hj]
  have hgo := k z hz p l e R s m args below meth c H1 locs (cells + 1) (slots + N) MC MS la ao ⟨C, G, am_S_new hS z1 o1, am_Wd_new (by omega) hW hcell z1 o1, ⟨hI.1, am_RR_lt hn⟩, hls, am_oksc (am_ok2 _) hst, hL, by omega, by omega, b3, b4⟩
  rw [List.map_cons, am_avn z (by omega), ← hsz] at hgo
  exact hgo
theorem zaw_naz {qz : Nat × (Nat → Int)} {M : AMM} {d mc ms : Nat} {K : AO → Nat → AH → Prop} {n pc : Nat} {ls st : List AV} {h : AH} {N : Nat} (hn : n < 159) (hR : am_RR (n + 1) h) (hdg : decode M.2.1 pc = .ok (.newarray .boolean, 2)) (harr : Cond.arrayClass .boolean ∈ am_WS) (hsh : am_SH n = (110, N)) (hN : N ≤ 20000) (hcb : N * componentBytes (newarray.typeOf .boolean) ≤ 536870912) (hmc : 1 ≤ mc ∧ N ≤ ms) (hd : ∀ j : Int, h n j = 0) (k : AZ qz M d (mc - 1) (ms - N) K (n + 1) (pc + 2) ls ((2, (n : Int)) :: st) h) : AZ qz M d mc ms K n pc ls ((0, (N : Int)) :: st) h := by
  intro z hz p l e R s m args below meth c H locs cells slots MC MS la ao X
  obtain ⟨C, G, hS, hW, hI, hls, hst, hL, b1, b2, b3, b4⟩ := X
  have hts := C.2.2.2.2.1
  have hsz := am_hsz hn hW
  show W p l e R s m args below meth c H locs cells slots (vx_MQ below (am_Q z K) (am_X z K) args s MC MS (am_A z)) (F0 m pc la (.int (Int32.ofInt N) :: st.map (av z)))
  refine va_newaK (atype := .boolean) (N := N) C.1 C.2.1 (hts _ harr) rfl hdg rfl (fun q => am_inb (n := N + 1) (j := (N : Int)) (by omega) (by omega) (by omega) (Or.inl q)) (by rw [am_nat (by omega) (by omega)]; rfl) hcb (by omega) (by omega) rfl fun H1 cA e1 z1 o1 hAr hNm => ?_
  have hcA : cA = z.2.1 110 := Option.some.inj (hNm.symm.trans (G.1.2 1 _ rfl).2)
  have hcell : am_cell z h H1 n := by
    unfold am_cell
    rw [hsh]
    dsimp only
    rw [if_neg (by decide), ← hsz, e1, hcA]
    congr 2
    funext j
    rw [hd]
    rfl
  have hgo := k z hz p l e R s m args below meth c H1 locs (cells + 1) (slots + N) MC MS la ao ⟨C, G, am_S_new hS z1 o1, am_Wd_new hn hW hcell z1 o1, ⟨hI.1, hR⟩, hls, am_oksc (am_ok2 _) (am_okst hst), hL, by omega, by omega, b3, b4⟩
  rw [List.map_cons, am_avn z hn, ← hsz] at hgo
  exact hgo
theorem zaw_nal {qz : Nat × (Nat → Int)} {M : AMM} {d mc ms : Nat} {K : AO → Nat → AH → Prop} {n pc : Nat} {ls st : List AV} {h : AH} {N : Nat} (hn : n < 159) (hR : am_RR (n + 1) h) (hdg : decode M.2.1 pc = .ok (.newarray .long, 2)) (harr : Cond.arrayClass .long ∈ am_WS) (hsh : am_SH n = (101, N)) (hN : N ≤ 20000) (hcb : N * componentBytes (newarray.typeOf .long) ≤ 536870912) (hmc : 1 ≤ mc ∧ N ≤ ms) (hd : ∀ j : Int, h n j = 0) (k : AZ qz M d (mc - 1) (ms - N) K (n + 1) (pc + 2) ls ((2, (n : Int)) :: st) h) : AZ qz M d mc ms K n pc ls ((0, (N : Int)) :: st) h := by
  intro z hz p l e R s m args below meth c H locs cells slots MC MS la ao X
  obtain ⟨C, G, hS, hW, hI, hls, hst, hL, b1, b2, b3, b4⟩ := X
  have hts := C.2.2.2.2.1
  have hsz := am_hsz hn hW
  show W p l e R s m args below meth c H locs cells slots (vx_MQ below (am_Q z K) (am_X z K) args s MC MS (am_A z)) (F0 m pc la (.int (Int32.ofInt N) :: st.map (av z)))
  refine va_newaK (atype := .long) (N := N) C.1 C.2.1 (hts _ harr) rfl hdg rfl (fun q => am_inb (n := N + 1) (j := (N : Int)) (by omega) (by omega) (by omega) (Or.inl q)) (by rw [am_nat (by omega) (by omega)]; rfl) hcb (by omega) (by omega) rfl fun H1 cA e1 z1 o1 hAr hNm => ?_
  have hcA : cA = z.2.1 101 := Option.some.inj (hNm.symm.trans (G.1.2 2 _ rfl).2)
  have hcell : am_cell z h H1 n := by
    unfold am_cell
    rw [hsh]
    dsimp only
    rw [if_neg (by decide), ← hsz, e1, hcA]
    congr 2
    funext j
    rw [hd]
    rfl
  have hgo := k z hz p l e R s m args below meth c H1 locs (cells + 1) (slots + N) MC MS la ao ⟨C, G, am_S_new hS z1 o1, am_Wd_new hn hW hcell z1 o1, ⟨hI.1, hR⟩, hls, am_oksc (am_ok2 _) (am_okst hst), hL, by omega, by omega, b3, b4⟩
  rw [List.map_cons, am_avn z hn, ← hsz] at hgo
  exact hgo
theorem zaw_nad {qz : Nat × (Nat → Int)} {M : AMM} {d mc ms : Nat} {K : AO → Nat → AH → Prop} {n pc : Nat} {ls st : List AV} {h : AH} {N : Nat} (hn : n < 159) (hR : am_RR (n + 1) h) (hdg : decode M.2.1 pc = .ok (.newarray .double, 2)) (harr : Cond.arrayClass .double ∈ am_WS) (hsh : am_SH n = (104, N)) (hN : N ≤ 20000) (hcb : N * componentBytes (newarray.typeOf .double) ≤ 536870912) (hmc : 1 ≤ mc ∧ N ≤ ms) (hd : ∀ j : Int, h n j = 0) (k : AZ qz M d (mc - 1) (ms - N) K (n + 1) (pc + 2) ls ((2, (n : Int)) :: st) h) : AZ qz M d mc ms K n pc ls ((0, (N : Int)) :: st) h := by
  intro z hz p l e R s m args below meth c H locs cells slots MC MS la ao X
  obtain ⟨C, G, hS, hW, hI, hls, hst, hL, b1, b2, b3, b4⟩ := X
  have hts := C.2.2.2.2.1
  have hsz := am_hsz hn hW
  show W p l e R s m args below meth c H locs cells slots (vx_MQ below (am_Q z K) (am_X z K) args s MC MS (am_A z)) (F0 m pc la (.int (Int32.ofInt N) :: st.map (av z)))
  refine va_newaK (atype := .double) (N := N) C.1 C.2.1 (hts _ harr) rfl hdg rfl (fun q => am_inb (n := N + 1) (j := (N : Int)) (by omega) (by omega) (by omega) (Or.inl q)) (by rw [am_nat (by omega) (by omega)]; rfl) hcb (by omega) (by omega) rfl fun H1 cA e1 z1 o1 hAr hNm => ?_
  have hcA : cA = z.2.1 104 := Option.some.inj (hNm.symm.trans (G.1.2 3 _ rfl).2)
  have hcell : am_cell z h H1 n := by
    unfold am_cell
    rw [hsh]
    dsimp only
    rw [if_neg (by decide), ← hsz, e1, hcA]
    congr 2
    funext j
    rw [hd]
    rfl
  have hgo := k z hz p l e R s m args below meth c H1 locs (cells + 1) (slots + N) MC MS la ao ⟨C, G, am_S_new hS z1 o1, am_Wd_new hn hW hcell z1 o1, ⟨hI.1, hR⟩, hls, am_oksc (am_ok2 _) (am_okst hst), hL, by omega, by omega, b3, b4⟩
  rw [List.map_cons, am_avn z hn, ← hsz] at hgo
  exact hgo
theorem zaw_naq {qz : Nat × (Nat → Int)} {M : AMM} {d mc ms : Nat} {K : AO → Nat → AH → Prop} {n pc : Nat} {ls st : List AV} {h : AH} {N idx : Nat} {Cn : String} (hCn : Cn = "FleetSheet$Sheet") (hn : n + 1 < 159) (hdg : decode M.2.1 pc = .ok (.anewarray idx, 3)) (hcl : Cond.classLink M.1.cls idx Cn ∈ am_WS) (hsh : am_SH n = (102, N)) (hN : N ≤ 20000) (hmc : 1 ≤ mc ∧ N ≤ ms) (hd : ∀ j : Int, h n j = -1) (k : AZ qz M d (mc - 1) (ms - N) K (n + 1) (pc + 3) ls ((2, (n : Int)) :: st) h) : AZ qz M d mc ms K n pc ls ((0, (N : Int)) :: st) h := by
  intro z hz p l e R s m args below meth c H locs cells slots MC MS la ao X
  obtain ⟨C, G, hS, hW, hI, hls, hst, hL, b1, b2, b3, b4⟩ := X
  have hts := C.2.2.2.2.1
  have hsz := am_hsz (by omega) hW
  have hRA : va_RA s (z.2.1 102) (.object Cn) := by
    rw [hCn]
    exact (G.1.2 4 _ rfl).2
  have e9 : (Int32.ofInt (N : Int)).toNatClampNeg = N := by rw [am_nat (by omega) (by omega)]; rfl
  show W p l e R s m args below meth c H locs cells slots (vx_MQ below (am_Q z K) (am_X z K) args s MC MS (am_A z)) (F0 m pc la (.int (Int32.ofInt N) :: st.map (av z)))
  refine W.anew C.1 C.2.1 C.2.2.2.1 (hts _ hcl) (by rw [hCn]; exact va_AO.use ao) rfl hdg rfl (fun q => am_inb (n := N + 1) (j := (N : Int)) (by omega) (by omega) (by omega) (Or.inl q)) (by rw [e9]; omega) (by omega) (by rw [e9]; omega) fun cA kA comp f1 f2 f3 f4 => ?_
  rw [e9]
  generalize hH1 : H.push ({ cls := cA, slots := Array.replicate N .null, vm := .none } : Cell) = H1
  have z1 : H1.size = H.size + 1 := by rw [← hH1, Array.size_push]
  have e1 : H1[H.size]? = some (arrV cA N (fun _ => .null)) := by rw [← hH1, Array.getElem?_push_size, ← arrV_new]
  have o1 : ∀ q : Nat, q < H.size → H1[q]? = H[q]? := fun q hq => by rw [← hH1, Array.getElem?_push, if_neg (Nat.ne_of_lt hq)]
  obtain ⟨kB, compB, q1, q2, q3, q4⟩ := hRA
  have hcA : cA = z.2.1 102 := Option.some.inj (f1.symm.trans q4)
  have hcell : am_cell z h H1 n := by
    unfold am_cell
    rw [hsh]
    dsimp only
    rw [if_neg (by decide), ← hsz, e1, hcA]
    congr 2
    funext j
    rw [hd]
    rfl
  have hgo := k z hz p l e R s m args below meth c H1 locs (cells + 1) (slots + N) MC MS la ao ⟨C, G, am_S_new hS z1 o1, am_Wd_new (by omega) hW hcell z1 o1, ⟨hI.1, am_RR_lt hn⟩, hls, am_oksc (am_ok2 _) (am_okst hst), hL, by omega, by omega, b3, b4⟩
  rw [List.map_cons, am_avn z (by omega), ← hsz] at hgo
  exact hgo
theorem zaw_qast {qz : Nat × (Nat → Int)} {M : AMM} {d mc ms : Nat} {K : AO → Nat → AH → Prop} {n pc : Nat} {ls st : List AV} {h : AH} {b i v : Int} {len : Nat} (hn : n < 159) (hdg : decode M.2.1 pc = .ok (.aastore, 1)) (hb : am_ar n b 102 len) (hi : 0 ≤ i ∧ i < len) (hv : am_at n v 2) (k : AZ qz M d mc ms K n (pc + 1) ls st (up h b i v)) : AZ qz M d mc ms K n pc ls ((2, v) :: (0, i) :: (2, b) :: st) h := by
  intro z hz p l e R s m args below meth c H locs cells slots MC MS la ao X
  obtain ⟨C, G, hS, hW, hI, hls, hst, hL, b1, b2, b3, b4⟩ := X
  have hc := am_arr hW hb
  have ri := (am_oksh (am_okst hst)).1 rfl
  dsimp only at ri
  obtain ⟨r, h1, cellV, g1, g2, g3, -⟩ := am_obj hW hv
  have hr : r.1 = "FleetSheet$Sheet" := by cases h1; rfl
  have hcls := (G.1.1 2 r h1).2
  obtain ⟨kA, comp, k1, k2, k3, -⟩ := (G.1.2 4 _ rfl).2
  have hcomp : comp = z.1.1 2 := Option.some.inj (k3.symm.trans (by rw [← hr]; exact hcls.1))
  subst hcomp
  obtain ⟨kC, hkC, -⟩ := hcls.2
  show W p l e R s m args below meth c H locs cells slots (vx_MQ below (am_Q z K) (am_X z K) args s MC MS (am_A z)) (F0 m pc la (av z (2, v) :: .int (Int32.ofInt i) :: av z (2, b) :: st.map (av z)))
  rw [av_ref z hb.1 (by have := hb.2.1; omega), av_ref z hv.1 (by have := hv.2.1; omega)]
  have hin := am_inb (n := len) hi.1 hi.2 ri.2
  refine W.aast C.1 C.2.1 hc (fun q h => by cases h) (fun h => by cases h) k1 k2 rfl hkC ⟨fun q => hin (Or.inl q), by rw [arrV_size]; exact Nat.not_le.mp fun q => hin (Or.inr q)⟩ g1 (fun q h => by rw [g3] at h; cases h) (by rw [g2]; exact hkC) (by rw [g2]; exact va_assign hcls) rfl rfl hdg fun H' e1 e2 e3 => ?_
  rw [arrV_store, am_nat hi.1 ri.2] at e1
  refine k z hz p l e R s m args below meth c H' (locs ++ [⟨z.2.2.1 + b.toNat, _⟩]) cells slots MC MS la ao ⟨C, G, hS.put e2 e3 (Nat.le_add_right _ _), am_Wd_arr (v := v) hW hb hi.1 (by rw [e1, ← av_ref z hv.1 (by have := hv.2.1; omega)]) e2 e3, am_inv_up hI hb.1 hi.1 (by rw [am_T_ar hb]; exact am_ok2 _) (Or.inr hn), hls, am_okst (am_okst (am_okst hst)), hL, b1, b2, b3, b4⟩
