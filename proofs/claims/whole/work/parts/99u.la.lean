/-! methods with a table: words, calls, catching -/
def am_ywX (Y : AMM) (np : Nat) : Prop := Y.2.2.2.2 ≠ [] ∧ Cond.codeWith Y.1 Y.2.1 Y.2.2.1 Y.2.2.2.1 Y.2.2.2.2 ∈ am_WS ∧ Cond.initialized Y.1.cls ∈ am_WS ∧ (Y.1.cls ≠ "java/lang/invoke/MethodHandle" ∧ Y.1.cls ≠ "java/lang/invoke/VarHandle") ∧ (parseMethodDescriptor Y.1.desc).map (fun s => s.parameters.length) = some np ∧ Y.2.2.1 ≤ 41
theorem am_hdX {Y : AMM} (h : Y.2.2.2.2 ≠ []) : am_hd Y = .codeWith Y.1 Y.2.1 Y.2.2.1 Y.2.2.2.1 Y.2.2.2.2 := if_neg h
theorem am_goodYX {Y : AMM} {np : Nat} {args : Array Value} {s : State} (hy : am_ywX Y np) (hts : ∀ w ∈ am_WS, w.before args s = true) : ∀ w ∈ am_ws Y, ∀ (a' : Array Value) (U : State), s.WarmedH U.vm → w.before a' U = true := by
  intro w hw
  rcases List.mem_cons.mp hw with e | e
  · rw [e, am_hdX hy.1]
    exact am_good hts _ hy.2.1
  · exact am_good hts w e
theorem am_npX {Y : AMM} {np : Nat} (hy : am_ywX Y np) : ∀ sig, parseMethodDescriptor Y.1.desc = some sig → np = sig.parameters.length := by
  intro sig e
  have h := hy.2.2.2.2.1
  rw [e] at h
  exact (Option.some.inj h).symm
/-- a call is the walk of the body from its entry -/
theorem ac_ofX {M : AMM} {d mc ms n : Nat} {as ls : List AV} {h : AH} {K : AO → Nat → AH → Prop} (hy : plainName M.1.cls = true) (hh : M.2.2.2.2 ≠ []) (hl : (am_fs as).length ≤ M.2.2.1) (he : am_en as M.2.2.1 = ls) (k : AW M d mc ms K n 0 ls [] h) : AC M d mc ms n as h K := by
  intro hok hI z l hl2
  subst he
  refine vx_ofWH (cc := M.2.1) (maxL := M.2.2.1) (ret := M.2.2.2.1) (hh := M.2.2.2.2) (ws' := am_WS) hy (by unfold am_ws; rw [am_hdX hh]) ?_
  intro p e s m args below meth c s₁ B hml hv
  obtain ⟨rfl, hG, hW⟩ := hv
  rw [lg_entry_eq]
  have hts : ∀ w ∈ am_WS, w.before _ s = true := fun w hw => atoms_spec (ws := am_ws M) B.pre w (List.mem_cons_of_mem _ hw)
  have hcw := atoms_spec (ws := am_ws M) B.pre (am_hd M) List.mem_cons_self
  rw [am_hdX hh] at hcw
  have htab : c.exceptionTable.toList = tableOf M.2.2.2.2 := vx_table (x := M.1) B hcw
  exact k z p l e _ s m _ below meth c s.heap [] 0 0 mc ms _ ⟨⟨B.exec, B.bytes, hml, findClass_of_methodNamed B.named, hts, B.returns, B.notSynchronized, hl2, htab, Nat.le_refl _, Nat.le_refl _, (name_of_methodNamed B.named B.method).1⟩, hG, va_S.rf, hW, hI, am_oksen hok, am_nil, am_Len hG.2.1 hl, by omega, by omega, Nat.le_refl _, Nat.le_refl _⟩
/-- caught where the class is told, behind entries of other classes -/
theorem ax_catA {M : AMM} {d mc ms : Nat} {K : AO → Nat → AH → Prop} {n pc : Nat} {ls : List AV} {h : AH} {E : String} (pr : List (Nat × Nat × Nat × Nat)) (x : Nat × Nat × Nat × Nat) (sf : List (Nat × Nat × Nat × Nat)) (hs : tableOf M.2.2.2.2 = tableOf pr ++ tableOf [x] ++ tableOf sf) (hp : ∀ y ∈ tableOf pr, y.catchType ≠ 0 ∧ ∃ nm, Cond.classLink M.1.cls y.catchType nm ∈ am_WS ∧ nm ∈ am_EX ∧ E ≠ nm) (ex : ExceptionTableEntry) (hex : tableOf [x] = [ex]) (hx : covers ex pc = true) (h0 : ex.catchType ≠ 0) (hl : Cond.classLink M.1.cls ex.catchType E ∈ am_WS) (hE : E ∈ am_EX)
    (k : ∀ (z : AMZ) (p : Program) (l : Launch) (e : Env) (R : Room) (s : State) (m : MethodId) (args : Array Value) (below : List Frame) (meth : Method) (c : Code) (H : Heap) (locs : List Loc) (cells slots MC MS : Nat) (la : Array Slot), am_S M d mc ms n ls [] h z p l R s m args meth c H locs cells slots MC MS la → ∀ q : Nat, W p l e R s m args below meth c H locs cells slots (vx_MQ below (am_Q z K) (am_X z K) args s MC MS (am_A z)) (F0 m ex.handlerPc la [.ref q])) : AX M d mc ms K n pc ls h E := by
  intro z p l e R s m args below meth c H locs cells slots MC MS la X q ce rest hq hv hcl
  have X0 := X
  obtain ⟨C, G, hS, hW, hI, hls, hst, hL, b1, b2, b3, b4⟩ := X
  obtain ⟨x1, x2, x4, x3⟩ := am_Gx G
  have hts := C.2.2.2.2.1
  have ht := C.2.2.2.2.2.2.2.2.1
  rw [hs, hex] at ht
  refine vx_catch (own := M.1.cls) (name := E) (E := E) C.2.2.2.1 (tableOf pr) ex (tableOf sf) (by rw [ht, List.append_assoc]; rfl) (fun y hy => Or.inr ?_) hx h0 (hts _ hl) (va_Nw.use rfl (x2 E hE)) hq hv hcl (k z p l e R s m args below meth c H locs cells slots MC MS la X0 q)
  obtain ⟨h1, nm, h2, h3, h4⟩ := hp y hy
  exact ⟨h1, nm, hts _ h2, x3 E hE nm h3 h4⟩
theorem ax_cat {M : AMM} {d mc ms : Nat} {K : AO → Nat → AH → Prop} {n pc i hpc len : Nat} {ls : List AV} {h : AH} {E : String} (pr : List (Nat × Nat × Nat × Nat)) (x : Nat × Nat × Nat × Nat) (sf : List (Nat × Nat × Nat × Nat)) (hs : tableOf M.2.2.2.2 = tableOf pr ++ tableOf [x] ++ tableOf sf) (hp : ∀ y ∈ tableOf pr, y.catchType ≠ 0 ∧ ∃ nm, Cond.classLink M.1.cls y.catchType nm ∈ am_WS ∧ nm ∈ am_EX ∧ E ≠ nm) (ex : ExceptionTableEntry) (hex : tableOf [x] = [ex]) (hx : covers ex pc = true) (h0 : ex.catchType ≠ 0) (hl : Cond.classLink M.1.cls ex.catchType E ∈ am_WS) (hE : E ∈ am_EX) (hh : ex.handlerPc = hpc) (hi : i < M.2.2.1)
    (hdg : decode M.2.1 hpc = .ok (.astore i, 2) ∧ len = 2 ∨ (∃ kf : Fin 4, (kf : Nat) = i ∧ decode M.2.1 hpc = .ok (.astore_n kf, 1) ∧ len = 1)) (k : AW M d mc ms K n (hpc + len) [] [] h) : AX M d mc ms K n pc ls h E := by
  subst hh
  refine ax_catA pr x sf hs hp ex hex hx h0 hl hE (fun z p l e R s m args below meth c H locs cells slots MC MS la X q => ?_)
  obtain ⟨C, G, hS, hW, hI, hls, hst, hL, b1, b2, b3, b4⟩ := X
  have hgo : ∀ la2 : Array Slot, la2.size = M.2.2.1 → lv_wf la2 → W p l e R s m args below meth c H locs cells slots (vx_MQ below (am_Q z K) (am_X z K) args s MC MS (am_A z)) (F0 m (ex.handlerPc + len) la2 []) := fun la2 q1 q2 => k z p l e R s m args below meth c H locs cells slots MC MS la2 ⟨C, G, hS, hW, hI, am_nil, am_nil, ⟨q1, q2, fun j v hv => by cases hv⟩, b1, b2, b3, b4⟩
  rcases hdg with ⟨q1, q2⟩ | ⟨kf, q0, q1, q2⟩
  · subst q2
    exact lv_astore C.1 C.2.1 q1 hL.has (by omega) rfl (fun la2 hla2 => hgo la2 hla2.1 hla2.2.1)
  · subst q2
    exact lv_astore_n C.1 C.2.1 q1 rfl hL.has (by omega) rfl (fun la2 hla2 => hgo la2 hla2.1 hla2.2.1)
theorem cl_L_13 : Cond.classLink RL 13 "java/lang/IllegalStateException" ∈ am_WS := (am_mt 568 (by decide +kernel) (by decide +kernel))
theorem cl_L_19 : Cond.classLink RL 19 "java/lang/IllegalArgumentException" ∈ am_WS := (am_mt 650 (by decide +kernel) (by decide +kernel))
theorem cl_L_25 : Cond.classLink RL 25 "java/lang/IndexOutOfBoundsException" ∈ am_WS := (am_mt 698 (by decide +kernel) (by decide +kernel))
def mL_append : AMM := (yL_append, cL_append, 8, some .int, [(0, 16, 19, 13)])
theorem yw_L_append : am_ywX mL_append 7 := ⟨(fun h => by cases h), (am_mt 567 (by decide +kernel) (by decide +kernel)), (am_mt 0 (by decide +kernel) (by decide +kernel)), by decide +kernel, by decide +kernel, by decide⟩
theorem sm_L_append : Cond.static mL_append.1 ∈ am_WS := (am_mt 566 (by decide +kernel) (by decide +kernel))
def mL_count : AMM := (yL_count, cL_count, 4, some .int, [(0, 9, 12, 19)])
theorem yw_L_count : am_ywX mL_count 3 := ⟨(fun h => by cases h), (am_mt 649 (by decide +kernel) (by decide +kernel)), (am_mt 0 (by decide +kernel) (by decide +kernel)), by decide +kernel, by decide +kernel, by decide⟩
theorem sm_L_count : Cond.static mL_count.1 ∈ am_WS := (am_mt 648 (by decide +kernel) (by decide +kernel))
def mL_ship : AMM := (yL_ship, cL_ship, 5, some .int, [(0, 10, 13, 25), (0, 10, 17, 19)])
theorem yw_L_ship : am_ywX mL_ship 4 := ⟨(fun h => by cases h), (am_mt 697 (by decide +kernel) (by decide +kernel)), (am_mt 0 (by decide +kernel) (by decide +kernel)), by decide +kernel, by decide +kernel, by decide⟩
theorem sm_L_ship : Cond.static mL_ship.1 ∈ am_WS := (am_mt 696 (by decide +kernel) (by decide +kernel))
def mL_fleet : AMM := (yL_fleet, cL_fleet, 5, some .int, [(0, 10, 13, 25), (0, 10, 17, 19)])
theorem yw_L_fleet : am_ywX mL_fleet 4 := ⟨(fun h => by cases h), (am_mt 730 (by decide +kernel) (by decide +kernel)), (am_mt 0 (by decide +kernel) (by decide +kernel)), by decide +kernel, by decide +kernel, by decide⟩
theorem sm_L_fleet : Cond.static mL_fleet.1 ∈ am_WS := (am_mt 729 (by decide +kernel) (by decide +kernel))
def mL_at : AMM := (yL_at, cL_at, 5, some .int, [(0, 10, 13, 25)])
theorem yw_L_at : am_ywX mL_at 4 := ⟨(fun h => by cases h), (am_mt 759 (by decide +kernel) (by decide +kernel)), (am_mt 0 (by decide +kernel) (by decide +kernel)), by decide +kernel, by decide +kernel, by decide⟩
theorem sm_L_at : Cond.static mL_at.1 ∈ am_WS := (am_mt 758 (by decide +kernel) (by decide +kernel))
def mL_order : AMM := (yL_order, cL_order, 5, some .int, [(0, 10, 13, 25)])
theorem yw_L_order : am_ywX mL_order 4 := ⟨(fun h => by cases h), (am_mt 772 (by decide +kernel) (by decide +kernel)), (am_mt 0 (by decide +kernel) (by decide +kernel)), by decide +kernel, by decide +kernel, by decide⟩
theorem sm_L_order : Cond.static mL_order.1 ∈ am_WS := (am_mt 771 (by decide +kernel) (by decide +kernel))
def mL_gain : AMM := (yL_gain, cL_gain, 5, some .int, [(0, 10, 13, 25), (0, 10, 17, 19)])
theorem yw_L_gain : am_ywX mL_gain 4 := ⟨(fun h => by cases h), (am_mt 784 (by decide +kernel) (by decide +kernel)), (am_mt 0 (by decide +kernel) (by decide +kernel)), by decide +kernel, by decide +kernel, by decide⟩
theorem sm_L_gain : Cond.static mL_gain.1 ∈ am_WS := (am_mt 783 (by decide +kernel) (by decide +kernel))
def mL_sees : AMM := (yL_sees, cL_sees, 5, some .int, [(0, 17, 20, 25)])
theorem yw_L_sees : am_ywX mL_sees 4 := ⟨(fun h => by cases h), (am_mt 804 (by decide +kernel) (by decide +kernel)), (am_mt 0 (by decide +kernel) (by decide +kernel)), by decide +kernel, by decide +kernel, by decide⟩
theorem sm_L_sees : Cond.static mL_sees.1 ∈ am_WS := (am_mt 803 (by decide +kernel) (by decide +kernel))
def mL_shift : AMM := (yL_shift, cL_shift, 5, some .int, [(0, 10, 13, 19)])
theorem yw_L_shift : am_ywX mL_shift 4 := ⟨(fun h => by cases h), (am_mt 822 (by decide +kernel) (by decide +kernel)), (am_mt 0 (by decide +kernel) (by decide +kernel)), by decide +kernel, by decide +kernel, by decide⟩
theorem sm_L_shift : Cond.static mL_shift.1 ∈ am_WS := (am_mt 821 (by decide +kernel) (by decide +kernel))
def mL_ram : AMM := (yL_ram, cL_ram, 5, some .int, [(0, 10, 13, 25), (0, 10, 17, 19)])
theorem yw_L_ram : am_ywX mL_ram 4 := ⟨(fun h => by cases h), (am_mt 833 (by decide +kernel) (by decide +kernel)), (am_mt 0 (by decide +kernel) (by decide +kernel)), by decide +kernel, by decide +kernel, by decide⟩
theorem sm_L_ram : Cond.static mL_ram.1 ∈ am_WS := (am_mt 832 (by decide +kernel) (by decide +kernel))
def mL_sealOf : AMM := (yL_sealOf, cL_sealOf, 5, some .int, [(0, 10, 13, 25)])
theorem yw_L_sealOf : am_ywX mL_sealOf 4 := ⟨(fun h => by cases h), (am_mt 842 (by decide +kernel) (by decide +kernel)), (am_mt 0 (by decide +kernel) (by decide +kernel)), by decide +kernel, by decide +kernel, by decide⟩
theorem sm_L_sealOf : Cond.static mL_sealOf.1 ∈ am_WS := (am_mt 841 (by decide +kernel) (by decide +kernel))
def mL_check : AMM := (yL_check, cL_check, 6, some .int, [(0, 19, 22, 25)])
theorem yw_L_check : am_ywX mL_check 5 := ⟨(fun h => by cases h), (am_mt 858 (by decide +kernel) (by decide +kernel)), (am_mt 0 (by decide +kernel) (by decide +kernel)), by decide +kernel, by decide +kernel, by decide⟩
theorem sm_L_check : Cond.static mL_check.1 ∈ am_WS := (am_mt 857 (by decide +kernel) (by decide +kernel))
def mL_logged : AMM := (yL_logged, cL_logged, 6, some .int, [(0, 12, 15, 25)])
theorem yw_L_logged : am_ywX mL_logged 5 := ⟨(fun h => by cases h), (am_mt 883 (by decide +kernel) (by decide +kernel)), (am_mt 0 (by decide +kernel) (by decide +kernel)), by decide +kernel, by decide +kernel, by decide⟩
theorem sm_L_logged : Cond.static mL_logged.1 ∈ am_WS := (am_mt 882 (by decide +kernel) (by decide +kernel))
def mL_after : AMM := (yL_after, cL_after, 5, some .int, [(0, 10, 13, 25), (0, 10, 17, 19)])
theorem yw_L_after : am_ywX mL_after 4 := ⟨(fun h => by cases h), (am_mt 891 (by decide +kernel) (by decide +kernel)), (am_mt 0 (by decide +kernel) (by decide +kernel)), by decide +kernel, by decide +kernel, by decide⟩
theorem sm_L_after : Cond.static mL_after.1 ∈ am_WS := (am_mt 890 (by decide +kernel) (by decide +kernel))
def mL_course : AMM := (yL_course, cL_course, 5, some .int, [(0, 10, 13, 25), (0, 10, 17, 19)])
theorem yw_L_course : am_ywX mL_course 4 := ⟨(fun h => by cases h), (am_mt 994 (by decide +kernel) (by decide +kernel)), (am_mt 0 (by decide +kernel) (by decide +kernel)), by decide +kernel, by decide +kernel, by decide⟩
theorem sm_L_course : Cond.static mL_course.1 ∈ am_WS := (am_mt 993 (by decide +kernel) (by decide +kernel))
def mL_meet : AMM := (yL_meet, cL_meet, 5, some .int, [(0, 10, 13, 25)])
theorem yw_L_meet : am_ywX mL_meet 4 := ⟨(fun h => by cases h), (am_mt 1009 (by decide +kernel) (by decide +kernel)), (am_mt 0 (by decide +kernel) (by decide +kernel)), by decide +kernel, by decide +kernel, by decide⟩
theorem sm_L_meet : Cond.static mL_meet.1 ∈ am_WS := (am_mt 1008 (by decide +kernel) (by decide +kernel))
def mL_spares : AMM := (yL_spares, cL_spares, 5, some .int, [(0, 10, 13, 25)])
theorem yw_L_spares : am_ywX mL_spares 4 := ⟨(fun h => by cases h), (am_mt 1016 (by decide +kernel) (by decide +kernel)), (am_mt 0 (by decide +kernel) (by decide +kernel)), by decide +kernel, by decide +kernel, by decide⟩
theorem sm_L_spares : Cond.static mL_spares.1 ∈ am_WS := (am_mt 1015 (by decide +kernel) (by decide +kernel))
def mL_bestWind : AMM := (yL_bestWind, cL_bestWind, 4, some .int, [(0, 9, 12, 25)])
theorem yw_L_bestWind : am_ywX mL_bestWind 3 := ⟨(fun h => by cases h), (am_mt 1026 (by decide +kernel) (by decide +kernel)), (am_mt 0 (by decide +kernel) (by decide +kernel)), by decide +kernel, by decide +kernel, by decide⟩
theorem sm_L_bestWind : Cond.static mL_bestWind.1 ∈ am_WS := (am_mt 1025 (by decide +kernel) (by decide +kernel))
def mL_pace : AMM := (yL_pace, cL_pace, 4, some .int, [(0, 9, 12, 25)])
theorem yw_L_pace : am_ywX mL_pace 3 := ⟨(fun h => by cases h), (am_mt 1033 (by decide +kernel) (by decide +kernel)), (am_mt 0 (by decide +kernel) (by decide +kernel)), by decide +kernel, by decide +kernel, by decide⟩
theorem sm_L_pace : Cond.static mL_pace.1 ∈ am_WS := (am_mt 1032 (by decide +kernel) (by decide +kernel))
def mL_write : AMM := (yL_write, cL_write, 4, some .int, [(0, 9, 12, 25), (0, 9, 15, 13)])
theorem yw_L_write : am_ywX mL_write 3 := ⟨(fun h => by cases h), (am_mt 1041 (by decide +kernel) (by decide +kernel)), (am_mt 0 (by decide +kernel) (by decide +kernel)), by decide +kernel, by decide +kernel, by decide⟩
theorem sm_L_write : Cond.static mL_write.1 ∈ am_WS := (am_mt 1040 (by decide +kernel) (by decide +kernel))
def mL_seal : AMM := (yL_seal, cL_seal, 5, some .int, [(0, 10, 13, 25), (0, 10, 17, 19), (0, 10, 21, 13)])
theorem yw_L_seal : am_ywX mL_seal 4 := ⟨(fun h => by cases h), (am_mt 1080 (by decide +kernel) (by decide +kernel)), (am_mt 0 (by decide +kernel) (by decide +kernel)), by decide +kernel, by decide +kernel, by decide⟩
theorem sm_L_seal : Cond.static mL_seal.1 ∈ am_WS := (am_mt 1079 (by decide +kernel) (by decide +kernel))
def mL_run : AMM := (yL_run, cL_run, 3, some .int, [(0, 8, 11, 13)])
theorem yw_L_run : am_ywX mL_run 2 := ⟨(fun h => by cases h), (am_mt 1088 (by decide +kernel) (by decide +kernel)), (am_mt 0 (by decide +kernel) (by decide +kernel)), by decide +kernel, by decide +kernel, by decide⟩
theorem sm_L_run : Cond.static mL_run.1 ∈ am_WS := (am_mt 1087 (by decide +kernel) (by decide +kernel))
def mL_setWind : AMM := (yL_setWind, cL_setWind, 5, some .int, [(0, 10, 13, 19)])
theorem yw_L_setWind : am_ywX mL_setWind 4 := ⟨(fun h => by cases h), (am_mt 1108 (by decide +kernel) (by decide +kernel)), (am_mt 0 (by decide +kernel) (by decide +kernel)), by decide +kernel, by decide +kernel, by decide⟩
theorem sm_L_setWind : Cond.static mL_setWind.1 ∈ am_WS := (am_mt 1107 (by decide +kernel) (by decide +kernel))
def mL_undo : AMM := (yL_undo, cL_undo, 3, some .int, [(0, 8, 11, 13)])
theorem yw_L_undo : am_ywX mL_undo 2 := ⟨(fun h => by cases h), (am_mt 1117 (by decide +kernel) (by decide +kernel)), (am_mt 0 (by decide +kernel) (by decide +kernel)), by decide +kernel, by decide +kernel, by decide⟩
theorem sm_L_undo : Cond.static mL_undo.1 ∈ am_WS := (am_mt 1116 (by decide +kernel) (by decide +kernel))
def mL_save : AMM := (yL_save, cL_save, 3, some .int, [(0, 5, 8, 25)])
theorem yw_L_save : am_ywX mL_save 2 := ⟨(fun h => by cases h), (am_mt 1133 (by decide +kernel) (by decide +kernel)), (am_mt 0 (by decide +kernel) (by decide +kernel)), by decide +kernel, by decide +kernel, by decide⟩
theorem sm_L_save : Cond.static mL_save.1 ∈ am_WS := (am_mt 1132 (by decide +kernel) (by decide +kernel))
def mL_restore : AMM := (yL_restore, cL_restore, 4, some .int, [(0, 9, 12, 25), (0, 9, 15, 13)])
theorem yw_L_restore : am_ywX mL_restore 3 := ⟨(fun h => by cases h), (am_mt 1145 (by decide +kernel) (by decide +kernel)), (am_mt 0 (by decide +kernel) (by decide +kernel)), by decide +kernel, by decide +kernel, by decide⟩
theorem sm_L_restore : Cond.static mL_restore.1 ∈ am_WS := (am_mt 1144 (by decide +kernel) (by decide +kernel))
def mL_writtenByte : AMM := (yL_writtenByte, cL_writtenByte, 4, some .int, [(0, 9, 12, 25)])
theorem yw_L_writtenByte : am_ywX mL_writtenByte 3 := ⟨(fun h => by cases h), (am_mt 1154 (by decide +kernel) (by decide +kernel)), (am_mt 0 (by decide +kernel) (by decide +kernel)), by decide +kernel, by decide +kernel, by decide⟩
theorem sm_L_writtenByte : Cond.static mL_writtenByte.1 ∈ am_WS := (am_mt 1153 (by decide +kernel) (by decide +kernel))
def mL_law : AMM := (yL_law, cL_law, 8, some .boolean, [])
