/-! what the start gives -/
def FW : List Cond := flatC (Jvm.Cond.and given_1 narrow_1)
def stW (q : String × Nat × String) (l : List Int) : List Cond := [.exactly (.string q.1 q.2.1) "java/lang/String", .eq (.field (.string q.1 q.2.1) "java/lang/String" "coder" "B") (.int 0), .arrayOf (.field (.string q.1 q.2.1) "java/lang/String" "value" "[B") .byte, .eq (.length (.field (.string q.1 q.2.1) "java/lang/String" "value" "[B")) (.int (Int32.ofNat l.length))] ++ (List.range l.length).map (fun j => .eq (.elem (.field (.string q.1 q.2.1) "java/lang/String" "value" "[B") (.int (Int32.ofNat j))) (.int (Int32.ofInt (l.getD j 0))))
def tbW (q : String × String × List Int) : List Cond := [.isRef (.static q.1 q.2.1 "[I"), .arrayOf (.static q.1 q.2.1 "[I") .int, .eq (.length (.static q.1 q.2.1 "[I")) (.int (Int32.ofNat q.2.2.length))] ++ (List.range q.2.2.length).map (fun j => .eq (.elem (.static q.1 q.2.1 "[I") (.int (Int32.ofNat j))) (.int (Int32.ofInt (q.2.2.getD j 0))))
def stWs : List Cond := (List.range 44).flatMap (fun i => stW (am_st.getD i ("", 0, "")) (am_by.getD i []))
def tbWs : List Cond := (List.range 4).flatMap (fun i => tbW (am_tb.getD i ("", "", [])))
def isEqS (w : Cond) : Bool := match w with
  | .eq (.string _ _) (.string _ _) => false
  | _ => true
theorem stWs_ok : ((FW.drop 82).filter isEqS).take 735 = stWs := by decide +kernel
theorem tbWs_ok : (FW.drop 11).take 38 = tbWs := by decide +kernel
theorem FW_st {w : Cond} (h : w ∈ stWs) : w ∈ FW := by
  rw [← stWs_ok] at h
  exact List.mem_of_mem_drop (List.mem_filter.mp (List.mem_of_mem_take h)).1
theorem FW_tb {w : Cond} (h : w ∈ tbWs) : w ∈ FW := by
  rw [← tbWs_ok] at h
  exact List.mem_of_mem_drop (List.mem_of_mem_take h)
theorem gd_some {α : Type} (d : α) : ∀ (l : List α) (i : Nat) (q : α), l[i]? = some q → l.getD i d = q ∧ i < l.length
  | [], _, _, h => by simp at h
  | a :: l, 0, q, h => by simp at h; exact ⟨h, Nat.zero_lt_succ _⟩
  | a :: l, i + 1, q, h => by
    obtain ⟨h1, h2⟩ := gd_some d l i q (by simpa using h)
    exact ⟨h1, Nat.succ_lt_succ h2⟩
def stI : List Nat := [319, 417, 423, 441, 456, 495, 496, 497, 498, 617, 688, 716, 726, 739, 756, 768, 780, 792, 827, 828, 838, 839, 867, 999, 1000, 1046, 1085, 1098, 1099, 1113, 1114, 1122, 1141, 1150, 1159, 1313, 1340, 1341, 1350, 1367, 1388, 1389, 1390, 1391]
theorem stI_ok : ∀ i : Fin 44, tables_1[stI.getD i.val 0]? = some (Cond.stringRef (am_st.getD i.val ("", 0, "")).1 (am_st.getD i.val ("", 0, "")).2.1 (am_st.getD i.val ("", 0, "")).2.2) := by decide +kernel
def tbI : List Nat := [798, 932, 934, 957]
def tbJ : List Nat := [4, 5, 5, 5]
theorem tbI_ok : ∀ i : Fin 4, tables_1[tbI.getD i.val 0]? = some (Cond.laysStatic (am_tb.getD i.val ("", "", [])).1 (am_tb.getD i.val ("", "", [])).2.1 "[I") := by decide +kernel
theorem tbJ_ok : ∀ i : Fin 4, tables_1[tbJ.getD i.val 0]? = some (Cond.initialized (am_tb.getD i.val ("", "", [])).1) := by decide +kernel
theorem lt_mem {w : Cond} (i : Nat) (h : tables_1[i]? = some w) : w ∈ lw_tbl := List.mem_append_right _ (List.mem_of_getElem? h)
theorem by_len : ∀ i : Fin 44, (am_by.getD i.val []).length < 100 := by decide +kernel
theorem tb_len : ∀ i : Fin 4, (am_tb.getD i.val ("", "", [])).2.2.length < 100 := by decide +kernel
theorem st_0 {s : State} {args : Array Value} {A : Nat → Prop} (hts : ∀ w ∈ lw_tbl, w.before args s = true) (hf : ∀ w ∈ FW, w.before args s = true) (hA : ∀ a : Nat, a < s.heap.size → ¬ A a) (i : Nat) : ∃ q : Nat × Nat, ∀ w, am_st[i]? = some w → vk_R w.1 w.2.1 w.2.2 q.1 s ∧ va_O "java/lang/String" q.1 A s s.heap ∧ va_OF "java/lang/String" "coder" "B" (.int 0) q.1 A s s.heap ∧ va_OF "java/lang/String" "value" "[B" (.ref q.2) q.1 A s s.heap ∧ va_T .byte q.2 (am_by.getD i []).length (fun j => .int (Int32.ofInt ((am_by.getD i []).getD j 0))) A s s.heap := by
  cases hq : am_st[i]? with
  | none => exact ⟨(0, 0), fun w h => by cases h⟩
  | some w =>
    obtain ⟨e1, e2⟩ := gd_some ("", 0, "") am_st i w hq
    have i44 : i < 44 := e2
    have hl := by_len ⟨i, i44⟩
    have hs := hts _ (lt_mem _ (stI_ok ⟨i, i44⟩))
    dsimp only at hl hs
    rw [e1] at hs
    have hw : ∀ c ∈ stW w (am_by.getD i []), c.before args s = true := fun c hc => hf c (FW_st (List.mem_flatMap.mpr ⟨i, List.mem_range.mpr i44, by rw [e1]; exact hc⟩))
    obtain ⟨l, el⟩ : ∃ l, l = am_by.getD i [] := ⟨_, rfl⟩
    rw [← el] at hl hw ⊢
    have h1 := hw (.exactly (.string w.1 w.2.1) "java/lang/String") (List.mem_append_left _ List.mem_cons_self)
    have h2 := hw (.eq (.field (.string w.1 w.2.1) "java/lang/String" "coder" "B") (.int 0)) (List.mem_append_left _ (List.mem_cons_of_mem _ List.mem_cons_self))
    have h3 := hw (.arrayOf (.field (.string w.1 w.2.1) "java/lang/String" "value" "[B") .byte) (List.mem_append_left _ (List.mem_cons_of_mem _ (List.mem_cons_of_mem _ List.mem_cons_self)))
    have h4 := hw (.eq (.length (.field (.string w.1 w.2.1) "java/lang/String" "value" "[B")) (.int (Int32.ofNat l.length))) (List.mem_append_left _ (List.mem_cons_of_mem _ (List.mem_cons_of_mem _ (List.mem_cons_of_mem _ List.mem_cons_self))))
    have h5 : ∀ j : Nat, j < l.length → (Cond.eq (.elem (.field (.string w.1 w.2.1) "java/lang/String" "value" "[B") (.int (Int32.ofNat j))) (.int (Int32.ofInt (l.getD j 0)))).before args s = true := fun j hj => hw _ (List.mem_append_right _ (List.mem_map.mpr ⟨j, List.mem_range.mpr hj, rfl⟩))
    obtain ⟨a, c, cA, kA, q1, q2, q3, q4, q5, q6, -⟩ := Cond.exactly_spec (args := args) (first := s) (o := none) (s := s) (idx := []) (t := .string w.1 w.2.1) (cls := "java/lang/String") h1
    obtain ⟨t, ht, hT⟩ := va_Tof (f := fun j => .int (Int32.ofInt (l.getD j 0))) (A := A) (Nat.lt_trans hl (by decide)) h3 (va_eqt h4) (fun j hj => va_eqt (h5 j hj)) hA
    refine ⟨(a, t), fun w' hw' => ?_⟩
    cases hw'
    exact ⟨vk_R.of hs q1, ⟨cA, q3, q5, by rw [q6]; exact q2, hA a (Array.getElem?_eq_some_iff.mp q3).1⟩, vk_OFof q1 (va_eqt h2) hA, vk_OFof q1 ht hA, hT⟩
theorem tb_0 {s : State} {args : Array Value} {A : Nat → Prop} (hts : ∀ w ∈ lw_tbl, w.before args s = true) (hf : ∀ w ∈ FW, w.before args s = true) (hA : ∀ a : Nat, a < s.heap.size → ¬ A a) (i : Nat) : ∃ a : Nat, ∀ q, am_tb[i]? = some q → va_Z q.1 q.2.1 "[I" (.ref a) A s s.heap ∧ va_T .int a q.2.2.length (fun j => .int (Int32.ofInt (q.2.2.getD j 0))) A s s.heap := by
  cases hq : am_tb[i]? with
  | none => exact ⟨0, fun w h => by cases h⟩
  | some w =>
    obtain ⟨e1, e2⟩ := gd_some ("", "", []) am_tb i w hq
    have i4 : i < 4 := e2
    have hl := tb_len ⟨i, i4⟩
    have hs := hts _ (lt_mem _ (tbI_ok ⟨i, i4⟩))
    have hj := hts _ (lt_mem _ (tbJ_ok ⟨i, i4⟩))
    dsimp only at hl hs hj
    rw [e1] at hl hs hj
    have hw : ∀ c ∈ tbW w, c.before args s = true := fun c hc => hf c (FW_tb (List.mem_flatMap.mpr ⟨i, List.mem_range.mpr i4, by rw [e1]; exact hc⟩))
    have h3 := hw (.arrayOf (.static w.1 w.2.1 "[I") .int) (List.mem_append_left _ (List.mem_cons_of_mem _ List.mem_cons_self))
    have h4 := hw (.eq (.length (.static w.1 w.2.1 "[I")) (.int (Int32.ofNat w.2.2.length))) (List.mem_append_left _ (List.mem_cons_of_mem _ (List.mem_cons_of_mem _ List.mem_cons_self)))
    have h5 : ∀ j : Nat, j < w.2.2.length → (Cond.eq (.elem (.static w.1 w.2.1 "[I") (.int (Int32.ofNat j))) (.int (Int32.ofInt (w.2.2.getD j 0)))).before args s = true := fun j hj => hw _ (List.mem_append_right _ (List.mem_map.mpr ⟨j, List.mem_range.mpr hj, rfl⟩))
    obtain ⟨t, ht, hT⟩ := va_Tof (f := fun j => .int (Int32.ofInt (w.2.2.getD j 0))) (A := A) (Nat.lt_trans hl (by decide)) h3 (va_eqt h4) (fun j hj => va_eqt (h5 j hj)) hA
    refine ⟨t, fun w' hw' => ?_⟩
    cases hw'
    exact ⟨va_Zref hs hj ht hA, hT⟩
theorem cl_0 {s : State} {args : Array Value} (hts : ∀ w ∈ am_WS, w.before args s = true) (k : Nat) : ∃ p : ClassId × (Nat → Nat), ∀ q : vw_C, vwCl[k]? = some q → u_Kn s q.1 q.2.1 q.2.2 p.1 p.2 := by
  match k with
  | 0 =>
    obtain ⟨c, iS, h⟩ := u_known hts cls_0.2.1 (hts _ iq_X0)
    refine ⟨(c, iS), fun q hq => ?_⟩
    cases hq
    exact h
  | 1 =>
    obtain ⟨c, iS, h⟩ := u_known hts cls_1.2.1 (hts _ iq_X1)
    refine ⟨(c, iS), fun q hq => ?_⟩
    cases hq
    exact h
  | 2 =>
    obtain ⟨c, iS, h⟩ := u_known hts cls_2.2.1 (hts _ iq_X3)
    refine ⟨(c, iS), fun q hq => ?_⟩
    cases hq
    exact h
  | 3 =>
    obtain ⟨c, iS, h⟩ := u_known hts cls_3.2.1 (hts _ iq_X4)
    refine ⟨(c, iS), fun q hq => ?_⟩
    cases hq
    exact h
  | 4 =>
    obtain ⟨c, iS, h⟩ := u_known hts cls_4.2.1 (hts _ iq_X5)
    refine ⟨(c, iS), fun q hq => ?_⟩
    cases hq
    exact h
  | 5 =>
    obtain ⟨c, iS, h⟩ := u_known hts cls_5.2.1 (hts _ iq_X6)
    refine ⟨(c, iS), fun q hq => ?_⟩
    cases hq
    exact h
  | 6 =>
    obtain ⟨c, iS, h⟩ := u_known hts cls_6.2.1 (hts _ iq_X7)
    refine ⟨(c, iS), fun q hq => ?_⟩
    cases hq
    exact h
  | 7 =>
    obtain ⟨c, iS, h⟩ := u_known hts cls_7.2.1 (hts _ iq_X8)
    refine ⟨(c, iS), fun q hq => ?_⟩
    cases hq
    exact h
  | 8 =>
    obtain ⟨c, iS, h⟩ := u_known hts cls_8.2.1 (hts _ iq_X9)
    refine ⟨(c, iS), fun q hq => ?_⟩
    cases hq
    exact h
  | k + 9 =>
    refine ⟨(0, fun _ => 0), fun q hq => ?_⟩
    have e : vwCl[k + 9]? = none := rfl
    rw [e] at hq
    cases hq
def nwI : List Nat := [35, 93, 182, 214, 249, 41, 799, 229, 916, 958]
theorem nw_ok : ∀ i : Fin 10, tables_1[nwI.getD i.val 0]? = some (Cond.methodLinkNest (am_NW.getD i.val (RX8, 0, yX0_init)).1 (am_NW.getD i.val (RX8, 0, yX0_init)).2.1 (am_NW.getD i.val (RX8, 0, yX0_init)).2.2 "FleetSheet") := by decide +kernel
def dcI : List Nat := [579, 580, 581, 582, 583, 584]
theorem dc_ok : ∀ i : Fin 6, tables_1[dcI.getD i.val 0]? = some (Cond.declares (am_DC.getD i.val yX0_init)) := by decide +kernel
theorem mem_gd {α : Type} (d : α) {l : List α} {q : α} (h : q ∈ l) : ∃ i : Nat, i < l.length ∧ l.getD i d = q := by
  obtain ⟨i, hi⟩ := List.mem_iff_getElem?.mp h
  obtain ⟨h1, h2⟩ := gd_some d l i q hi
  exact ⟨i, h2, h1⟩
theorem gx_0 {s : State} {args : Array Value} (hts : ∀ w ∈ lw_tbl, w.before args s = true) (hf : ∀ w ∈ FW, w.before args s = true) : am_GX s := by
  have nc : ∀ (i : Nat) (C T : String), FW[i]? = some (Cond.not (.castable C T)) → va_Nc C T s := fun i C T h => va_Nc.of (hf _ (List.mem_of_getElem? h))
  refine ⟨fun q hq => ?_, fun E hE => ?_, fun y hy => ?_, fun E hE E' hE' hne => ?_⟩
  · obtain ⟨i, hi, e⟩ := mem_gd (RX8, 0, yX0_init) hq
    have h := hts _ (lt_mem _ (nw_ok ⟨i, hi⟩))
    dsimp only at h
    rw [e] at h
    exact va_Nw.of rfl h
  · have : E = "java/lang/IndexOutOfBoundsException" ∨ E = "java/lang/IllegalArgumentException" ∨ E = "java/lang/IllegalStateException" := by simpa [am_EX] using hE
    rcases this with rfl | rfl | rfl
    · exact va_Nw.of rfl (hts _ (lt_mem 709 (by decide +kernel)))
    · exact va_Nw.of rfl (hts _ (lt_mem 681 (by decide +kernel)))
    · exact va_Nw.of rfl (hts _ (lt_mem 578 (by decide +kernel)))
  · obtain ⟨i, hi, e⟩ := mem_gd yX0_init hy
    have h := hts _ (lt_mem _ (dc_ok ⟨i, hi⟩))
    dsimp only at h
    rw [e] at h
    exact va_Nw.of rfl h
  · have h1 : E = "java/lang/IndexOutOfBoundsException" ∨ E = "java/lang/IllegalArgumentException" ∨ E = "java/lang/IllegalStateException" := by simpa [am_EX] using hE
    have h2 : E' = "java/lang/IndexOutOfBoundsException" ∨ E' = "java/lang/IllegalArgumentException" ∨ E' = "java/lang/IllegalStateException" := by simpa [am_EX] using hE'
    rcases h1 with rfl | rfl | rfl
    · rcases h2 with rfl | rfl | rfl
      · exact absurd rfl hne
      · exact nc 70 _ _ (by decide +kernel)
      · exact nc 59 _ _ (by decide +kernel)
    · rcases h2 with rfl | rfl | rfl
      · exact nc 81 _ _ (by decide +kernel)
      · exact absurd rfl hne
      · exact nc 58 _ _ (by decide +kernel)
    · rcases h2 with rfl | rfl | rfl
      · exact nc 80 _ _ (by decide +kernel)
      · exact nc 69 _ _ (by decide +kernel)
      · exact absurd rfl hne
theorem ar_0 {s : State} {args : Array Value} {ty : FieldType} (hp : va_RA s 0 ty = (s.vm.findClass ("[" ++ ty.toString) = some 0)) (hq : ∀ c, va_RA s c ty = (s.vm.findClass ("[" ++ ty.toString) = some c)) (h : (Cond.arrayClass ty).before args s = true) : ∃ c : ClassId, ArrOfT s c ty ∧ va_RA s c ty := by
  obtain ⟨c, k, comp, h1, h2, h3⟩ := Cond.arrayClass_spec h
  exact ⟨c, fun N z => ⟨(fun k h => by cases h), k, h2, comp, h3⟩, by rw [hq]; exact h1⟩
theorem ao_0 {s : State} (h : va_AO "FleetSheet$Sheet" s) : ∃ c : ClassId, ArrOfT s c (.object "FleetSheet$Sheet") ∧ va_RA s c (.object "FleetSheet$Sheet") := by
  obtain ⟨comp, c, k, h1, h2, h3, h4, h5⟩ := Cond.arrayOver_spec h
  exact ⟨c, fun N z => ⟨(fun k h => by cases h), k, h3, comp, h4⟩, k, comp, h3, h4, h1, h5⟩
theorem am_G0 {s : State} {args : Array Value} {b L : Nat} {xs : Nat → Int32} (hts : ∀ w ∈ lw_tbl, w.before args s = true) (hg : (Jvm.Cond.and given_1 narrow_1).before args s = true) (hX : va_X b L xs s s.heap) (hb : b < s.heap.size) : ∃ z : AMZ, z.2.2.1 = s.heap.size ∧ z.2.2.2.2 = (L, fun j => (xs j).toInt) ∧ z.2.2.2.1 3000 = .ref b ∧ am_G z s := by
  have hf : ∀ w ∈ FW, w.before args s = true := flat_of_before _ hg
  have htW : ∀ w ∈ am_WS, w.before args s = true := fun w hw => hts w (List.mem_filter.mp hw).1
  have hA : ∀ a : Nat, a < s.heap.size → ¬ (fun q : Nat => s.heap.size ≤ q) a := fun a h => Nat.not_le.mpr h
  obtain ⟨st, hst⟩ := Classical.axiomOfChoice (st_0 hts hf hA)
  obtain ⟨tb, htb⟩ := Classical.axiomOfChoice (tb_0 hts hf hA)
  obtain ⟨cl, hcl⟩ := Classical.axiomOfChoice (cl_0 htW)
  obtain ⟨c1, a1, r1⟩ := ar_0 (ty := .int) rfl (fun _ => rfl) (htW _ aq_i)
  obtain ⟨c2, a2, r2⟩ := ar_0 (ty := .boolean) rfl (fun _ => rfl) (htW _ aq_z)
  obtain ⟨c3, a3, r3⟩ := ar_0 (ty := .long) rfl (fun _ => rfl) (htW _ aq_l)
  obtain ⟨c4, a4, r4⟩ := ar_0 (ty := .double) rfl (fun _ => rfl) (htW _ aq_d)
  have hao : va_AO "FleetSheet$Sheet" s := va_AO.of (hts _ (lt_mem 228 (by decide +kernel)))
  obtain ⟨c5, a5, r5⟩ := ao_0 hao
  obtain ⟨v4, k4, h4⟩ : ∃ v4 : Value, v4.category = 1 ∧ va_Z "jdk/internal/util/Preconditions" "SIOOBE_FORMATTER" "Ljava/util/function/BiFunction;" v4 (fun q : Nat => s.heap.size ≤ q) s s.heap := by
    rcases va_Zqof (C := "jdk/internal/util/Preconditions") (n := "SIOOBE_FORMATTER") (d := "Ljava/util/function/BiFunction;") (A := fun q : Nat => s.heap.size ≤ q) (hts _ (lt_mem 361 (by decide +kernel))) (hts _ (lt_mem 18 (by decide +kernel))) (hf _ (List.mem_of_getElem? (i := 5) (by decide +kernel))) hA with h | ⟨t, h⟩
    · exact ⟨_, rfl, h⟩
    · exact ⟨_, rfl, h⟩
  have h5 : va_Z "java/lang/String" "COMPACT_STRINGS" "Z" (.int 1) (fun q : Nat => s.heap.size ≤ q) s s.heap := va_Zof (hts _ (lt_mem 345 (by decide +kernel))) (hts _ (lt_mem 16 (by decide +kernel))) (va_eqt (hf _ (List.mem_of_getElem? (i := 4) (by decide +kernel)))) hA
  have h6 : vx_Zq Bundle.tN "UNASSIGNED_STACK" Bundle.steD (fun q : Nat => s.heap.size ≤ q) s s.heap := vx_Zqof (hts _ (lt_mem 603 (by decide +kernel))) (hts _ (lt_mem 12 (by decide +kernel))) (hf _ (List.mem_of_getElem? (i := 9) (by decide +kernel))) hA
  have h7 : vx_Zq Bundle.tN "SUPPRESSED_SENTINEL" Bundle.listD (fun q : Nat => s.heap.size ≤ q) s s.heap := vx_Zqof (hts _ (lt_mem 605 (by decide +kernel))) (hts _ (lt_mem 12 (by decide +kernel))) (hf _ (List.mem_of_getElem? (i := 10) (by decide +kernel))) hA
  refine ⟨((fun k => (cl k).1, fun k => (cl k).2), (fun k => if k = 100 then c1 else if k = 110 then c2 else if k = 101 then c3 else if k = 104 then c4 else c5), s.heap.size, (fun k => if k = 4000 then v4 else if k = 3000 then .ref b else if k < 2000 then .ref (tb (k - 1000)) else if k < 2100 then .ref (st (k - 2000)).1 else .ref (st (k - 2100)).2), L, fun j => (xs j).toInt), rfl, rfl, rfl, ?_⟩
  refine ⟨⟨fun k q hq => hcl k q hq, fun k q hq => ?_⟩, fun k => ?_, fun i q hq => ?_, fun i q hq => ?_, h5, h4, h6, h7, b, rfl, ?_, hb, Nat.not_le.mpr hb, gx_0 hts hf⟩
  · match k, hq with
    | 0, hq => cases hq; exact ⟨a1, r1⟩
    | 1, hq => cases hq; exact ⟨a2, r2⟩
    | 2, hq => cases hq; exact ⟨a3, r3⟩
    | 3, hq => cases hq; exact ⟨a4, r4⟩
    | 4, hq => cases hq; exact ⟨a5, r5⟩
    | k + 5, hq => cases hq
  · show (if k = 4000 then v4 else if k = 3000 then Value.ref b else if k < 2000 then Value.ref (tb (k - 1000)) else if k < 2100 then Value.ref (st (k - 2000)).1 else Value.ref (st (k - 2100)).2).category = 1
    split
    · exact k4
    · split
      · rfl
      · split
        · rfl
        · split <;> rfl
  · have i4 : i < 4 := (gd_some ("", "", []) am_tb i q hq).2
    refine ⟨tb i, ?_, (htb i q hq).1, (htb i q hq).2⟩
    show (if 1000 + i = 4000 then v4 else if 1000 + i = 3000 then Value.ref b else if 1000 + i < 2000 then Value.ref (tb (1000 + i - 1000)) else if 1000 + i < 2100 then Value.ref (st (1000 + i - 2000)).1 else Value.ref (st (1000 + i - 2100)).2) = _
    rw [if_neg (by omega), if_neg (by omega), if_pos (by omega), show 1000 + i - 1000 = i by omega]
  · have i44 : i < 44 := (gd_some ("", 0, "") am_st i q hq).2
    obtain ⟨g1, g2, g3, g4, g5⟩ := hst i q hq
    refine ⟨(st i).1, (st i).2, ?_, ?_, g1, g2, g3, g4, g5⟩
    · show (if 2000 + i = 4000 then v4 else if 2000 + i = 3000 then Value.ref b else if 2000 + i < 2000 then Value.ref (tb (2000 + i - 1000)) else if 2000 + i < 2100 then Value.ref (st (2000 + i - 2000)).1 else Value.ref (st (2000 + i - 2100)).2) = _
      rw [if_neg (by omega), if_neg (by omega), if_neg (by omega), if_pos (by omega), show 2000 + i - 2000 = i by omega]
    · show (if 2100 + i = 4000 then v4 else if 2100 + i = 3000 then Value.ref b else if 2100 + i < 2000 then Value.ref (tb (2100 + i - 1000)) else if 2100 + i < 2100 then Value.ref (st (2100 + i - 2000)).1 else Value.ref (st (2100 + i - 2100)).2) = _
      rw [if_neg (by omega), if_neg (by omega), if_neg (by omega), if_neg (by omega), show 2100 + i - 2100 = i by omega]
  · have e : (fun j : Nat => Int32.ofInt ((xs j).toInt)) = xs := by
      funext j
      exact Int32.ofInt_toInt (xs j)
    show va_X b L (fun j => Int32.ofInt ((xs j).toInt)) s s.heap
    rw [e]
    exact hX
