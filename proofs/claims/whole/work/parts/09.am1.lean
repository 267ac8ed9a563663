/-! the picture: cells by the order in which they are made, values as whole numbers -/
abbrev AV : Type := Nat × Int
abbrev AH : Type := Int → Int → Int
abbrev AO : Type := Option AV ⊕ String
/-- a run's own: the tables' numbers, the array classes, the first address, what lies outside, the script -/
abbrev AMZ : Type := va_G × (Nat → ClassId) × Nat × (Nat → Value) × Nat × (Nat → Int)
def am_A (z : AMZ) : Nat → Prop := fun q => z.2.2.1 ≤ q
def av (z : AMZ) (v : AV) : Value := match v.1 with
  | 0 => .int (Int32.ofInt v.2)
  | 1 => .long (Int64.ofInt v.2)
  | 3 => .float (UInt32.ofNat v.2.toNat)
  | 4 => .double (UInt64.ofNat v.2.toNat)
  | _ => if v.2 < 0 then .null else if v.2 < 1000 then .ref (z.2.2.1 + v.2.toNat) else z.2.2.2.1 v.2.toNat
def am_shl : List (Nat × Nat) := [(7, 9), (0, 3), (4, 8), (100, 600), (101, 4), (2, 18), (101, 12), (100, 132), (100, 12), (100, 24), (100, 150), (100, 4), (100, 4), (100, 120), (100, 40), (2, 18), (101, 12), (100, 132), (100, 12), (100, 24), (100, 150), (100, 4), (100, 4), (100, 120), (100, 40), (5, 7), (110, 12), (100, 12), (100, 12), (100, 12), (100, 12), (100, 144), (1, 3), (3, 1), (102, 8), (2, 18), (101, 12), (100, 132), (100, 12), (100, 24), (100, 150), (100, 4), (100, 4), (100, 120), (100, 40), (2, 18), (101, 12), (100, 132), (100, 12), (100, 24), (100, 150), (100, 4), (100, 4), (100, 120), (100, 40), (2, 18), (101, 12), (100, 132), (100, 12), (100, 24), (100, 150), (100, 4), (100, 4), (100, 120), (100, 40), (2, 18), (101, 12), (100, 132), (100, 12), (100, 24), (100, 150), (100, 4), (100, 4), (100, 120), (100, 40), (2, 18), (101, 12), (100, 132), (100, 12), (100, 24), (100, 150), (100, 4), (100, 4), (100, 120), (100, 40), (2, 18), (101, 12), (100, 132), (100, 12), (100, 24), (100, 150), (100, 4), (100, 4), (100, 120), (100, 40), (2, 18), (101, 12), (100, 132), (100, 12), (100, 24), (100, 150), (100, 4), (100, 4), (100, 120), (100, 40), (2, 18), (101, 12), (100, 132), (100, 12), (100, 24), (100, 150), (100, 4), (100, 4), (100, 120), (100, 40), (3, 1), (102, 2), (2, 18), (101, 12), (100, 132), (100, 12), (100, 24), (100, 150), (100, 4), (100, 4), (100, 120), (100, 40), (2, 18), (101, 12), (100, 132), (100, 12), (100, 24), (100, 150), (100, 4), (100, 4), (100, 120), (100, 40), (110, 2), (6, 2), (100, 240), (8, 28), (100, 1256), (100, 1256), (100, 1256), (100, 10048), (100, 2512), (110, 2), (100, 600), (100, 32), (110, 12), (100, 12), (100, 12), (100, 12), (100, 12), (100, 144), (100, 72), (100, 400), (101, 1), (104, 1)]
def am_SH (k : Nat) : Nat × Nat := am_shl.getD k (100, 0)
def am_T (k j : Nat) : Nat := if (am_SH k).1 < 100 then am_FT (am_SH k).1 j else (am_SH k).1 % 10
def am_rvs (k f : Nat) : Option Int := match k with
  | 0 => ([some 1, some 2, some 5, some 15, some 25, some 32, some 115, some 137, some 138] : List (Option Int)).getD f none
  | 1 => ([some 2, some 4, none] : List (Option Int)).getD f none
  | 2 => ([some 3] : List (Option Int)).getD f none
  | 25 => ([some 26, some 27, some 28, some 29, some 30, some 31] : List (Option Int)).getD f none
  | 32 => ([some 33] : List (Option Int)).getD f none
  | 33 => ([some 34] : List (Option Int)).getD f none
  | 34 => ([some 35, some 45, some 55, some 65, some 75, some 85, some 95, some 105] : List (Option Int)).getD f none
  | 115 => ([some 116] : List (Option Int)).getD f none
  | 116 => ([some 117, some 127] : List (Option Int)).getD f none
  | 138 => ([some 139] : List (Option Int)).getD f none
  | 140 => ([some 141, some 142, some 143, some 144, some 145, some 146, none, none, some 147, none, none, none, none, none, none, none, none, some 148, some 149, some 150, some 151, some 152, some 153, some 154, none, some 155, some 156, none] : List (Option Int)).getD f none
  | _ => none
def am_RV (k f : Nat) : Option Int := if am_T k f = 2 then (if (am_SH k).1 = 2 then (if f < 18 then some ((k : Int) + (f : Int) - 8) else none) else am_rvs k f) else none
def am_tb : List (String × String × List Int) := [("FleetSheet$Sheet", "FACTORS", [0, 1, 3, 4, 3]), ("FleetSheet$Turn", "COLUMN_STEPS", [0, 1, 1, 1, 0, -1, -1, -1]), ("FleetSheet$Turn", "ROW_STEPS", [-1, -1, 0, 1, 1, 1, 0, -1]), ("FleetSheet$Turn", "HURTS", [1, 1, 3, 2, 2])]
def am_st : List (String × Nat × String) := [("FleetSheet$Grammar", 50, "sheet"), ("FleetSheet$Grammar", 73, "wind"), ("FleetSheet$Grammar", 84, "shift"), ("FleetSheet$Grammar", 104, "fleet"), ("FleetSheet$Grammar", 112, "ship"), ("FleetSheet$Grammar", 163, "hull"), ("FleetSheet$Grammar", 165, "mass"), ("FleetSheet$Grammar", 167, "sail"), ("FleetSheet$Grammar", 169, "stiff"), ("FleetSheet", 89, "the text would be too long"), ("FleetSheet", 144, "no such number of a sheet"), ("FleetSheet", 345, "no such ship"), ("FleetSheet", 347, "no such number of a ship"), ("FleetSheet", 349, "no such fleet"), ("FleetSheet", 176, "no such number of a fleet"), ("FleetSheet", 184, "no such cell"), ("FleetSheet", 351, "no such pulse"), ("FleetSheet", 204, "no such heading"), ("FleetSheet", 212, "no such turn"), ("FleetSheet", 214, "no such number of a shift"), ("FleetSheet", 222, "no such ram"), ("FleetSheet", 224, "no such number of a ram"), ("FleetSheet", 353, "no such turn in the log"), ("FleetSheet", 254, "this ship is sunk"), ("FleetSheet", 256, "no such number of pulses"), ("FleetSheet", 283, "this fleet has sealed"), ("FleetSheet", 292, "no such key"), ("FleetSheet", 301, "a fleet has not sealed"), ("FleetSheet", 303, "there are no more turns"), ("FleetSheet", 312, "no such direction"), ("FleetSheet", 314, "no such force"), ("FleetSheet", 319, "there is no change to undo"), ("FleetSheet", 355, "no such slot"), ("FleetSheet", 331, "nothing is saved there"), ("FleetSheet", 340, "no such byte"), ("FleetSheetModel", 196, "sheet"), ("FleetSheetModel", 198, "wind"), ("FleetSheetModel", 200, "shift"), ("FleetSheetModel", 205, "fleet"), ("FleetSheetModel", 170, "ship"), ("FleetSheetModel", 179, "hull"), ("FleetSheetModel", 181, "mass"), ("FleetSheetModel", 183, "sail"), ("FleetSheetModel", 185, "stiff")]
def am_by : List (List Int) := [[115, 104, 101, 101, 116], [119, 105, 110, 100], [115, 104, 105, 102, 116], [102, 108, 101, 101, 116], [115, 104, 105, 112], [104, 117, 108, 108], [109, 97, 115, 115], [115, 97, 105, 108], [115, 116, 105, 102, 102], [116, 104, 101, 32, 116, 101, 120, 116, 32, 119, 111, 117, 108, 100, 32, 98, 101, 32, 116, 111, 111, 32, 108, 111, 110, 103], [110, 111, 32, 115, 117, 99, 104, 32, 110, 117, 109, 98, 101, 114, 32, 111, 102, 32, 97, 32, 115, 104, 101, 101, 116], [110, 111, 32, 115, 117, 99, 104, 32, 115, 104, 105, 112], [110, 111, 32, 115, 117, 99, 104, 32, 110, 117, 109, 98, 101, 114, 32, 111, 102, 32, 97, 32, 115, 104, 105, 112], [110, 111, 32, 115, 117, 99, 104, 32, 102, 108, 101, 101, 116], [110, 111, 32, 115, 117, 99, 104, 32, 110, 117, 109, 98, 101, 114, 32, 111, 102, 32, 97, 32, 102, 108, 101, 101, 116], [110, 111, 32, 115, 117, 99, 104, 32, 99, 101, 108, 108], [110, 111, 32, 115, 117, 99, 104, 32, 112, 117, 108, 115, 101], [110, 111, 32, 115, 117, 99, 104, 32, 104, 101, 97, 100, 105, 110, 103], [110, 111, 32, 115, 117, 99, 104, 32, 116, 117, 114, 110], [110, 111, 32, 115, 117, 99, 104, 32, 110, 117, 109, 98, 101, 114, 32, 111, 102, 32, 97, 32, 115, 104, 105, 102, 116], [110, 111, 32, 115, 117, 99, 104, 32, 114, 97, 109], [110, 111, 32, 115, 117, 99, 104, 32, 110, 117, 109, 98, 101, 114, 32, 111, 102, 32, 97, 32, 114, 97, 109], [110, 111, 32, 115, 117, 99, 104, 32, 116, 117, 114, 110, 32, 105, 110, 32, 116, 104, 101, 32, 108, 111, 103], [116, 104, 105, 115, 32, 115, 104, 105, 112, 32, 105, 115, 32, 115, 117, 110, 107], [110, 111, 32, 115, 117, 99, 104, 32, 110, 117, 109, 98, 101, 114, 32, 111, 102, 32, 112, 117, 108, 115, 101, 115], [116, 104, 105, 115, 32, 102, 108, 101, 101, 116, 32, 104, 97, 115, 32, 115, 101, 97, 108, 101, 100], [110, 111, 32, 115, 117, 99, 104, 32, 107, 101, 121], [97, 32, 102, 108, 101, 101, 116, 32, 104, 97, 115, 32, 110, 111, 116, 32, 115, 101, 97, 108, 101, 100], [116, 104, 101, 114, 101, 32, 97, 114, 101, 32, 110, 111, 32, 109, 111, 114, 101, 32, 116, 117, 114, 110, 115], [110, 111, 32, 115, 117, 99, 104, 32, 100, 105, 114, 101, 99, 116, 105, 111, 110], [110, 111, 32, 115, 117, 99, 104, 32, 102, 111, 114, 99, 101], [116, 104, 101, 114, 101, 32, 105, 115, 32, 110, 111, 32, 99, 104, 97, 110, 103, 101, 32, 116, 111, 32, 117, 110, 100, 111], [110, 111, 32, 115, 117, 99, 104, 32, 115, 108, 111, 116], [110, 111, 116, 104, 105, 110, 103, 32, 105, 115, 32, 115, 97, 118, 101, 100, 32, 116, 104, 101, 114, 101], [110, 111, 32, 115, 117, 99, 104, 32, 98, 121, 116, 101], [115, 104, 101, 101, 116], [119, 105, 110, 100], [115, 104, 105, 102, 116], [102, 108, 101, 101, 116], [115, 104, 105, 112], [104, 117, 108, 108], [109, 97, 115, 115], [115, 97, 105, 108], [115, 116, 105, 102, 102]]
def am_ok (v : AV) : Prop := (v.1 = 0 → -2147483648 ≤ v.2 ∧ v.2 < 2147483648) ∧ (v.1 = 1 → -9223372036854775808 ≤ v.2 ∧ v.2 < 9223372036854775808) ∧ (v.1 = 3 → 0 ≤ v.2 ∧ v.2 < 4294967296) ∧ (v.1 = 4 → 0 ≤ v.2 ∧ v.2 < 18446744073709551616)
def am_oks (l : List AV) : Prop := ∀ v ∈ l, am_ok v
def am_inv (n : Nat) (h : AH) : Prop := (∀ k j : Nat, am_ok (am_T k j, h k j)) ∧ (n = 159 → ∀ (k f : Nat) (r : Int), am_RV k f = some r → h k f = r)
def am_cell (z : AMZ) (h : AH) (H : Heap) (k : Nat) : Prop :=
  if (am_SH k).1 < 100 then ∃ r : vw_C, vwCl[(am_SH k).1]? = some r ∧ t_OB (z.2.2.1 + k) (z.1.1 (am_SH k).1) r.2.2 (z.1.2 (am_SH k).1) H (fun j => av z (am_FT (am_SH k).1 j, h k j))
  else H[z.2.2.1 + k]? = some (arrV (z.2.1 (am_SH k).1) (am_SH k).2 (fun j => av z ((am_SH k).1 % 10, h k j)))
def am_sz (z : AMZ) (n : Nat) (H : Heap) : Prop := if n < 159 then H.size = z.2.2.1 + n else z.2.2.1 + 159 ≤ H.size
def am_Wd (z : AMZ) (n : Nat) (h : AH) (H : Heap) : Prop := (∀ k, k < n → am_cell z h H k) ∧ am_sz z n H ∧ n ≤ 159
def am_hd (M : AMM) : Cond := if M.2.2.2.2 = [] then .code M.1 M.2.1 M.2.2.1 M.2.2.2.1 else .codeWith M.1 M.2.1 M.2.2.1 M.2.2.2.1 M.2.2.2.2
def am_ws (M : AMM) : List Cond := am_hd M :: am_WS
def am_tys (z : AMZ) : List (ClassId × FieldType) := [(z.2.1 100, .int), (z.2.1 110, .boolean), (z.2.1 101, .long), (z.2.1 104, .double), (z.2.1 102, .object "FleetSheet$Sheet")]
def am_GX (s : State) : Prop := (∀ q ∈ am_NW, va_Nw (.methodLinkNest q.1 q.2.1 q.2.2 "FleetSheet") s) ∧ (∀ E ∈ am_EX, va_Nw (.castable E E) s) ∧ (∀ y ∈ am_DC, va_Nw (.declares y) s) ∧ (∀ E ∈ am_EX, ∀ E' ∈ am_EX, E ≠ E' → va_Nc E E' s)
/-- what lies outside of the cells, at the state where a method began -/
def am_G (z : AMZ) (s : State) : Prop :=
  va_K z.1 vwCl (am_tys z) s ∧ (∀ k : Nat, (z.2.2.2.1 k).category = 1) ∧
  (∀ (i : Nat) (q : String × String × List Int), am_tb[i]? = some q → ∃ a : Nat, z.2.2.2.1 (1000 + i) = .ref a ∧ va_Z q.1 q.2.1 "[I" (.ref a) (am_A z) s s.heap ∧ va_T .int a q.2.2.length (fun j => .int (Int32.ofInt (q.2.2.getD j 0))) (am_A z) s s.heap) ∧
  (∀ (i : Nat) (q : String × Nat × String), am_st[i]? = some q → ∃ a v : Nat, z.2.2.2.1 (2000 + i) = .ref a ∧ z.2.2.2.1 (2100 + i) = .ref v ∧ vk_R q.1 q.2.1 q.2.2 a s ∧ va_O "java/lang/String" a (am_A z) s s.heap ∧ va_OF "java/lang/String" "coder" "B" (.int 0) a (am_A z) s s.heap ∧ va_OF "java/lang/String" "value" "[B" (.ref v) a (am_A z) s s.heap ∧ va_T .byte v (am_by.getD i []).length (fun j => .int (Int32.ofInt ((am_by.getD i []).getD j 0))) (am_A z) s s.heap) ∧
  va_Z "java/lang/String" "COMPACT_STRINGS" "Z" (.int 1) (am_A z) s s.heap ∧
  va_Z "jdk/internal/util/Preconditions" "SIOOBE_FORMATTER" "Ljava/util/function/BiFunction;" (z.2.2.2.1 4000) (am_A z) s s.heap ∧
  vx_Zq Bundle.tN "UNASSIGNED_STACK" Bundle.steD (am_A z) s s.heap ∧ vx_Zq Bundle.tN "SUPPRESSED_SENTINEL" Bundle.listD (am_A z) s s.heap ∧
  ∃ b : Nat, z.2.2.2.1 3000 = .ref b ∧ va_X b z.2.2.2.2.1 (fun j => Int32.ofInt (z.2.2.2.2.2 j)) s s.heap ∧ b < s.heap.size ∧ ¬ am_A z b ∧ am_GX s
def am_C (M : AMM) (d : Nat) (p : Program) (l : Launch) (R : Room) (s : State) (m : MethodId) (args : Array Value) (meth : Method) (c : Code) : Prop :=
  p.tables.exec = Jvm.exec ∧ c.code = M.2.1 ∧ c.maxLocals = M.2.2.1 ∧ s.vm.findClass M.1.cls = some m.cls ∧ (∀ w ∈ am_WS, w.before args s = true) ∧ meth.sig.returnType = M.2.2.2.1 ∧ meth.locks = false ∧ l.stackTraces = false ∧ c.exceptionTable.toList = tableOf M.2.2.2.2 ∧ d ≤ R.frames ∧ 60 * d ≤ R.locals ∧ meth.name = M.1.name
def am_L (z : AMZ) (nL : Nat) (ls : List AV) (la : Array Slot) : Prop := la.size = nL ∧ lv_wf la ∧ ∀ (i : Nat) (v : AV), ls[i]? = some v → v.1 ≠ 9 → la[i]? = some (.val (av z v))
def am_Q (z : AMZ) (K : AO → Nat → AH → Prop) : Array Value → State → Outcome → State → Prop := fun _ st o t => ∃ (r : Option AV) (n : Nat) (h : AH), K (.inl r) n h ∧ o = .returned (r.map (av z)) ∧ (∀ v, r = some v → am_ok v) ∧ am_inv n h ∧ am_Wd z n h t.heap ∧ va_F (am_A z) st t
def am_X (z : AMZ) (K : AO → Nat → AH → Prop) : String → State → State → Prop := fun E st t => ∃ (n : Nat) (h : AH), K (.inr E) n h ∧ am_inv n h ∧ am_Wd z n h t.heap ∧ va_F (am_A z) st t
def am_S (M : AMM) (d mc ms n : Nat) (ls st : List AV) (h : AH) (z : AMZ) (p : Program) (l : Launch) (R : Room) (s : State) (m : MethodId) (args : Array Value) (meth : Method) (c : Code) (H : Heap) (locs : List Loc) (cells slots MC MS : Nat) (la : Array Slot) : Prop :=
  am_C M d p l R s m args meth c ∧ am_G z s ∧ va_S (am_A z) s.heap H locs ∧ am_Wd z n h H ∧ am_inv n h ∧ am_oks ls ∧ am_oks st ∧ am_L z M.2.2.1 ls la ∧ cells + mc ≤ MC ∧ slots + ms ≤ MS ∧ MC ≤ R.cells ∧ MS ≤ R.slots
/-- from here the method comes to its end, with K of what it answers and of the cells -/
def AW (M : AMM) (d mc ms : Nat) (K : AO → Nat → AH → Prop) (n pc : Nat) (ls st : List AV) (h : AH) : Prop :=
  ∀ (z : AMZ) (p : Program) (l : Launch) (e : Env) (R : Room) (s : State) (m : MethodId) (args : Array Value) (below : List Frame) (meth : Method) (c : Code) (H : Heap) (locs : List Loc) (cells slots MC MS : Nat) (la : Array Slot),
    am_S M d mc ms n ls st h z p l R s m args meth c H locs cells slots MC MS la →
    W p l e R s m args below meth c H locs cells slots (vx_MQ below (am_Q z K) (am_X z K) args s MC MS (am_A z)) (F0 m pc la (st.map (av z)))
def am_rm (d mc ms : Nat) : Room := { frames := d, cells := mc, slots := ms, locals := 60 * d }
/-- a call of it: K of what it answers -/
def AC (M : AMM) (d mc ms n : Nat) (as : List AV) (h : AH) (K : AO → Nat → AH → Prop) : Prop :=
  am_oks as → am_inv n h → ∀ (z : AMZ) (l : Launch), l.stackTraces = false → vx_Met l M.1 (am_ws M) (am_rm d mc ms) (va_Pc (as.map (av z)) (fun U => am_G z U ∧ am_Wd z n h U.heap)) (am_Q z K) (am_X z K) mc ms (am_A z)
def up (h : AH) (k j v : Int) : AH := fun k' j' => if k' = k ∧ j' = j then v else h k' j'
def wr (x : Int) : Int := (x + 2147483648) % 4294967296 - 2147483648
def wrl (x : Int) : Int := (x + 9223372036854775808) % 18446744073709551616 - 9223372036854775808
theorem wr_id {x : Int} (h1 : -2147483648 ≤ x) (h2 : x < 2147483648) : wr x = x := by unfold wr; omega
theorem wr_rg (x : Int) : -2147483648 ≤ wr x ∧ wr x < 2147483648 := by unfold wr; omega
theorem wrl_id {x : Int} (h1 : -9223372036854775808 ≤ x) (h2 : x < 9223372036854775808) : wrl x = x := by unfold wrl; omega
theorem wrl_rg (x : Int) : -9223372036854775808 ≤ wrl x ∧ wrl x < 9223372036854775808 := by unfold wrl; omega
theorem ofInt_wr (x : Int) : Int32.ofInt (wr x) = Int32.ofInt x := by
  apply Int32.toInt_inj.1
  rw [Int32.toInt_ofInt, Int32.toInt_ofInt]
  show (wr x).bmod 4294967296 = x.bmod 4294967296
  unfold wr Int.bmod
  dsimp only
  split <;> split <;> omega
theorem ofInt_wrl (x : Int) : Int64.ofInt (wrl x) = Int64.ofInt x := by
  apply Int64.toInt_inj.1
  rw [Int64.toInt_ofInt, Int64.toInt_ofInt]
  show (wrl x).bmod 18446744073709551616 = x.bmod 18446744073709551616
  unfold wrl Int.bmod
  dsimp only
  split <;> split <;> omega
theorem am_toI {x : Int} (h1 : -2147483648 ≤ x) (h2 : x < 2147483648) : (Int32.ofInt x).toInt = x := Int32.toInt_ofInt_of_le (by omega) (by omega)
theorem am_toL {x : Int} (h1 : -9223372036854775808 ≤ x) (h2 : x < 9223372036854775808) : (Int64.ofInt x).toInt = x := Int64.toInt_ofInt_of_le (by omega) (by omega)
theorem up_at (h : AH) (k j v : Int) : up h k j v k j = v := if_pos ⟨rfl, rfl⟩
theorem up_ne {h : AH} {k j v k' j' : Int} (x : ¬ (k' = k ∧ j' = j)) : up h k j v k' j' = h k' j' := if_neg x
theorem am_ok0 {x : Int} (h1 : -2147483648 ≤ x) (h2 : x < 2147483648) : am_ok (0, x) := ⟨fun _ => ⟨h1, h2⟩, fun h => absurd h (by decide : ¬ (0 : Nat) = 1), fun h => absurd h (by decide : ¬ (0 : Nat) = 3), fun h => absurd h (by decide : ¬ (0 : Nat) = 4)⟩
theorem am_ok1 {x : Int} (h1 : -9223372036854775808 ≤ x) (h2 : x < 9223372036854775808) : am_ok (1, x) := ⟨fun h => absurd h (by decide : ¬ (1 : Nat) = 0), fun _ => ⟨h1, h2⟩, fun h => absurd h (by decide : ¬ (1 : Nat) = 3), fun h => absurd h (by decide : ¬ (1 : Nat) = 4)⟩
theorem am_ok2 (x : Int) : am_ok (2, x) := ⟨fun h => absurd h (by decide : ¬ (2 : Nat) = 0), fun h => absurd h (by decide : ¬ (2 : Nat) = 1), fun h => absurd h (by decide : ¬ (2 : Nat) = 3), fun h => absurd h (by decide : ¬ (2 : Nat) = 4)⟩
theorem am_ok9 (x : Int) : am_ok (9, x) := ⟨fun h => absurd h (by decide : ¬ (9 : Nat) = 0), fun h => absurd h (by decide : ¬ (9 : Nat) = 1), fun h => absurd h (by decide : ¬ (9 : Nat) = 3), fun h => absurd h (by decide : ¬ (9 : Nat) = 4)⟩
theorem am_ok3 {x : Int} (h1 : 0 ≤ x) (h2 : x < 4294967296) : am_ok (3, x) := ⟨fun h => absurd h (by decide : ¬ (3 : Nat) = 0), fun h => absurd h (by decide : ¬ (3 : Nat) = 1), fun _ => ⟨h1, h2⟩, fun h => absurd h (by decide : ¬ (3 : Nat) = 4)⟩
theorem am_ok4 {x : Int} (h1 : 0 ≤ x) (h2 : x < 18446744073709551616) : am_ok (4, x) := ⟨fun h => absurd h (by decide : ¬ (4 : Nat) = 0), fun h => absurd h (by decide : ¬ (4 : Nat) = 1), fun h => absurd h (by decide : ¬ (4 : Nat) = 3), fun _ => ⟨h1, h2⟩⟩
theorem am_okw (x : Int) : am_ok (0, wr x) := am_ok0 (wr_rg x).1 (wr_rg x).2
theorem am_okwl (x : Int) : am_ok (1, wrl x) := am_ok1 (wrl_rg x).1 (wrl_rg x).2
theorem am_oksc {v : AV} {l : List AV} (h1 : am_ok v) (h2 : am_oks l) : am_oks (v :: l) := List.forall_mem_cons.mpr ⟨h1, h2⟩
theorem am_okst {v : AV} {l : List AV} (h : am_oks (v :: l)) : am_oks l := (List.forall_mem_cons.mp h).2
theorem am_oksh {v : AV} {l : List AV} (h : am_oks (v :: l)) : am_ok v := (List.forall_mem_cons.mp h).1
theorem av_ref (z : AMZ) {x : Int} (h0 : 0 ≤ x) (h1 : x < 1000) : av z (2, x) = .ref (z.2.2.1 + x.toNat) := by
  show (if x < 0 then Value.null else if x < 1000 then Value.ref (z.2.2.1 + x.toNat) else z.2.2.2.1 x.toNat) = _
  rw [if_neg (by omega), if_pos h1]
theorem av_out (z : AMZ) {x : Int} (h0 : 1000 ≤ x) : av z (2, x) = z.2.2.2.1 x.toNat := by
  show (if x < 0 then Value.null else if x < 1000 then Value.ref (z.2.2.1 + x.toNat) else z.2.2.2.1 x.toNat) = _
  rw [if_neg (by omega), if_neg (by omega)]
theorem av_null (z : AMZ) {x : Int} (h0 : x < 0) : av z (2, x) = .null := by
  show (if x < 0 then Value.null else if x < 1000 then Value.ref (z.2.2.1 + x.toNat) else z.2.2.2.1 x.toNat) = _
  rw [if_pos h0]
theorem av_cat {z : AMZ} {v : AV} (h1 : v.1 ≠ 1) (h4 : v.1 ≠ 4) (hr : ∀ k, (z.2.2.2.1 k).category = 1) : (av z v).category = 1 := by
  obtain ⟨t, x⟩ := v
  unfold av
  split
  · rfl
  · rename_i h; exact absurd h h1
  · rfl
  · rename_i h; exact absurd h h4
  · split
    · rfl
    · split
      · rfl
      · exact hr _
theorem am_L.at {z : AMZ} {nL : Nat} {ls : List AV} {la : Array Slot} (h : am_L z nL ls la) {i : Nat} {v : AV} (hi : ls[i]? = some v) (h9 : v.1 ≠ 9) : la[i]? = some (.val (av z v)) := h.2.2 i v hi h9
