/-! names and words: what a method needs of the tables -/
/-- a method: its name, code, words of locals, what it returns, its table -/
abbrev AMM : Type := MethodName × ByteArray × Nat × Option FieldType × List (Nat × Nat × Nat × Nat)
def am_ftl : List (List Nat) := [[2, 2, 0], [2, 0, 0], [0, 0, 0, 0, 0, 0, 0, 0, 0, 2, 2, 2, 2, 2, 2, 2, 2, 2], [2], [2, 0, 0, 0, 0, 0, 0, 1], [2, 2, 2, 2, 2, 2, 0], [2, 0], [2, 2, 2, 2, 2, 2, 2, 2, 2], [2, 2, 2, 2, 2, 2, 0, 0, 2, 0, 0, 0, 0, 0, 0, 0, 0, 2, 2, 2, 2, 2, 2, 2, 0, 2, 2, 0]]
def am_FT (c j : Nat) : Nat := (am_ftl.getD c []).getD j 0
def am_WS : List Cond := lw_tbl.filter goodWord
def am_EX : List String := ["java/lang/IndexOutOfBoundsException", "java/lang/IllegalArgumentException", "java/lang/IllegalStateException"]
def am_tag (t : FieldType) : Nat := match t with
  | .long => 1
  | .float => 3
  | .double => 4
  | .object _ => 2
  | .array _ => 2
  | _ => 0
def am_cls (ci : Nat) (C : String) (T : u_T) (N : Nat) : Prop := vwCl[ci]? = some (C, T, N) ∧ (∀ w ∈ u_ws C T N, w ∈ am_WS) ∧ ∃ ty0 : Nat → FieldType, (∀ k, k < N → parseFieldDescriptor (T k).2.2.1 = some (ty0 k)) ∧ (∀ a, a < N → ∀ b, b < N → a ≠ b → (T a).2.1 ≠ (T b).2.1) ∧ (∀ k, k < N → am_tag (ty0 k) = am_FT ci k)
def am_fl (own : String) (idx ci : Nat) (f : Int) : Prop := 0 ≤ f ∧ ∃ (C : String) (T : u_T) (N : Nat), am_cls ci C T N ∧ f.toNat < N ∧ Cond.fieldLink own idx (T f.toNat).1 (T f.toNat).2.1 (T f.toNat).2.2.1 ∈ am_WS
/-- .. and it may be written: not final, of this type -/
def am_flp (own : String) (idx ci : Nat) (f : Int) (ty : FieldType) : Prop := 0 ≤ f ∧ ∃ (C : String) (T : u_T) (N : Nat), am_cls ci C T N ∧ f.toNat < N ∧ Cond.fieldLink own idx (T f.toNat).1 (T f.toNat).2.1 (T f.toNat).2.2.1 ∈ am_WS ∧ (T f.toNat).2.2.2 = false ∧ parseFieldDescriptor (T f.toNat).2.2.1 = some ty
/-- .. final, written in the class' own constructor -/
def am_flf (own : String) (idx ci : Nat) (f : Int) (ty : FieldType) : Prop := 0 ≤ f ∧ ∃ (C : String) (T : u_T) (N : Nat), am_cls ci C T N ∧ f.toNat < N ∧ Cond.fieldLink own idx (T f.toNat).1 (T f.toNat).2.1 (T f.toNat).2.2.1 ∈ am_WS ∧ (T f.toNat).2.2.2 = true ∧ parseFieldDescriptor (T f.toNat).2.2.1 = some ty ∧ C = own ∧ (T f.toNat).1 = own
/-- what the tables say of a callee with np parameters -/
def am_yw (Y : AMM) (np : Nat) : Prop := Y.2.2.2.2 = [] ∧ Cond.code Y.1 Y.2.1 Y.2.2.1 Y.2.2.2.1 ∈ am_WS ∧ Cond.initialized Y.1.cls ∈ am_WS ∧ (Y.1.cls ≠ "java/lang/invoke/MethodHandle" ∧ Y.1.cls ≠ "java/lang/invoke/VarHandle") ∧ (parseMethodDescriptor Y.1.desc).map (fun s => s.parameters.length) = some np ∧ Y.2.2.1 ≤ 41
/-- constructors that are declared -/
def am_DC : List MethodName := [⟨"java/lang/RuntimeException", "<init>", "()V"⟩, ⟨"java/lang/RuntimeException", "<init>", "(Ljava/lang/String;)V"⟩, ⟨"java/lang/Exception", "<init>", "()V"⟩, ⟨"java/lang/Exception", "<init>", "(Ljava/lang/String;)V"⟩, ⟨"java/lang/Throwable", "<init>", "()V"⟩, ⟨"java/lang/Throwable", "<init>", "(Ljava/lang/String;)V"⟩]
def am_isDC (w : Cond) : Bool := match w with
  | .declares y => decide (y ∈ am_DC)
  | _ => false
/-- .. and of a place where an exception of this class is made and thrown -/
def am_tw (own : String) (ik ic : Nat) (cls : String) : Prop := Bundle.fit cls = true ∧ cls ∈ am_EX ∧ Cond.classLink own ik cls ∈ am_WS ∧ Cond.initialized cls ∈ am_WS ∧ (∀ w ∈ vx_atS own ic cls ["java/lang/RuntimeException", "java/lang/Exception"], w ∈ am_WS ∨ w = .castable cls cls ∨ am_isDC w = true)
/-- the calls of private members of a nest mate -/
def am_NW : List (String × Nat × MethodName) := [(RX8, 9, yX0_init), (RX8, 23, yX3_init), (RX8, 33, yX6_init), (RX8, 40, yX1_init), (RX8, 60, yX7_init), (RX0, 11, yX5_init), (RX3, 130, yX8_angleOf), (RX4, 21, yX3_init), (RX6, 69, yX8_cellOf), (RX6, 140, yX8_angleOf)]
theorem am_mt {w : Cond} (i : Nat) (h : tables_1[i]? = some w) (g : goodWord w = true) : w ∈ am_WS := List.mem_filter.mpr ⟨List.mem_append_right _ (List.mem_of_getElem? h), g⟩
theorem am_mp {w : Cond} (i : Nat) (h : (k2_sels lw_privs)[i]? = some w) (g : goodWord w = true) : w ∈ am_WS := List.mem_filter.mpr ⟨List.mem_append_left _ (List.mem_of_getElem? h), g⟩
