/-! what holds between the calls of the law -/
/-- the cells that matter -/
def LIc (k x : Int) : Prop := (k = 2 ∧ (x = 1 ∨ x = 3)) ∨ k = 3 ∨ (5 ≤ k ∧ k < 15) ∨ (32 ≤ k ∧ k < 140) ∨ (k = 140 ∧ (x = 6 ∨ x = 9 ∨ x = 16 ∨ x = 27)) ∨ (k = 141 ∧ 0 ≤ x ∧ x < 1256) ∨ (144 ≤ k ∧ k ≤ 147) ∨ k = 156
def UH (h : AH) : Prop := (∀ e, 0 ≤ e → e < h 32 2 → UN (rwA h 144 e)) ∧ ∀ s, 0 ≤ s → s ≤ 1 → ¬ h 146 s = 0 → UN (rwA h 145 s)
def TXi (h : AH) : Prop := (0 ≤ h 140 9 ∧ h 140 9 ≤ 600) ∧ h 2 1 = h 140 9 ∧ h 2 3 = h 140 16 ∧ ∀ k, 0 ≤ k → k < h 140 9 → h 3 k = h 147 k ∧ 1 ≤ h 147 k ∧ h 147 k ≤ 255
def WTi (h : AH) : Prop := (0 ≤ h 140 27 ∧ h 140 27 ≤ 240) ∧ h 138 1 = h 140 27 ∧ ∀ k, 0 ≤ k → k < h 140 27 → h 139 k = h 156 k
def LI (h : AH) : Prop := SR h 5 h ∧ UN h ∧ HI h ∧ SV h ∧ UH h ∧ TXi h ∧ WTi h
theorem UN_row {h h' : AH} (hS : SR h 5 h) (e : ∀ x, 0 ≤ x → x < 1256 → h' 141 x = h 141 x) (hU : UN h) : UN h' := by
  have n3 := hS.2.2.2.1.2.2.1
  exact UN_eqr n3.2 (e 3 (by decide) (by decide)) (fun i k i0 i1 k0 k1 => e _ (by omega) (by omega)) hU
theorem UH_mv {h h' : AH} (hU : UH h) (c : h' 32 2 = h 32 2) (m0 : ∀ x, h' 144 x = h 144 x) (m1 : ∀ x, h' 145 x = h 145 x) (m2 : ∀ x, h' 146 x = h 146 x) : UH h' := by
  refine ⟨fun e e0 e1 => ?_, fun s s0 s1 z => ?_⟩
  · have : rwA h' 144 e = rwA h 144 e := by funext _ x; exact m0 _
    rw [this]
    exact hU.1 e e0 (by omega)
  · have : rwA h' 145 s = rwA h 145 s := by funext _ x; exact m1 _
    rw [this]
    rw [m2] at z
    exact hU.2 s s0 s1 z
theorem TXi_mv {h h' : AH} (hT : TXi h) (a : h' 140 9 = h 140 9) (b : h' 2 1 = h 2 1) (c : h' 2 3 = h 2 3) (d : h' 140 16 = h 140 16) (e : ∀ k, h' 3 k = h 3 k) (f : ∀ k, h' 147 k = h 147 k) : TXi h' := by
  obtain ⟨t1, t2, t3, t4⟩ := hT
  refine ⟨by omega, by omega, by omega, fun k k0 k1 => ?_⟩
  rw [e, f]
  exact t4 k k0 (by omega)
theorem TXi_0 {h : AH} (a : h 140 9 = 0) (b : h 2 1 = 0) (c : h 2 3 = h 140 16) : TXi h := ⟨by omega, by omega, c, fun k k0 k1 => by omega⟩
theorem WTi_mv {h h' : AH} (hT : WTi h) (a : h' 140 27 = h 140 27) (b : h' 138 1 = h 138 1) (e : ∀ k, h' 139 k = h 139 k) (f : ∀ k, h' 156 k = h 156 k) : WTi h' := by
  obtain ⟨t1, t2, t4⟩ := hT
  refine ⟨by omega, by omega, fun k k0 k1 => ?_⟩
  rw [e, f]
  exact t4 k k0 (by omega)
theorem LI_mv {h h' : AH} (hL : LI h) (c : ∀ k x, LIc k x → h' k x = h k x) : LI h' := by
  obtain ⟨l1, l2, l3, l4, l5, l6, l7⟩ := hL
  have r : ∀ x, 0 ≤ x → x < 1256 → h' 141 x = h 141 x := fun x a b => c 141 x (by unfold LIc; omega)
  refine ⟨SR_mv (shEq_sm (fun k x a b => c k x (by unfold LIc; omega))) r l1, UN_row l1 r l2, HI_mv l3 (fun k x a b => c k x (by unfold LIc; omega)) (c _ _ (by unfold LIc; omega)) (fun x => c _ _ (by unfold LIc; omega)), SV_mv l4 (fun k x a b => c k x (by unfold LIc; omega)) (fun x => c _ _ (by unfold LIc; omega)) (fun x => c _ _ (by unfold LIc; omega)), UH_mv l5 (c _ _ (by unfold LIc; omega)) (fun x => c _ _ (by unfold LIc; omega)) (fun x => c _ _ (by unfold LIc; omega)) (fun x => c _ _ (by unfold LIc; omega)), TXi_mv l6 (c _ _ (by unfold LIc; omega)) (c _ _ (by unfold LIc; omega)) (c _ _ (by unfold LIc; omega)) (c _ _ (by unfold LIc; omega)) (fun x => c _ _ (by unfold LIc; omega)) (fun x => c _ _ (by unfold LIc; omega)), WTi_mv l7 (c _ _ (by unfold LIc; omega)) (c _ _ (by unfold LIc; omega)) (fun x => c _ _ (by unfold LIc; omega)) (fun x => c _ _ (by unfold LIc; omega))⟩
theorem LI_e {h : AH} {c : Int} (hL : LI h) : LI (up h 140 7 c) := LI_mv hL (fun k x q => up_ne (by unfold LIc at q; omega))
theorem LI_o {h : AH} {v : Int} (hL : LI h) : LI (up h 157 0 v) := LI_mv hL (fun k x q => up_ne (by unfold LIc at q; omega))
theorem LI_o2 {h : AH} {v : Int} (hL : LI h) : LI (up h 158 0 v) := LI_mv hL (fun k x q => up_ne (by unfold LIc at q; omega))
theorem LI_d {h h' : AH} (hL : LI h) (d : DrF h h') : LI h' := LI_mv hL (fun k x q => d k x (by unfold LIc at q; omega))
theorem LI_t {h h' : AH} (hL : LI h) (d : Tri h h') : LI h' := LI_mv hL (fun k x q => by
  unfold LIc at q
  by_cases z : k = 140
  · rw [z]
    exact d.2 x (by omega)
  · exact d.1 k x z (by omega) (by omega) (by omega))
/-- the text as it is told -/
def txS (h : AH) : Int → Int := fun k => if 0 ≤ k ∧ k < h 140 9 then h 147 k else -1
theorem LI_tx {h : AH} (hL : LI h) : TxS (txS h) (h 140 9) ∧ cTx (txS h) (h 140 9) h ∧ Tx (txS h) (h 140 9) h := by
  obtain ⟨t1, t2, t3, t4⟩ := hL.2.2.2.2.2.1
  refine ⟨⟨t1, fun k a b => ?_, fun k a => if_neg (by omega)⟩, ⟨t2, fun k a b => ?_⟩, ⟨rfl, fun k a b => ?_⟩⟩
  · unfold txS
    rw [if_pos ⟨a, b⟩]
    exact (t4 k a b).2
  · unfold txS
    rw [if_pos ⟨a, b⟩]
    exact (t4 k a b).1
  · unfold txS
    rw [if_pos ⟨a, b⟩]
/-- what the law asks of the model behind a call of the class -/
def AGK (Mm : AMM) (Dm : Nat) (bs : List AV) (h1 : AH) (k v : Int) : Prop := ∀ K2 : AO → Nat → AH → Prop, (∀ b h2, h2 140 7 = k → (k = 0 → b = v) → h2 157 0 = h1 157 0 → LI h2 → K2 (.inl (some (0, b))) 159 h2) → AC Mm Dm 0 0 159 bs h1 K2
