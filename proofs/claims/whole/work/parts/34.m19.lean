/-! bits -/
def gb (x b : Int) : Bool := (Int32.ofInt x).toBitVec.getLsbD b.toNat
theorem bv_and1 (v : BitVec 32) : v &&& 1#32 = if v.getLsbD 0 then 1#32 else 0#32 := by
  rw [BitVec.and_one_eq_setWidth_ofBool_getLsbD]
  cases v.getLsbD 0 <;> rfl
theorem sh_nat : ∀ b : Fin 12, ((Int32.ofInt (b.val : Int) &&& 31).toBitVec.smod 32).toNat = b.val := by decide
theorem shr_bv (X : Int32) {b : Int} (hb : 0 ≤ b ∧ b ≤ 11) : (X >>> (Int32.ofInt b &&& 31)).toBitVec = X.toBitVec.sshiftRight b.toNat := by
  rw [Int32.toBitVec_shiftRight]
  show X.toBitVec.sshiftRight _ = _
  have h := sh_nat ⟨b.toNat, by omega⟩
  dsimp only at h
  rw [Int.toNat_of_nonneg hb.1] at h
  rw [h]
theorem bit_gb {x b : Int} (hb : 0 ≤ b ∧ b ≤ 11) : i_and (i_shr x b) 1 = if gb x b then 1 else 0 := by
  unfold i_and i_shr gb
  rw [Int32.ofInt_toInt]
  have e : (Int32.ofInt x >>> (Int32.ofInt b &&& 31) &&& Int32.ofInt 1).toBitVec = if (Int32.ofInt x).toBitVec.getLsbD b.toNat then 1#32 else 0#32 := by
    rw [Int32.toBitVec_and, shr_bv _ hb]
    show (Int32.ofInt x).toBitVec.sshiftRight b.toNat &&& 1#32 = _
    rw [bv_and1, BitVec.getLsbD_sshiftRight]
    have h1 : b.toNat + 0 < 32 := by omega
    have h2 : b < 32 := by omega
    simp [h1, h2]
  show (Int32.ofInt x >>> (Int32.ofInt b &&& 31) &&& Int32.ofInt 1).toBitVec.toInt = _
  rw [e]
  split <;> rfl
theorem gb_or (x y b : Int) : gb (i_or x y) b = (gb x b || gb y b) := by
  unfold gb i_or
  rw [Int32.ofInt_toInt, Int32.toBitVec_or, BitVec.getLsbD_or]
theorem gb_shlF : ∀ a b : Fin 12, gb (i_shl 1 (a.val : Int)) (b.val : Int) = decide (b.val = a.val) := by decide
theorem gb_shl {a b : Int} (ha : 0 ≤ a ∧ a ≤ 11) (hb : 0 ≤ b ∧ b ≤ 11) : gb (i_shl 1 a) b = decide (b = a) := by
  have h := gb_shlF ⟨a.toNat, by omega⟩ ⟨b.toNat, by omega⟩
  dsimp only at h
  rw [Int.toNat_of_nonneg ha.1, Int.toNat_of_nonneg hb.1] at h
  rw [h]
  by_cases e : b = a
  · rw [decide_eq_true e, decide_eq_true (by rw [e])]
  · rw [decide_eq_false e, decide_eq_false (by omega)]
theorem gb_0F : ∀ b : Fin 12, gb 0 (b.val : Int) = false := by decide
theorem gb_0 {b : Int} (hb : 0 ≤ b ∧ b ≤ 11) : gb 0 b = false := by
  have h := gb_0F ⟨b.toNat, by omega⟩
  dsimp only at h
  rwa [Int.toNat_of_nonneg hb.1] at h
theorem bit_iff {x b : Int} (hb : 0 ≤ b ∧ b ≤ 11) : bitP x b ↔ gb x b = true := by
  unfold bitP
  rw [bit_gb hb]
  cases gb x b <;> simp
theorem bit_n {x b : Int} (hb : 0 ≤ b ∧ b ≤ 11) : i_and (i_shr x b) 1 = 0 ↔ ¬ gb x b = true := by
  rw [bit_gb hb]
  cases gb x b <;> simp
theorem gb_set {x a b : Int} (ha : 0 ≤ a ∧ a ≤ 11) (hb : 0 ≤ b ∧ b ≤ 11) : gb (i_or x (i_shl 1 a)) b = true ↔ gb x b = true ∨ b = a := by
  rw [gb_or, gb_shl ha hb, Bool.or_eq_true, decide_eq_true_iff]
theorem gb_orN (P : Int → Prop) [DecidablePred P] {b : Int} (hb : 0 ≤ b ∧ b ≤ 11) : ∀ m : Nat, m ≤ 12 → (gb (orN P m) b = true ↔ b < m ∧ P b)
  | 0, _ => by
    show gb 0 b = true ↔ _
    rw [gb_0 hb]
    constructor
    · intro q; cases q
    · intro q; omega
  | m + 1, hm => by
    have ih := gb_orN P hb m (by omega)
    show gb (if P m then i_or (orN P m) (i_shl 1 m) else orN P m) b = true ↔ _
    by_cases q : P m
    · rw [if_pos q, gb_set (by omega) hb, ih]
      constructor
      · rintro (⟨a, c⟩ | a)
        · exact ⟨by omega, c⟩
        · exact ⟨by omega, a ▸ q⟩
      · rintro ⟨a, c⟩
        by_cases e : b = m
        · exact Or.inr e
        · exact Or.inl ⟨by omega, c⟩
    · rw [if_neg q, ih]
      constructor
      · rintro ⟨a, c⟩
        exact ⟨by omega, c⟩
      · rintro ⟨a, c⟩
        by_cases e : b = m
        · exact absurd (e ▸ c) q
        · exact ⟨by omega, c⟩
/-! floats -/
theorem fd_okF : ∀ m : Fin 12, ∀ c : Fin 73, vf_n32 (FP.fdiv (UInt32.ofNat (f_i2f (c.val : Int)).toNat) (UInt32.ofNat (f_i2f ((m.val + 1 : Nat) : Int)).toNat)) := by unfold vf_n32; decide
theorem fd_ok {c m : Int} (hc : 0 ≤ c ∧ c ≤ 72) (hm : 1 ≤ m ∧ m ≤ 12) : vf_n32 (FP.fdiv (UInt32.ofNat (f_i2f c).toNat) (UInt32.ofNat (f_i2f m).toNat)) := by
  have h := fd_okF ⟨(m - 1).toNat, by omega⟩ ⟨c.toNat, by omega⟩
  dsimp only at h
  rwa [show (((m - 1).toNat + 1 : Nat) : Int) = m by omega, Int.toNat_of_nonneg hc.1] at h
