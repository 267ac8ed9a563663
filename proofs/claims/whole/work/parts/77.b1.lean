/-! letters in a number -/
theorem sh_nat16 : ∀ b : Fin 16, ((Int32.ofInt (b.val : Int) &&& 31).toBitVec.smod 32).toNat = b.val := by decide
theorem gb_shr {x s k : Int} (hs : 0 ≤ s ∧ s ≤ 15) (hk : 0 ≤ k ∧ k ≤ 11) : gb (i_shr x s) k = gb x (s + k) := by
  have e1 := sh_nat16 ⟨s.toNat, by omega⟩
  dsimp only at e1
  rw [Int.toNat_of_nonneg hs.1] at e1
  unfold gb i_shr
  rw [Int32.ofInt_toInt]
  have e2 : (Int32.ofInt x >>> (Int32.ofInt s &&& 31)).toBitVec = (Int32.ofInt x).toBitVec.sshiftRight s.toNat := by
    show (Int32.ofInt x).toBitVec.sshiftRight ((Int32.ofInt s &&& 31).toBitVec.smod 32).toNat = _
    rw [e1]
  rw [e2, BitVec.getLsbD_sshiftRight, if_pos (by omega), show (s + k).toNat = s.toNat + k.toNat by omega]
  simp
  intro _
  omega
theorem gb_and (x y b : Int) : gb (i_and x y) b = (gb x b && gb y b) := by
  unfold gb i_and
  rw [Int32.ofInt_toInt, Int32.toBitVec_and, BitVec.getLsbD_and]
def bv (p : Bool) : Int := if p = true then 1 else 0
theorem nat8 (n : Nat) : n % 8 = (if n.testBit 0 = true then 1 else 0) + 2 * (if n.testBit 1 = true then 1 else 0) + 4 * (if n.testBit 2 = true then 1 else 0) := by
  have h0 : n.testBit 0 = decide (n / 2 ^ 0 % 2 = 1) := Nat.testBit_eq_decide_div_mod_eq
  have h1 : n.testBit 1 = decide (n / 2 ^ 1 % 2 = 1) := Nat.testBit_eq_decide_div_mod_eq
  have h2 : n.testBit 2 = decide (n / 2 ^ 2 % 2 = 1) := Nat.testBit_eq_decide_div_mod_eq
  rw [h0, h1, h2]
  simp only [decide_eq_true_eq]
  split <;> split <;> split <;> omega
theorem and7_bits (x : Int) : i_and x 7 = bv (gb x 0) + 2 * bv (gb x 1) + 4 * bv (gb x 2) := by
  obtain ⟨X, hX⟩ : ∃ X : BitVec 32, X = (Int32.ofInt x).toBitVec := ⟨_, rfl⟩
  have g : ∀ k : Nat, gb x (k : Int) = X.toNat.testBit k := fun k => by
    unfold gb
    rw [← hX, Int.toNat_natCast]
    rfl
  have g0 := g 0
  have g1 := g 1
  have g2 := g 2
  have e : (Int32.ofInt x &&& Int32.ofInt 7).toBitVec.toNat = X.toNat % 8 := by
    rw [show (Int32.ofInt x &&& Int32.ofInt 7).toBitVec = X &&& 7#32 by rw [hX]; rfl, BitVec.toNat_and]
    exact Nat.and_two_pow_sub_one_eq_mod X.toNat 3
  have e2 : i_and x 7 = ((X.toNat % 8 : Nat) : Int) := by
    show (Int32.ofInt x &&& Int32.ofInt 7).toBitVec.toInt = _
    rw [bv_toI (by rw [e]; omega), e]
  rw [e2, nat8]
  show _ = bv (gb x ((0 : Nat) : Int)) + 2 * bv (gb x ((1 : Nat) : Int)) + 4 * bv (gb x ((2 : Nat) : Int))
  rw [g0, g1, g2]
  unfold bv
  split <;> split <;> split <;> rfl
theorem cLt_bits {o p : Int} (hp : 0 ≤ p ∧ p ≤ 5) : cLt o p = bv (gb o (3 * p)) + 2 * bv (gb o (3 * p + 1)) + 4 * bv (gb o (3 * p + 2)) := by
  unfold cLt
  rw [and7_bits, gb_shr (by omega) (by decide), gb_shr (by omega) (by decide), gb_shr (by omega) (by decide), Int.add_zero]
theorem xor_F : ∀ p : Fin 6, ∀ k : Fin 18, gb (i_xor (i_shl 7 (3 * (p.val : Int))) (-1)) (k.val : Int) = !(decide (3 * p.val ≤ k.val ∧ k.val < 3 * p.val + 3)) := by decide +kernel
theorem shl_F : ∀ l : Fin 5, ∀ p : Fin 6, ∀ k : Fin 18, gb (i_shl (l.val : Int) (3 * (p.val : Int))) (k.val : Int) = (decide (3 * p.val ≤ k.val ∧ k.val < 3 * p.val + 3) && gb (l.val : Int) ((k.val : Int) - 3 * (p.val : Int))) := by decide +kernel
theorem let_F : ∀ l : Fin 5, bv (gb (l.val : Int) 0) + 2 * bv (gb (l.val : Int) 1) + 4 * bv (gb (l.val : Int) 2) = (l.val : Int) := by decide +kernel
theorem gb_with {o p l k : Int} (hp : 0 ≤ p ∧ p ≤ 5) (hl : 0 ≤ l ∧ l ≤ 4) (hk : 0 ≤ k ∧ k ≤ 17) : gb (cWi o p l) k = if 3 * p ≤ k ∧ k < 3 * p + 3 then gb l (k - 3 * p) else gb o k := by
  obtain ⟨p, rfl⟩ : ∃ q : Nat, p = q := ⟨p.toNat, by omega⟩
  obtain ⟨l, rfl⟩ : ∃ q : Nat, l = q := ⟨l.toNat, by omega⟩
  obtain ⟨k, rfl⟩ : ∃ q : Nat, k = q := ⟨k.toNat, by omega⟩
  have h1 := xor_F ⟨p, by omega⟩ ⟨k, by omega⟩
  have h2 := shl_F ⟨l, by omega⟩ ⟨p, by omega⟩ ⟨k, by omega⟩
  dsimp only at h1 h2
  unfold cWi
  rw [gb_or, gb_and, h1, h2]
  by_cases z : 3 * p ≤ k ∧ k < 3 * p + 3
  · rw [decide_eq_true z, if_pos (by omega)]
    simp
  · rw [decide_eq_false z, if_neg (by omega)]
    simp
theorem cLt_with {o p l q : Int} (hp : 0 ≤ p ∧ p ≤ 5) (hl : 0 ≤ l ∧ l ≤ 4) (hq : 0 ≤ q ∧ q ≤ 5) : cLt (cWi o p l) q = if q = p then l else cLt o q := by
  rw [cLt_bits hq, gb_with hp hl (by omega), gb_with hp hl (by omega), gb_with hp hl (by omega)]
  by_cases e : q = p
  · rw [if_pos e, if_pos (by omega), if_pos (by omega), if_pos (by omega), show 3 * q - 3 * p = 0 by omega, show 3 * q + 1 - 3 * p = 1 by omega, show 3 * q + 2 - 3 * p = 2 by omega]
    have := let_F ⟨l.toNat, by omega⟩
    dsimp only at this
    rwa [Int.toNat_of_nonneg hl.1] at this
  · rw [if_neg e, if_neg (by omega), if_neg (by omega), if_neg (by omega), cLt_bits hq]
theorem cLt_aF : ∀ p : Fin 6, cLt 37449 (p.val : Int) = 1 := by decide +kernel
theorem cLt_a {p : Int} (hp : 0 ≤ p ∧ p ≤ 5) : cLt 37449 p = 1 := by
  have := cLt_aF ⟨p.toNat, by omega⟩
  dsimp only at this
  rwa [Int.toNat_of_nonneg hp.1] at this
theorem cLt_0F : ∀ p : Fin 6, cLt 0 (p.val : Int) = 0 := by decide +kernel
theorem cLt_0 {p : Int} (hp : 0 ≤ p ∧ p ≤ 5) : cLt 0 p = 0 := by
  have := cLt_0F ⟨p.toNat, by omega⟩
  dsimp only at this
  rwa [Int.toNat_of_nonneg hp.1] at this
