/-! how many ships were told -/
def ctB (o : Int) : Nat → Int
  | 0 => 0
  | m + 1 => ctB o m + if gb o m = true then 1 else 0
theorem ctB_le (o : Int) : ∀ m : Nat, 0 ≤ ctB o m ∧ ctB o m ≤ m
  | 0 => ⟨Int.le_refl _, Int.le_refl _⟩
  | m + 1 => by
    have i := ctB_le o m
    show 0 ≤ ctB o m + (if gb o m = true then 1 else 0) ∧ ctB o m + (if gb o m = true then 1 else 0) ≤ ((m + 1 : Nat) : Int)
    split <;> omega
theorem ctB_0 : ∀ m : Nat, m ≤ 12 → ctB 0 m = 0
  | 0, _ => rfl
  | m + 1, h => by
    show ctB 0 m + (if gb 0 m = true then 1 else 0) = 0
    rw [ctB_0 m (by omega), gb_0 ⟨by omega, by omega⟩]
    rfl
theorem ctB_set {o x : Int} (hx : 0 ≤ x ∧ x ≤ 11) (hz : gb o x = false) : ∀ m : Nat, m ≤ 12 → ctB (i_or o (i_shl 1 x)) m = ctB o m + if x < m then 1 else 0
  | 0, _ => by
    rw [if_neg (by omega)]
    rfl
  | m + 1, h => by
    show ctB (i_or o (i_shl 1 x)) m + (if gb (i_or o (i_shl 1 x)) m = true then 1 else 0) = ctB o m + (if gb o m = true then 1 else 0) + _
    rw [ctB_set hx hz m (by omega), gb_or, gb_shl hx ⟨by omega, by omega⟩]
    by_cases z : (m : Int) = x
    · have e : gb o (m : Int) = false := by rw [z]; exact hz
      rw [e, decide_eq_true z, if_neg (show ¬ x < (m : Int) by omega), if_pos (show x < ((m + 1 : Nat) : Int) by omega)]
      rfl
    · rw [decide_eq_false z, Bool.or_false]
      by_cases w : x < m
      · rw [if_pos w, if_pos (show x < ((m + 1 : Nat) : Int) by omega)]
        exact Int.add_right_comm _ _ _
      · rw [if_neg w, if_neg (show ¬ x < ((m + 1 : Nat) : Int) by omega), Int.add_zero, Int.add_zero]
theorem told_bit {o x : Int} (hx : 0 ≤ x ∧ x ≤ 11) (hz : i_and (i_shr o x) 1 = 0) : gb o x = false := by
  by_cases z : gb o x = true
  · have q := (bit_iff hx).mpr z
    unfold bitP at q
    rw [hz] at q
    exact absurd q (by decide)
  · exact Bool.eq_false_iff.mpr z
