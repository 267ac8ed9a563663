/-! the class: ships, written -/
theorem ac_addByte {v : Int} {h : AH} {K : AO → Nat → AH → Prop} (hl : 0 ≤ h 138 1 ∧ h 138 1 ≤ 239) (k : K (.inl none) 159 (push 139 138 1 h v)) : AC mX7_addByte 1 0 0 159 [(2, 138), (0, v)] h K := by
  unfold push at k
  refine ac_of (ls := [(2, 138), (0, v)]) pn_X7 rfl (Nat.le_of_ble_eq_true rfl) rfl ?_
  refine a_al0 (by decide) dX7_addByte_0 ?_
  refine aw_get 1 dX7_addByte_1 fl_X7_15 at_138 rfl ?_
  refine a_al0 (by decide) dX7_addByte_4 ?_
  refine aw_getR (r := 139) 0 rfl dX7_addByte_5 fl_X7_9 at_138 rfl rfl ?_
  refine aw_alen (by decide) dX7_addByte_8 ar_139 (by decide) ?_
  refine aw_icmp_ge 32 dX7_addByte_9 (by decide) (fun c9 => ?_) (fun c9 => ?_)
  · exfalso; omega
  · refine a_al0 (by decide) dX7_addByte_12 ?_
    refine aw_getR (r := 139) 0 rfl dX7_addByte_13 fl_X7_9 at_138 rfl rfl ?_
    refine a_al0 (by decide) dX7_addByte_16 ?_
    refine aw_get 1 dX7_addByte_17 fl_X7_15 at_138 rfl ?_
    refine a_il1 dX7_addByte_20 ?_
    refine aw_iast dX7_addByte_21 ar_139 (by omega) ?_
    refine a_al0 (by decide) dX7_addByte_22 ?_
    refine aw_dup dX7_addByte_23 rfl ?_
    refine aw_get 1 dX7_addByte_24 fl_X7_15 at_138 rfl ?_
    try simp (disch := omega) only [up_at, up_ne]
    refine aw_iconst dX7_addByte_27 (by decide) ?_
    refine aw_iaddR (by omega) dX7_addByte_28 ?_
    refine aw_put 1 dX7_addByte_29 fp_X7_15 at_138 rfl ?_
    refine aw_vret dX7_addByte_32 rfl ?_
    exact k
def dig (v : Int) : Nat → Int
  | 0 => v % 32
  | e + 1 => dig (v / 32) e
theorem dig_rg : ∀ (e : Nat) (v : Int), 0 ≤ dig v e ∧ dig v e ≤ 31
  | 0, v => by show 0 ≤ v % 32 ∧ v % 32 ≤ 31; omega
  | e + 1, v => dig_rg e (v / 32)
def dgL (v : Int) : Nat → List Int
  | 0 => []
  | e + 1 => if dig v e = 0 then dgL v e else (96 + dig v e) :: dgL v e
theorem dgL_le (v : Int) : ∀ e : Nat, (dgL v e).length ≤ e
  | 0 => Nat.le_refl _
  | e + 1 => by
    have q := dgL_le v e
    show (if dig v e = 0 then dgL v e else (96 + dig v e) :: dgL v e).length ≤ e + 1
    split
    · omega
    · rw [List.length_cons]; omega
theorem dgL_s {v c : Int} (hc : 97 ≤ c ∧ c ≤ 122) : ∀ m : Nat, dgL (v * 32 + c - 96) (m + 1) = dgL v m ++ [c]
  | 0 => by
    show (if (v * 32 + c - 96) % 32 = 0 then [] else [96 + (v * 32 + c - 96) % 32]) = [] ++ [c]
    rw [show (v * 32 + c - 96) % 32 = c - 96 by omega, if_neg (by omega), show 96 + (c - 96) = c by omega]
    rfl
  | m + 1 => by
    have ih := dgL_s hc m (v := v)
    have e : dig (v * 32 + c - 96) (m + 1) = dig v m := by
      show dig ((v * 32 + c - 96) / 32) m = _
      rw [show (v * 32 + c - 96) / 32 = v by omega]
    show (if dig (v * 32 + c - 96) (m + 1) = 0 then dgL (v * 32 + c - 96) (m + 1) else (96 + dig (v * 32 + c - 96) (m + 1)) :: dgL (v * 32 + c - 96) (m + 1)) = (if dig v m = 0 then dgL v m else (96 + dig v m) :: dgL v m) ++ [c]
    rw [e, ih]
    split
    · rfl
    · rfl
theorem dig_0 : ∀ e : Nat, dig 0 e = 0
  | 0 => rfl
  | e + 1 => dig_0 e
theorem dgL_0 : ∀ e : Nat, dgL 0 e = []
  | 0 => rfl
  | e + 1 => by
    show (if dig 0 e = 0 then dgL 0 e else (96 + dig 0 e) :: dgL 0 e) = []
    rw [dig_0 e, if_pos rfl, dgL_0 e]
theorem nmL_s (r : Int → Int) (i : Int) : ∀ (n : Nat) (k : Int), (∀ j : Int, 0 ≤ j → j < n + 1 → 0 < r (46 + 25 * i + (17 + (k + j)))) → nmL r i (n + 1) k = nmL r i n k ++ [r (46 + 25 * i + (17 + (k + n)))]
  | 0, k, h => by
    have h0 := h 0 (by omega) (by omega)
    rw [Int.add_zero] at h0
    show (if 0 < r (46 + 25 * i + (17 + k)) then r (46 + 25 * i + (17 + k)) :: [] else []) = [] ++ [r (46 + 25 * i + (17 + (k + ((0 : Nat) : Int))))]
    rw [if_pos h0, show k + ((0 : Nat) : Int) = k by omega]
    rfl
  | n + 1, k, h => by
    have h0 := h 0 (by omega) (by omega)
    rw [Int.add_zero] at h0
    have ih := nmL_s r i n (k + 1) (fun j a b => by
      have := h (j + 1) (by omega) (by omega)
      rw [show k + (j + 1) = k + 1 + j by omega] at this
      exact this)
    show (if 0 < r (46 + 25 * i + (17 + k)) then r (46 + 25 * i + (17 + k)) :: nmL r i (n + 1) (k + 1) else []) = (if 0 < r (46 + 25 * i + (17 + k)) then r (46 + 25 * i + (17 + k)) :: nmL r i n (k + 1) else []) ++ [r (46 + 25 * i + (17 + (k + ((n + 1 : Nat) : Int))))]
    rw [if_pos h0, if_pos h0, ih, show k + 1 + (n : Int) = k + ((n + 1 : Nat) : Int) by omega]
    rfl
theorem nmL_c (r : Int → Int) (i : Int) (m : Nat) : ∀ (n : Nat) (k : Int), (m = 0 ∨ r (46 + 25 * i + (17 + (k + n))) = 0) → nmL r i (n + m) k = nmL r i n k
  | 0, k, h => by
    rw [Nat.zero_add]
    cases m with
    | zero => rfl
    | succ m =>
      have e : r (46 + 25 * i + (17 + k)) = 0 := by
        rcases h with h | h
        · omega
        · rw [show k + ((0 : Nat) : Int) = k by omega] at h
          exact h
      show (if 0 < r (46 + 25 * i + (17 + k)) then _ else []) = []
      rw [if_neg (by omega)]
  | n + 1, k, h => by
    rw [show k + ((n + 1 : Nat) : Int) = k + 1 + (n : Int) by omega] at h
    have ih := nmL_c r i m n (k + 1) h
    rw [show n + 1 + m = (n + m) + 1 by omega]
    show (if 0 < r (46 + 25 * i + (17 + k)) then r (46 + 25 * i + (17 + k)) :: nmL r i (n + m) (k + 1) else []) = if 0 < r (46 + 25 * i + (17 + k)) then r (46 + 25 * i + (17 + k)) :: nmL r i n (k + 1) else []
    rw [ih]
theorem dgL_v {r : Int → Int} {i : Int} (m : Nat) : ∀ n : Nat, (∀ k : Int, 0 ≤ k → k < n → 97 ≤ r (46 + 25 * i + (17 + k)) ∧ r (46 + 25 * i + (17 + k)) ≤ 122) → dgL (vN (fun k => r (46 + 25 * i + (17 + k))) n) (n + m) = nmL r i n 0
  | 0, h => dgL_0 _
  | n + 1, h => by
    have q := h n (by omega) (by omega)
    have ih := dgL_v m n (fun k a b => h k a (by omega))
    have s := nmL_s r i n 0 (fun j a b => by
      have := h j a (by omega)
      rw [Int.zero_add]
      omega)
    rw [Int.zero_add] at s
    have e := dgL_s (v := vN (fun k => r (46 + 25 * i + (17 + k))) n) q (n + m)
    rw [show n + 1 + m = (n + m) + 1 by omega]
    show dgL (vN (fun k => r (46 + 25 * i + (17 + k))) n * 32 + r (46 + 25 * i + (17 + (n : Int))) - 96) (n + m + 1) = _
    rw [e, ih, s]
theorem dgL_name {r : Int → Int} {i : Int} (h : nmOk (fun k => r (46 + 25 * i + (17 + k)))) : dgL (encN (fun k => r (46 + 25 * i + (17 + k))) 8) 8 = nmL r i 8 0 := by
  obtain ⟨L, l1, l8, e1, a1, b1⟩ := nm_v h
  have v := dgL_v (8 - L) L a1
  have c := nmL_c r i (8 - L) L 0 (by
    by_cases z : 8 - L = 0
    · exact Or.inl z
    · refine Or.inr ?_
      rw [Int.zero_add]
      exact b1 L (by omega) (by omega))
  rw [show L + (8 - L) = 8 by omega] at v c
  rw [e1, v, c]
theorem vN_lt {c : Int → Int} : ∀ n : Nat, (∀ k : Int, 0 ≤ k → k < n → 97 ≤ c k ∧ c k ≤ 122) → n ≤ 8 → vN c n < 32 ^ n
  | 0, _, _ => by show (0 : Int) < 32 ^ 0; decide
  | n + 1, h, h8 => by
    have i := vN_lt n (fun k a b => h k a (by omega)) (by omega)
    have q := h n (by omega) (by omega)
    show vN c n * 32 + c n - 96 < 32 ^ (n + 1)
    rw [Int.pow_succ]
    omega
theorem encN_rg {c : Int → Int} (h : nmOk c) : 0 ≤ encN c 8 ∧ encN c 8 < 1099511627776 := by
  obtain ⟨L, l1, l8, e1, a1, b1⟩ := nm_v h
  have a := vN_0 L a1
  have b := vN_lt L a1 l8
  rw [e1]
  refine ⟨a, Int.lt_of_lt_of_le b ?_⟩
  have : L = 1 ∨ L = 2 ∨ L = 3 ∨ L = 4 ∨ L = 5 ∨ L = 6 ∨ L = 7 ∨ L = 8 := by omega
  rcases this with rfl | rfl | rfl | rfl | rfl | rfl | rfl | rfl <;> decide
theorem and31 (x : Int) : i_and x 31 = x % 32 := by
  obtain ⟨X, hX⟩ : ∃ X : BitVec 32, X = (Int32.ofInt x).toBitVec := ⟨_, rfl⟩
  have e : (Int32.ofInt x &&& Int32.ofInt 31).toBitVec.toNat = X.toNat % 32 := by
    rw [show (Int32.ofInt x &&& Int32.ofInt 31).toBitVec = X &&& 31#32 by rw [hX]; rfl, BitVec.toNat_and]
    exact Nat.and_two_pow_sub_one_eq_mod X.toNat 5
  have e2 : i_and x 31 = ((X.toNat % 32 : Nat) : Int) := by
    show (Int32.ofInt x &&& Int32.ofInt 31).toBitVec.toInt = _
    rw [bv_toI (by rw [e]; omega), e]
  have e3 : X.toNat = (x % 4294967296).toNat := by
    rw [hX]
    exact BitVec.toNat_ofInt x
  rw [e2, e3]
  omega
theorem sh_nat8 : ∀ b : Fin 8, (((Int32.ofInt (5 * (b.val : Int))).toInt64 &&& 63).toBitVec.smod 64).toNat = 5 * b.val := by decide
theorem l_shr5 {v : Int} {m : Nat} (hv : 0 ≤ v ∧ v < 1099511627776) (hm : m ≤ 7) : l_shr v (5 * (m : Int)) = v / ((2 ^ (5 * m) : Nat) : Int) := by
  have e1 := sh_nat8 ⟨m, by omega⟩
  dsimp only at e1
  have e2 : (Int64.ofInt v >>> ((Int32.ofInt (5 * (m : Int))).toInt64 &&& 63)).toBitVec = (Int64.ofInt v).toBitVec.sshiftRight (5 * m) := by
    show (Int64.ofInt v).toBitVec.sshiftRight (((Int32.ofInt (5 * (m : Int))).toInt64 &&& 63).toBitVec.smod 64).toNat = _
    rw [e1]
  show (Int64.ofInt v >>> ((Int32.ofInt (5 * (m : Int))).toInt64 &&& 63)).toBitVec.toInt = _
  rw [e2, BitVec.toInt_sshiftRight, Int.shiftRight_eq_div_pow]
  have e3 : (Int64.ofInt v).toBitVec.toInt = v := am_toL (x := v) (by omega) (by omega)
  rw [e3]
theorem dig_e {v : Int} {m : Nat} (hv : 0 ≤ v ∧ v < 1099511627776) (hm : m ≤ 7) : i_and (wr (l_shr v (5 * (m : Int)))) 31 = dig v m := by
  rw [and31, l_shr5 hv hm]
  have w : ∀ x : Int, wr x % 32 = x % 32 := fun x => by unfold wr; omega
  rw [w]
  have : m = 0 ∨ m = 1 ∨ m = 2 ∨ m = 3 ∨ m = 4 ∨ m = 5 ∨ m = 6 ∨ m = 7 := by omega
  rcases this with rfl | rfl | rfl | rfl | rfl | rfl | rfl | rfl
  · show v / 1 % 32 = v % 32; omega
  · show v / 32 % 32 = v / 32 % 32; omega
  · show v / 1024 % 32 = v / 32 / 32 % 32; omega
  · show v / 32768 % 32 = v / 32 / 32 / 32 % 32; omega
  · show v / 1048576 % 32 = v / 32 / 32 / 32 / 32 % 32; omega
  · show v / 33554432 % 32 = v / 32 / 32 / 32 / 32 / 32 % 32; omega
  · show v / 1073741824 % 32 = v / 32 / 32 / 32 / 32 / 32 / 32 % 32; omega
  · show v / 34359738368 % 32 = v / 32 / 32 / 32 / 32 / 32 / 32 / 32 % 32; omega
theorem an3 {v : Int} {K : AO → Nat → AH → Prop} (hv : 0 ≤ v ∧ v < 1099511627776) : ∀ (m : Nat) (w : AV) (g : AH), m ≤ 8 → am_n2 w = true → 0 ≤ g 138 1 → g 138 1 + (dgL v m).length ≤ 240 → K (.inl none) 159 (pushL 139 138 1 g (dgL v m)) → AW mX7_addName 2 0 0 K 159 3 [(2, 138), (1, v), (9, 0), (0, (m : Int) - 1), w] [] g
  | 0, w, g, h8, hw, g0, gl, k => by
    refine a_il3 dX7_addName_3 ?_
    refine aw_if_lt 40 dX7_addName_4 (by decide) (fun c4 => ?_) (fun c4 => ?_)
    · refine aw_vret dX7_addName_40 rfl ?_
      exact k
    · exfalso; omega
  | m + 1, w, g, h8, hw, g0, gl, k => by
    have r := dig_rg m v
    have de := dig_e (m := m) hv (by omega)
    have e : dgL v (m + 1) = if dig v m = 0 then dgL v m else (96 + dig v m) :: dgL v m := rfl
    have em : ((m + 1 : Nat) : Int) - 1 = m := by omega
    have em2 : (m : Int) + -1 = m - 1 := by omega
    rw [em]
    refine a_il3 dX7_addName_3 ?_
    refine aw_if_lt 40 dX7_addName_4 (by decide) (fun c4 => ?_) (fun c4 => ?_)
    · exfalso; omega
    · refine a_ll1 dX7_addName_7 ?_
      refine aw_iconst dX7_addName_8 (by decide) ?_
      refine a_il3 dX7_addName_9 ?_
      refine aw_imulR (by omega) dX7_addName_10 ?_
      refine aw_lshr dX7_addName_11 ?_
      refine aw_l2i dX7_addName_12 ?_
      refine aw_bipush dX7_addName_13 (by decide) ?_
      refine aw_iand dX7_addName_15 ?_
      rw [de]
      refine a_is4 rfl rfl dX7_addName_16 ?_
      refine a_il4 dX7_addName_18 ?_
      refine aw_if_eq 34 dX7_addName_20 (by decide) (fun c20 => ?_) (fun c20 => ?_)
      · rw [e, if_pos (by assumption)] at k gl
        refine a_iiR3 (by omega) rfl rfl dX7_addName_34 ?_
        refine aw_goto 3 dX7_addName_37 (by decide) ?_
        rw [em2]
        exact an3 hv m (0, dig v m) g (by omega) rfl g0 gl k
      · rw [e, if_neg (by assumption)] at k gl
        rw [List.length_cons] at gl
        refine a_al0 (by decide) dX7_addName_23 ?_
        refine aw_bipush dX7_addName_24 (by decide) ?_
        refine a_il4 dX7_addName_26 ?_
        refine aw_iaddR (by omega) dX7_addName_28 ?_
        refine aw_iconst dX7_addName_29 (by decide) ?_
        refine aw_isubR (by omega) dX7_addName_30 ?_
        refine aw_callV 1 0 0 dX7_addName_31 yw_X7_addByte ml_X7_19 in_X7_addByte se_X7_addByte (ci := 6) rfl at_138 (as := [_]) rfl rfl ⟨by decide, by decide, by decide, Nat.le_of_ble_eq_true rfl⟩ ?_
        refine ac_addByte (by omega) ?_
        rw [show 97 + dig v m - 1 = 96 + dig v m by omega]
        refine am_cv ?_
        refine a_iiR3 (by omega) rfl rfl dX7_addName_34 ?_
        refine aw_goto 3 dX7_addName_37 (by decide) ?_
        rw [em2]
        exact an3 hv m (0, dig v m) _ (by omega) rfl (by rw [push_n]; omega) (by rw [push_n]; omega) k
theorem ac_addName {v : Int} {h : AH} {K : AO → Nat → AH → Prop} (hv : 0 ≤ v ∧ v < 1099511627776) (h0 : 0 ≤ h 138 1) (hl : h 138 1 + (dgL v 8).length ≤ 240) (k : K (.inl none) 159 (pushL 139 138 1 h (dgL v 8))) : AC mX7_addName 2 0 0 159 [(2, 138), (1, v)] h K := by
  refine ac_of (ls := [(2, 138), (1, v), (9, 0), (9, 0), (9, 0)]) pn_X7 rfl (Nat.le_of_ble_eq_true rfl) rfl ?_
  refine aw_bipush dX7_addName_0 (by decide) ?_
  refine a_is3 rfl rfl dX7_addName_2 ?_
  exact an3 hv 8 (9, 0) h (by decide) rfl h0 hl k
theorem ac_addNumber {v : Int} {h : AH} {K : AO → Nat → AH → Prop} (hl : 0 ≤ h 138 1 ∧ h 138 1 ≤ 238) (hv : 0 ≤ v ∧ v ≤ 99) (k : K (.inl none) 159 (pushL 139 138 1 h (numL v))) : AC mX7_addNumber 2 0 0 159 [(2, 138), (0, v)] h K := by
  have em : v.tmod 10 = v % 10 := Int.tmod_eq_emod_of_nonneg hv.1
  have ed : v.tdiv 10 = v / 10 := Int.tdiv_eq_ediv_of_nonneg hv.1
  have J17 : ∀ g : AH, 0 ≤ g 138 1 ∧ g 138 1 ≤ 239 → K (.inl none) 159 (push 139 138 1 g (48 + v % 10)) → AW mX7_addNumber 2 0 0 K 159 17 [(2, 138), (0, v)] [] g := fun g hg kk => by
    refine a_al0 (by decide) dX7_addNumber_17 ?_
    refine aw_bipush dX7_addNumber_18 (by decide) ?_
    refine a_il1 dX7_addNumber_20 ?_
    refine aw_bipush dX7_addNumber_21 (by decide) ?_
    refine aw_irem dX7_addNumber_23 (by omega) ?_
    rw [em]
    refine aw_iaddR (by omega) dX7_addNumber_24 ?_
    refine aw_callV 1 0 0 dX7_addNumber_25 yw_X7_addByte ml_X7_19 in_X7_addByte se_X7_addByte (ci := 6) rfl at_138 (as := [_]) rfl rfl ⟨by decide, by decide, by decide, Nat.le_of_ble_eq_true rfl⟩ ?_
    refine ac_addByte hg ?_
    refine am_cv ?_
    refine aw_vret dX7_addNumber_28 rfl ?_
    exact kk
  refine ac_of (ls := [(2, 138), (0, v)]) pn_X7 rfl (Nat.le_of_ble_eq_true rfl) rfl ?_
  refine a_il1 dX7_addNumber_0 ?_
  refine aw_bipush dX7_addNumber_1 (by decide) ?_
  refine aw_icmp_lt 17 dX7_addNumber_3 (by decide) (fun c3 => ?_) (fun c3 => ?_)
  · have e : numL v = [48 + v % 10] := if_neg (by omega)
    rw [e] at k
    exact J17 h (by omega) k
  · have e : numL v = [48 + v / 10, 48 + v % 10] := if_pos (by omega)
    rw [e] at k
    refine a_al0 (by decide) dX7_addNumber_6 ?_
    refine aw_bipush dX7_addNumber_7 (by decide) ?_
    refine a_il1 dX7_addNumber_9 ?_
    refine aw_bipush dX7_addNumber_10 (by decide) ?_
    refine aw_idiv dX7_addNumber_12 (by omega) ?_
    rw [ed]
    refine aw_iaddR (by omega) dX7_addNumber_13 ?_
    refine aw_callV 1 0 0 dX7_addNumber_14 yw_X7_addByte ml_X7_19 in_X7_addByte se_X7_addByte (ci := 6) rfl at_138 (as := [_]) rfl rfl ⟨by decide, by decide, by decide, Nat.le_of_ble_eq_true rfl⟩ ?_
    refine ac_addByte (by omega) ?_
    refine am_cv ?_
    exact J17 _ (by rw [push_n]; omega) k
theorem ac_addHeading {d : Int} {h : AH} {K : AO → Nat → AH → Prop} (hl : 0 ≤ h 138 1 ∧ h 138 1 ≤ 238) (hd : 0 ≤ d ∧ d ≤ 7) (k : K (.inl none) 159 (pushL 139 138 1 h (hdL d))) : AC mX7_addHeading 2 0 0 159 [(2, 138), (0, d)] h K := by
  have em : d.tmod 4 = d % 4 := Int.tmod_eq_emod_of_nonneg hd.1
  have J56 : ∀ (g : AH) (a b : Int), 0 ≤ g 138 1 ∧ g 138 1 ≤ 239 → K (.inl none) 159 (pushL 139 138 1 g ((if 1 ≤ d ∧ d ≤ 3 then [69] else []) ++ (if 4 < d then [87] else []))) → AW mX7_addHeading 2 0 0 K 159 56 [(2, 138), (0, d), (0, a), (0, b)] [] g := fun g a b hg kk => by
    refine a_il1 dX7_addHeading_56 ?_
    refine aw_iconst dX7_addHeading_57 (by decide) ?_
    refine aw_irem dX7_addHeading_58 (by omega) ?_
    rw [em]
    refine aw_if_eq 78 dX7_addHeading_59 (by decide) (fun c59 => ?_) (fun c59 => ?_)
    · rw [if_neg (by omega), if_neg (by omega)] at kk
      refine aw_vret dX7_addHeading_78 rfl ?_
      exact kk
    · refine a_al0 (by decide) dX7_addHeading_62 ?_
      refine a_il1 dX7_addHeading_63 ?_
      refine aw_iconst dX7_addHeading_64 (by decide) ?_
      refine aw_icmp_ge 73 dX7_addHeading_65 (by decide) (fun c65 => ?_) (fun c65 => ?_)
      · rw [if_neg (by omega), if_pos (by omega)] at kk
        refine aw_bipush dX7_addHeading_73 (by decide) ?_
        refine aw_callV 1 0 0 dX7_addHeading_75 yw_X7_addByte ml_X7_19 in_X7_addByte se_X7_addByte (ci := 6) rfl at_138 (as := [_]) rfl rfl ⟨by decide, by decide, by decide, Nat.le_of_ble_eq_true rfl⟩ ?_
        refine ac_addByte hg ?_
        refine am_cv ?_
        refine aw_vret dX7_addHeading_78 rfl ?_
        exact kk
      · rw [if_pos (by omega), if_neg (by omega)] at kk
        refine aw_bipush dX7_addHeading_68 (by decide) ?_
        refine aw_goto 75 dX7_addHeading_70 (by decide) ?_
        refine aw_callV 1 0 0 dX7_addHeading_75 yw_X7_addByte ml_X7_19 in_X7_addByte se_X7_addByte (ci := 6) rfl at_138 (as := [_]) rfl rfl ⟨by decide, by decide, by decide, Nat.le_of_ble_eq_true rfl⟩ ?_
        refine ac_addByte hg ?_
        refine am_cv ?_
        refine aw_vret dX7_addHeading_78 rfl ?_
        exact kk
  have J33 : ∀ (a b : Int), (a = if d < 2 ∨ d = 7 then 1 else 0) → (b = if 3 ≤ d ∧ d ≤ 5 then 1 else 0) → AW mX7_addHeading 2 0 0 K 159 33 [(2, 138), (0, d), (0, a), (0, b)] [] h := fun a b ha hb => by
    unfold hdL at k
    by_cases z : d < 2 ∨ d = 7
    · rw [if_pos z] at ha k
      rw [if_neg (show ¬ (3 ≤ d ∧ d ≤ 5) by omega)] at hb k
      subst ha
      subst hb
      refine a_il2 dX7_addHeading_33 ?_
      refine aw_if_ne_y 41 dX7_addHeading_34 (by decide) (by decide) ?_
      refine a_al0 (by decide) dX7_addHeading_41 ?_
      refine a_il2 dX7_addHeading_42 ?_
      refine aw_if_eq_n 51 dX7_addHeading_43 (by decide) (by decide) ?_
      refine aw_bipush dX7_addHeading_46 (by decide) ?_
      refine aw_goto 53 dX7_addHeading_48 (by decide) ?_
      refine aw_callV 1 0 0 dX7_addHeading_53 yw_X7_addByte ml_X7_19 in_X7_addByte se_X7_addByte (ci := 6) rfl at_138 (as := [_]) rfl rfl ⟨by decide, by decide, by decide, Nat.le_of_ble_eq_true rfl⟩ ?_
      refine ac_addByte (by omega) ?_
      refine am_cv ?_
      exact J56 _ 1 0 (by rw [push_n]; omega) k
    · rw [if_neg z] at ha k
      by_cases y : 3 ≤ d ∧ d ≤ 5
      · rw [if_pos y] at hb k
        subst ha
        subst hb
        refine a_il2 dX7_addHeading_33 ?_
        refine aw_if_ne_n 41 dX7_addHeading_34 (by decide) (by decide) ?_
        refine a_il3 dX7_addHeading_37 ?_
        refine aw_if_eq_n 56 dX7_addHeading_38 (by decide) (by decide) ?_
        refine a_al0 (by decide) dX7_addHeading_41 ?_
        refine a_il2 dX7_addHeading_42 ?_
        refine aw_if_eq_y 51 dX7_addHeading_43 (by decide) (by decide) ?_
        refine aw_bipush dX7_addHeading_51 (by decide) ?_
        refine aw_callV 1 0 0 dX7_addHeading_53 yw_X7_addByte ml_X7_19 in_X7_addByte se_X7_addByte (ci := 6) rfl at_138 (as := [_]) rfl rfl ⟨by decide, by decide, by decide, Nat.le_of_ble_eq_true rfl⟩ ?_
        refine ac_addByte (by omega) ?_
        refine am_cv ?_
        exact J56 _ 0 1 (by rw [push_n]; omega) k
      · rw [if_neg y] at hb k
        subst ha
        subst hb
        refine a_il2 dX7_addHeading_33 ?_
        refine aw_if_ne_n 41 dX7_addHeading_34 (by decide) (by decide) ?_
        refine a_il3 dX7_addHeading_37 ?_
        refine aw_if_eq_y 56 dX7_addHeading_38 (by decide) (by decide) ?_
        exact J56 h 0 0 (by omega) k
  have J17 : ∀ a : Int, (a = if d < 2 ∨ d = 7 then 1 else 0) → AW mX7_addHeading 2 0 0 K 159 17 [(2, 138), (0, d), (0, a), (9, 0)] [] h := fun a ha => by
    refine a_il1 dX7_addHeading_17 ?_
    refine aw_iconst dX7_addHeading_18 (by decide) ?_
    refine aw_icmp_lt 31 dX7_addHeading_19 (by decide) (fun c19 => ?_) (fun c19 => ?_)
    · refine aw_iconst dX7_addHeading_31 (by decide) ?_
      refine a_is3 rfl rfl dX7_addHeading_32 ?_
      exact J33 a 0 ha (if_neg (by omega)).symm
    · refine a_il1 dX7_addHeading_22 ?_
      refine aw_iconst dX7_addHeading_23 (by decide) ?_
      refine aw_icmp_gt 31 dX7_addHeading_24 (by decide) (fun c24 => ?_) (fun c24 => ?_)
      · refine aw_iconst dX7_addHeading_31 (by decide) ?_
        refine a_is3 rfl rfl dX7_addHeading_32 ?_
        exact J33 a 0 ha (if_neg (by omega)).symm
      · refine aw_iconst dX7_addHeading_27 (by decide) ?_
        refine aw_goto 32 dX7_addHeading_28 (by decide) ?_
        refine a_is3 rfl rfl dX7_addHeading_32 ?_
        exact J33 a 1 ha (if_pos (by omega)).symm
  refine ac_of (ls := [(2, 138), (0, d), (9, 0), (9, 0)]) pn_X7 rfl (Nat.le_of_ble_eq_true rfl) rfl ?_
  refine a_il1 dX7_addHeading_0 ?_
  refine aw_bipush dX7_addHeading_1 (by decide) ?_
  refine aw_icmp_eq 11 dX7_addHeading_3 (by decide) (fun c3 => ?_) (fun c3 => ?_)
  · refine aw_iconst dX7_addHeading_11 (by decide) ?_
    refine aw_goto 16 dX7_addHeading_12 (by decide) ?_
    refine a_is2 rfl rfl dX7_addHeading_16 ?_
    exact J17 1 (if_pos (by omega)).symm
  · refine a_il1 dX7_addHeading_6 ?_
    refine aw_iconst dX7_addHeading_7 (by decide) ?_
    refine aw_icmp_gt 15 dX7_addHeading_8 (by decide) (fun c8 => ?_) (fun c8 => ?_)
    · refine aw_iconst dX7_addHeading_15 (by decide) ?_
      refine a_is2 rfl rfl dX7_addHeading_16 ?_
      exact J17 0 (if_neg (by omega)).symm
    · refine aw_iconst dX7_addHeading_11 (by decide) ?_
      refine aw_goto 16 dX7_addHeading_12 (by decide) ?_
      refine a_is2 rfl rfl dX7_addHeading_16 ?_
      exact J17 1 (if_pos (by omega)).symm
