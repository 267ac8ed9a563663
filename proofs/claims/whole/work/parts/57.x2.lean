/-! the class: fleets -/
def bc1 (x : Int) : Int := wr (x - i_and (i_ushr x 1) 1431655765)
def bc2 (y : Int) : Int := wr (i_and y 858993459 + i_and (i_ushr y 2) 858993459)
def bc3 (y : Int) : Int := i_and (wr (y + i_ushr y 4)) 252645135
def bc4 (y : Int) : Int := wr (y + i_ushr y 8)
def bc5 (y : Int) : Int := i_and (wr (y + i_ushr y 16)) 63
def bc (x : Int) : Int := bc5 (bc4 (bc3 (bc2 (bc1 x))))
theorem ac_bitCount {x : Int} {h : AH} {K : AO → Nat → AH → Prop} (k : K (.inl (some (0, bc x))) 159 h) : AC mJ6_bitCount_0f7a4 1 0 0 159 [(0, x)] h K := by
  refine ac_of (ls := [(0, x)]) pn_J6 rfl (Nat.le_of_ble_eq_true rfl) rfl ?_
  refine a_il0 dJ6_bitCount_0f7a4_0 ?_
  refine a_il0 dJ6_bitCount_0f7a4_1 ?_
  refine aw_iconst dJ6_bitCount_0f7a4_2 (by decide) ?_
  refine aw_iushr dJ6_bitCount_0f7a4_3 ?_
  refine aw_ldcw dJ6_bitCount_0f7a4_4 kc_J6_265 (by decide) ?_
  refine aw_iand dJ6_bitCount_0f7a4_7 ?_
  refine aw_isub dJ6_bitCount_0f7a4_8 ?_
  refine a_is0 rfl dJ6_bitCount_0f7a4_9 ?_
  refine a_il0 dJ6_bitCount_0f7a4_10 ?_
  refine aw_ldcw dJ6_bitCount_0f7a4_11 kc_J6_266 (by decide) ?_
  refine aw_iand dJ6_bitCount_0f7a4_14 ?_
  refine a_il0 dJ6_bitCount_0f7a4_15 ?_
  refine aw_iconst dJ6_bitCount_0f7a4_16 (by decide) ?_
  refine aw_iushr dJ6_bitCount_0f7a4_17 ?_
  refine aw_ldcw dJ6_bitCount_0f7a4_18 kc_J6_266 (by decide) ?_
  refine aw_iand dJ6_bitCount_0f7a4_21 ?_
  refine aw_iadd dJ6_bitCount_0f7a4_22 ?_
  refine a_is0 rfl dJ6_bitCount_0f7a4_23 ?_
  refine a_il0 dJ6_bitCount_0f7a4_24 ?_
  refine a_il0 dJ6_bitCount_0f7a4_25 ?_
  refine aw_iconst dJ6_bitCount_0f7a4_26 (by decide) ?_
  refine aw_iushr dJ6_bitCount_0f7a4_27 ?_
  refine aw_iadd dJ6_bitCount_0f7a4_28 ?_
  refine aw_ldcw dJ6_bitCount_0f7a4_29 kc_J6_267 (by decide) ?_
  refine aw_iand dJ6_bitCount_0f7a4_32 ?_
  refine a_is0 rfl dJ6_bitCount_0f7a4_33 ?_
  refine a_il0 dJ6_bitCount_0f7a4_34 ?_
  refine a_il0 dJ6_bitCount_0f7a4_35 ?_
  refine aw_bipush dJ6_bitCount_0f7a4_36 (by decide) ?_
  refine aw_iushr dJ6_bitCount_0f7a4_38 ?_
  refine aw_iadd dJ6_bitCount_0f7a4_39 ?_
  refine a_is0 rfl dJ6_bitCount_0f7a4_40 ?_
  refine a_il0 dJ6_bitCount_0f7a4_41 ?_
  refine a_il0 dJ6_bitCount_0f7a4_42 ?_
  refine aw_bipush dJ6_bitCount_0f7a4_43 (by decide) ?_
  refine aw_iushr dJ6_bitCount_0f7a4_45 ?_
  refine aw_iadd dJ6_bitCount_0f7a4_46 ?_
  refine a_is0 rfl dJ6_bitCount_0f7a4_47 ?_
  refine a_il0 dJ6_bitCount_0f7a4_48 ?_
  refine aw_bipush dJ6_bitCount_0f7a4_49 (by decide) ?_
  refine aw_iand dJ6_bitCount_0f7a4_51 ?_
  refine aw_iret dJ6_bitCount_0f7a4_52 rfl ?_
  exact k
def bcN (x : Nat) : Nat :=
  let a := x - ((x >>> 1) &&& 1431655765)
  let b := (a &&& 858993459) + ((a >>> 2) &&& 858993459)
  let c := (b + (b >>> 4)) &&& 252645135
  let d := c + (c >>> 8)
  (d + (d >>> 16)) &&& 63
def bcT : Bool := (List.range 12).all (fun m => (List.range (2 ^ m)).all (fun y => Nat.beq (bcN (y + 2 ^ m)) (bcN y + 1)))
theorem bcT_ok : bcT = true := by decide +kernel
theorem i32_n (x : Nat) : (Int32.ofInt (x : Int)).toBitVec = BitVec.ofNat 32 x := BitVec.ofInt_natCast 32 x
theorem bv_toI {v : BitVec 32} (h : v.toNat < 2147483648) : v.toInt = v.toNat := BitVec.toInt_eq_toNat_of_lt (by omega)
theorem i_and_n {x y : Nat} (hx : x < 2147483648) (hy : y < 2147483648) : i_and (x : Int) (y : Int) = ((x &&& y : Nat) : Int) := by
  have e : (Int32.ofInt (x : Int) &&& Int32.ofInt (y : Int)).toBitVec.toNat = x &&& y := by
    rw [Int32.toBitVec_and, i32_n, i32_n, BitVec.toNat_and, BitVec.toNat_ofNat, BitVec.toNat_ofNat, Nat.mod_eq_of_lt (by omega), Nat.mod_eq_of_lt (by omega)]
  have l : x &&& y ≤ x := Nat.and_le_left
  show (Int32.ofInt (x : Int) &&& Int32.ofInt (y : Int)).toBitVec.toInt = _
  rw [bv_toI (by rw [e]; omega), e]
theorem i_or_n {x y : Nat} (hx : x < 2147483648) (hy : y < 2147483648) : i_or (x : Int) (y : Int) = ((x ||| y : Nat) : Int) := by
  have e : (Int32.ofInt (x : Int) ||| Int32.ofInt (y : Int)).toBitVec.toNat = x ||| y := by
    rw [Int32.toBitVec_or, i32_n, i32_n, BitVec.toNat_or, BitVec.toNat_ofNat, BitVec.toNat_ofNat, Nat.mod_eq_of_lt (by omega), Nat.mod_eq_of_lt (by omega)]
  have l : x ||| y < 2 ^ 31 := Nat.or_lt_two_pow hx hy
  show (Int32.ofInt (x : Int) ||| Int32.ofInt (y : Int)).toBitVec.toInt = _
  rw [bv_toI (by rw [e]; exact l), e]
theorem i_ushr_n {x s : Nat} (hx : x < 2147483648) (hs : ((Int32.ofInt (s : Int)).toUInt32 &&& Int32.toUInt32 31).toNat % 32 = s) : i_ushr (x : Int) (s : Int) = ((x >>> s : Nat) : Int) := by
  have e : ((Int32.ofInt (x : Int)).toUInt32 >>> ((Int32.ofInt (s : Int)).toUInt32 &&& Int32.toUInt32 31)).toNat = x >>> s := by
    rw [UInt32.toNat_shiftRight, hs]
    congr 1
    show (Int32.ofInt (x : Int)).toBitVec.toNat = x
    rw [i32_n, BitVec.toNat_ofNat, Nat.mod_eq_of_lt (by omega)]
  have l : x >>> s ≤ x := by rw [Nat.shiftRight_eq_div_pow]; exact Nat.div_le_self _ _
  show ((Int32.ofInt (x : Int)).toUInt32 >>> ((Int32.ofInt (s : Int)).toUInt32 &&& Int32.toUInt32 31)).toBitVec.toInt = _
  rw [bv_toI (by show ((Int32.ofInt (x : Int)).toUInt32 >>> ((Int32.ofInt (s : Int)).toUInt32 &&& Int32.toUInt32 31)).toNat < _; rw [e]; omega)]
  show ((((Int32.ofInt (x : Int)).toUInt32 >>> ((Int32.ofInt (s : Int)).toUInt32 &&& Int32.toUInt32 31)).toNat : Nat) : Int) = _
  rw [e]
theorem shr_le (x s : Nat) : x >>> s ≤ x := by rw [Nat.shiftRight_eq_div_pow]; exact Nat.div_le_self _ _
theorem bc_n {x : Nat} (hx : x < 4096) : bc (x : Int) = (bcN x : Nat) := by
  have e1 : bc1 (x : Int) = ((x - ((x >>> 1) &&& 1431655765) : Nat) : Int) := by
    have h1 := i_ushr_n (x := x) (s := 1) (by omega) (by decide)
    have l1 := shr_le x 1
    have h2 := i_and_n (x := x >>> 1) (y := 1431655765) (by omega) (by decide)
    have l2 : (x >>> 1) &&& 1431655765 ≤ x >>> 1 := Nat.and_le_left
    unfold bc1
    rw [show (1 : Int) = ((1 : Nat) : Int) from rfl, h1, show (1431655765 : Int) = ((1431655765 : Nat) : Int) from rfl, h2, wr_id (by omega) (by omega)]
    omega
  obtain ⟨a, ha⟩ : ∃ a, a = x - ((x >>> 1) &&& 1431655765) := ⟨_, rfl⟩
  have la : a ≤ 4096 := by omega
  have e2 : bc2 (a : Int) = (((a &&& 858993459) + ((a >>> 2) &&& 858993459) : Nat) : Int) := by
    have h1 := i_ushr_n (x := a) (s := 2) (by omega) (by decide)
    have l1 := shr_le a 2
    have h2 := i_and_n (x := a >>> 2) (y := 858993459) (by omega) (by decide)
    have h3 := i_and_n (x := a) (y := 858993459) (by omega) (by decide)
    have l2 : (a >>> 2) &&& 858993459 ≤ a >>> 2 := Nat.and_le_left
    have l3 : a &&& 858993459 ≤ a := Nat.and_le_left
    unfold bc2
    rw [show (2 : Int) = ((2 : Nat) : Int) from rfl, h1, show (858993459 : Int) = ((858993459 : Nat) : Int) from rfl, h2, h3, wr_id (by omega) (by omega)]
    omega
  have l2 : (a >>> 2) &&& 858993459 ≤ a >>> 2 := Nat.and_le_left
  have l3 : a &&& 858993459 ≤ a := Nat.and_le_left
  have l4 := shr_le a 2
  obtain ⟨b, hb⟩ : ∃ b, b = (a &&& 858993459) + ((a >>> 2) &&& 858993459) := ⟨_, rfl⟩
  have lb : b ≤ 8192 := by omega
  have e3 : bc3 (b : Int) = (((b + (b >>> 4)) &&& 252645135 : Nat) : Int) := by
    have h1 := i_ushr_n (x := b) (s := 4) (by omega) (by decide)
    have l1 := shr_le b 4
    have h2 := i_and_n (x := b + (b >>> 4)) (y := 252645135) (by omega) (by decide)
    unfold bc3
    rw [show (4 : Int) = ((4 : Nat) : Int) from rfl, h1, wr_id (by omega) (by omega), ← Int.natCast_add, show (252645135 : Int) = ((252645135 : Nat) : Int) from rfl, h2]
  have l5 := shr_le b 4
  have l6 : (b + (b >>> 4)) &&& 252645135 ≤ b + (b >>> 4) := Nat.and_le_left
  obtain ⟨c, hc⟩ : ∃ c, c = (b + (b >>> 4)) &&& 252645135 := ⟨_, rfl⟩
  have lc : c ≤ 16384 := by omega
  have e4 : bc4 (c : Int) = ((c + (c >>> 8) : Nat) : Int) := by
    have h1 := i_ushr_n (x := c) (s := 8) (by omega) (by decide)
    have l1 := shr_le c 8
    unfold bc4
    rw [show (8 : Int) = ((8 : Nat) : Int) from rfl, h1, wr_id (by omega) (by omega), ← Int.natCast_add]
  have l7 := shr_le c 8
  obtain ⟨d, hd⟩ : ∃ d, d = c + (c >>> 8) := ⟨_, rfl⟩
  have ld : d ≤ 32768 := by omega
  have e5 : bc5 (d : Int) = (((d + (d >>> 16)) &&& 63 : Nat) : Int) := by
    have h1 := i_ushr_n (x := d) (s := 16) (by omega) (by decide)
    have l1 := shr_le d 16
    have h2 := i_and_n (x := d + (d >>> 16)) (y := 63) (by omega) (by decide)
    unfold bc5
    rw [show (16 : Int) = ((16 : Nat) : Int) from rfl, h1, wr_id (by omega) (by omega), ← Int.natCast_add, show (63 : Int) = ((63 : Nat) : Int) from rfl, h2]
  unfold bc
  rw [e1, ← ha, e2, ← hb, e3, ← hc, e4, ← hd, e5]
  unfold bcN
  dsimp only
  rw [← ha, ← hb, ← hc, ← hd]
theorem bc_0 : bc 0 = 0 := bc_n (x := 0) (by decide)
theorem i_shl_n : ∀ m : Fin 12, i_shl 1 (m.val : Int) = ((2 ^ m.val : Nat) : Int) := by decide
theorem bc_F {m y : Nat} (hm : m < 12) (hy : y < 2 ^ m) : i_or (y : Int) (i_shl 1 (m : Int)) = (y : Int) + (2 ^ m : Nat) ∧ bc ((y : Int) + (2 ^ m : Nat)) = bc (y : Int) + 1 := by
  have hp : 2 ^ m ≤ 2 ^ 11 := Nat.pow_le_pow_right (by decide) (by omega)
  have e1 := i_shl_n ⟨m, hm⟩
  dsimp only at e1
  have e2 := Nat.two_pow_add_eq_or_of_lt hy 1
  have e3 := i_or_n (x := y) (y := 2 ^ m) (by omega) (by omega)
  rw [Nat.mul_one, Nat.or_comm] at e2
  have e4 := bc_n (x := y + 2 ^ m) (by omega)
  have e5 := bc_n (x := y) (by omega)
  have e6 := List.all_eq_true.mp (List.all_eq_true.mp bcT_ok m (List.mem_range.mpr hm)) y (List.mem_range.mpr hy)
  have e7 : bcN (y + 2 ^ m) = bcN y + 1 := Nat.eq_of_beq_eq_true e6
  refine ⟨by rw [e1, e3, ← e2, Int.natCast_add]; omega, ?_⟩
  rw [← Int.natCast_add, e4, e5, e7]
  rfl
def one (P : Int → Prop) [DecidablePred P] (i : Int) : Int := if P i then 1 else 0
theorem orN_bc (P : Int → Prop) [DecidablePred P] : ∀ m : Nat, m ≤ 12 → ∃ y : Nat, y < 2 ^ m ∧ orN P m = y ∧ bc (y : Int) = sumN (one P) m ∧ (y = 0 ↔ ∀ j : Int, 0 ≤ j → j < m → ¬ P j)
  | 0, _ => ⟨0, by decide, rfl, bc_0, ⟨fun _ j a b => by omega, fun _ => rfl⟩⟩
  | m + 1, hm => by
    obtain ⟨y, y1, y2, y3, y4⟩ := orN_bc P m (by omega)
    have hp : 2 ^ (m + 1) = 2 ^ m + 2 ^ m := by rw [Nat.pow_succ]; omega
    by_cases q : P m
    · have hF := bc_F (m := m) (y := y) (by omega) y1
      refine ⟨y + 2 ^ m, by omega, ?_, ?_, ⟨fun e => ?_, fun e => absurd q (e m (by omega) (by omega))⟩⟩
      · show (if P m then i_or (orN P m) (i_shl 1 m) else orN P m) = _
        rw [if_pos q, y2, hF.1, Int.natCast_add]
      · rw [Int.natCast_add, hF.2, y3]
        show _ = sumN (one P) m + one P m
        unfold one
        rw [if_pos q]
      · have : 0 < 2 ^ m := Nat.pow_pos (by decide)
        omega
    · refine ⟨y, by omega, ?_, ?_, ⟨fun e j a b => ?_, fun e => y4.mpr (fun j a b => e j a (by omega))⟩⟩
      · show (if P m then i_or (orN P m) (i_shl 1 m) else orN P m) = _
        rw [if_neg q, y2]
      · rw [y3]
        show _ = sumN (one P) m + one P m
        unfold one
        rw [if_neg q]
        omega
      · by_cases z : j = m
        · rw [z]; exact q
        · exact y4.mp e j a (by omega)
theorem ac_shipsOf {b f : Int} {h : AH} {K : AO → Nat → AH → Prop} (hB : b = 5 ∨ b = 15) (hn : 0 ≤ h b 3 ∧ h b 3 ≤ 12) (k : K (.inl (some (0, orN (cFl h b f) (h b 3).toNat))) 159 h) : AC mX3_shipsOf 4 0 0 159 [(2, b), (0, f)] h K := by
  have hb := sh_ab hB
  refine ac_of (ls := [(2, b), (0, f), (9, 0), (9, 0)]) pn_X3 rfl (Nat.le_of_ble_eq_true rfl) rfl ?_
  refine aw_iconst dX3_shipsOf_0 (by decide) ?_
  refine a_is2 rfl rfl dX3_shipsOf_1 ?_
  refine aw_iconst dX3_shipsOf_2 (by decide) ?_
  refine a_is3 rfl rfl dX3_shipsOf_3 ?_
  refine aw_loop (fun q : Int × Int => 0 ≤ q.1 ∧ q.1 ≤ h b 3 ∧ q.2 = orN (cFl h b f) q.1.toNat) (fun q => (h b 3 - q.1).toNat) (fun q => AW mX3_shipsOf 4 0 0 K 159 4 [(2, b), (0, f), (0, q.2), (0, q.1)] [] h) (fun q hq ih => ?_) (0, 0) ⟨by dsimp only; omega, hn.1, rfl⟩
  obtain ⟨i, a⟩ := q
  obtain ⟨i0, i1, ea⟩ := hq
  dsimp only at i0 i1 ea ih ⊢
  have es := orN_s (cFl h b f) i0
  refine a_il3 dX3_shipsOf_4 ?_
  refine a_al0 (am_sh_rg hb) dX3_shipsOf_5 ?_
  refine aw_get 3 dX3_shipsOf_6 fl_X3_50 (am_sh_at hb) rfl ?_
  refine aw_icmp_ge 33 dX3_shipsOf_9 (by decide) (fun c9 => ?_) (fun c9 => ?_)
  · refine a_il2 dX3_shipsOf_33 ?_
    refine aw_iret dX3_shipsOf_34 rfl ?_
    rw [ea, show i = h b 3 by omega]
    exact k
  · refine a_al0 (am_sh_rg hb) dX3_shipsOf_12 ?_
    refine a_il1 dX3_shipsOf_13 ?_
    refine a_il3 dX3_shipsOf_14 ?_
    refine aw_callV 3 0 0 dX3_shipsOf_15 yw_X3_isFloatingIn ml_X3_111 in_X3_isFloatingIn se_X3_isFloatingIn (ci := 2) rfl (am_sh_at hb) (as := [_, _]) rfl rfl ⟨by decide, by decide, by decide, Nat.le_of_ble_eq_true rfl⟩ ?_
    refine ac_isFloatingIn hB (by omega) (fun q1 => ?_) (fun q1 => ?_)
    · rw [if_pos q1] at es
      refine am_ci ?_
      refine aw_if_eq_n 27 dX3_shipsOf_18 (by decide) (by decide) ?_
      refine a_il2 dX3_shipsOf_21 ?_
      refine aw_iconst dX3_shipsOf_22 (by decide) ?_
      refine a_il3 dX3_shipsOf_23 ?_
      refine aw_ishl dX3_shipsOf_24 ?_
      refine aw_ior dX3_shipsOf_25 ?_
      refine a_is2 rfl rfl dX3_shipsOf_26 ?_
      refine a_iiR3 (by omega) rfl rfl dX3_shipsOf_27 ?_
      refine aw_goto 4 dX3_shipsOf_30 (by decide) ?_
      exact ih (i + 1, i_or a (i_shl 1 i)) ⟨by dsimp only; omega, by dsimp only; omega, by dsimp only; rw [es, ea]⟩ (by dsimp only; omega)
    · rw [if_neg q1] at es
      refine am_ci ?_
      refine aw_if_eq_y 27 dX3_shipsOf_18 (by decide) (by decide) ?_
      refine a_iiR3 (by omega) rfl rfl dX3_shipsOf_27 ?_
      refine aw_goto 4 dX3_shipsOf_30 (by decide) ?_
      exact ih (i + 1, a) ⟨by dsimp only; omega, by dsimp only; omega, by dsimp only; rw [es, ← ea]⟩ (by dsimp only; omega)
def cFlN (h : AH) (b : Int) (f : Int) : Int := sumN (one (cFl h b f)) (h b 3).toNat
theorem one_rg (P : Int → Prop) [DecidablePred P] (i : Int) : 0 ≤ one P i ∧ one P i ≤ 1 := by
  unfold one
  split <;> decide
theorem bc_cFl {b f : Int} {h : AH} (hn : 0 ≤ h b 3 ∧ h b 3 ≤ 12) : bc (orN (cFl h b f) (h b 3).toNat) = cFlN h b f ∧ 0 ≤ cFlN h b f ∧ cFlN h b f ≤ 12 := by
  obtain ⟨y, y1, y2, y3, y4⟩ := orN_bc (cFl h b f) (h b 3).toNat (by omega)
  have r := sumN_rg (one_rg (cFl h b f)) (h b 3).toNat
  refine ⟨by rw [y2, y3]; rfl, r.1, ?_⟩
  unfold cFlN
  omega
theorem ac_floatingShips {b : Int} {h : AH} {K : AO → Nat → AH → Prop} (hB : b = 5 ∨ b = 15) (hn : 0 ≤ h b 3 ∧ h b 3 ≤ 12) (hf : 0 ≤ h b 2 ∧ h b 2 ≤ 4) (k : K (.inl (some (0, sumN (cFlN h b) (h b 2).toNat))) 159 h) : AC mX3_floatingShips 5 0 0 159 [(2, b)] h K := by
  have hb := sh_ab hB
  refine ac_of (ls := [(2, b), (9, 0), (9, 0)]) pn_X3 rfl (Nat.le_of_ble_eq_true rfl) rfl ?_
  refine aw_iconst dX3_floatingShips_0 (by decide) ?_
  refine a_is1 rfl rfl dX3_floatingShips_1 ?_
  refine aw_iconst dX3_floatingShips_2 (by decide) ?_
  refine a_is2 rfl rfl dX3_floatingShips_3 ?_
  refine aw_loop (fun q : Int × Int => 0 ≤ q.1 ∧ q.1 ≤ h b 2 ∧ q.2 = sumN (cFlN h b) q.1.toNat ∧ 0 ≤ q.2 ∧ q.2 ≤ 12 * q.1) (fun q => (h b 2 - q.1).toNat) (fun q => AW mX3_floatingShips 5 0 0 K 159 4 [(2, b), (0, q.2), (0, q.1)] [] h) (fun q hq ih => ?_) (0, 0) ⟨by dsimp only; omega, hf.1, rfl, by decide, by decide⟩
  obtain ⟨i, a⟩ := q
  obtain ⟨i0, i1, ea, a0, a1⟩ := hq
  dsimp only at i0 i1 ea a0 a1 ih ⊢
  have es := sumN_s (cFlN h b) i0
  obtain ⟨e1, e2, e3⟩ := bc_cFl (f := i) hn
  refine a_il2 dX3_floatingShips_4 ?_
  refine a_al0 (am_sh_rg hb) dX3_floatingShips_5 ?_
  refine aw_get 2 dX3_floatingShips_6 fl_X3_47 (am_sh_at hb) rfl ?_
  refine aw_icmp_ge 29 dX3_floatingShips_9 (by decide) (fun c9 => ?_) (fun c9 => ?_)
  · refine a_il1 dX3_floatingShips_29 ?_
    refine aw_iret dX3_floatingShips_30 rfl ?_
    rw [ea, show i = h b 2 by omega]
    exact k
  · refine a_il1 dX3_floatingShips_12 ?_
    refine a_al0 (am_sh_rg hb) dX3_floatingShips_13 ?_
    refine a_il2 dX3_floatingShips_14 ?_
    refine aw_callV 4 0 0 dX3_floatingShips_15 yw_X3_shipsOf ml_X3_115 in_X3_shipsOf se_X3_shipsOf (ci := 2) rfl (am_sh_at hb) (as := [_]) rfl rfl ⟨by decide, by decide, by decide, Nat.le_of_ble_eq_true rfl⟩ ?_
    refine ac_shipsOf hB hn ?_
    refine am_ci ?_
    refine aw_callS 1 0 0 dX3_floatingShips_18 yw_J6_bitCount_0f7a4 ml_X3_119 sm_J6_bitCount_0f7a4 (as := [_]) rfl rfl ⟨by decide, by decide, by decide, Nat.le_of_ble_eq_true rfl⟩ ?_
    refine ac_bitCount ?_
    rw [e1]
    refine am_ci ?_
    refine aw_iaddR (by omega) dX3_floatingShips_21 ?_
    refine a_is1 rfl rfl dX3_floatingShips_22 ?_
    refine a_iiR2 (by omega) rfl rfl dX3_floatingShips_23 ?_
    refine aw_goto 4 dX3_floatingShips_26 (by decide) ?_
    exact ih (i + 1, a + cFlN h b i) ⟨by dsimp only; omega, by dsimp only; omega, by dsimp only; rw [es, ea], by dsimp only; omega, by dsimp only; omega⟩ (by dsimp only; omega)
def cHas (h : AH) (b f : Int) : Prop := ∃ j, 0 ≤ j ∧ j < h b 3 ∧ cFl h b f j
theorem or_has {b f : Int} {h : AH} (hn : 0 ≤ h b 3 ∧ h b 3 ≤ 12) : orN (cFl h b f) (h b 3).toNat = 0 ↔ ¬ cHas h b f := by
  obtain ⟨y, y1, y2, y3, y4⟩ := orN_bc (cFl h b f) (h b 3).toNat (by omega)
  rw [y2]
  constructor
  · intro e ⟨j, a, c, d⟩
    exact y4.mp (by omega) j a (by omega) d
  · intro e
    have := y4.mpr (fun j a c d => e ⟨j, a, by omega, d⟩)
    omega
def isOnlyC (h : AH) (b r : Int) : Prop := (0 ≤ r ∧ r < h b 2 ∧ cHas h b r ∧ ∀ f, 0 ≤ f → f < h b 2 → f ≠ r → ¬ cHas h b f) ∨ (r = -1 ∧ ((∀ f, 0 ≤ f → f < h b 2 → ¬ cHas h b f) ∨ ∃ f g, f ≠ g ∧ (0 ≤ f ∧ f < h b 2) ∧ (0 ≤ g ∧ g < h b 2) ∧ cHas h b f ∧ cHas h b g))
theorem ac_onlyFleetC {b : Int} {h : AH} {K : AO → Nat → AH → Prop} (hB : b = 5 ∨ b = 15) (hn : 0 ≤ h b 3 ∧ h b 3 ≤ 12) (hf : 0 ≤ h b 2 ∧ h b 2 ≤ 4) (k : ∀ r, isOnlyC h b r → K (.inl (some (0, r))) 159 h) : AC mX3_onlyFleet 5 0 0 159 [(2, b)] h K := by
  have hb := sh_ab hB
  refine ac_of (ls := [(2, b), (9, 0), (9, 0)]) pn_X3 rfl (Nat.le_of_ble_eq_true rfl) rfl ?_
  refine aw_iconst dX3_onlyFleet_0 (by decide) ?_
  refine a_is1 rfl rfl dX3_onlyFleet_1 ?_
  refine aw_iconst dX3_onlyFleet_2 (by decide) ?_
  refine a_is2 rfl rfl dX3_onlyFleet_3 ?_
  refine aw_loop (fun q : Int × Int => 0 ≤ q.1 ∧ q.1 ≤ h b 2 ∧ ((q.2 = -1 ∧ ∀ f, 0 ≤ f → f < q.1 → ¬ cHas h b f) ∨ (0 ≤ q.2 ∧ q.2 < q.1 ∧ cHas h b q.2 ∧ ∀ f, 0 ≤ f → f < q.1 → f ≠ q.2 → ¬ cHas h b f))) (fun q => (h b 2 - q.1).toNat) (fun q => AW mX3_onlyFleet 5 0 0 K 159 4 [(2, b), (0, q.2), (0, q.1)] [] h) (fun q hq ih => ?_) (0, -1) ⟨by dsimp only; omega, hf.1, Or.inl ⟨rfl, fun f a b => by dsimp only at b; omega⟩⟩
  obtain ⟨i, a⟩ := q
  obtain ⟨i0, i1, ea⟩ := hq
  dsimp only at i0 i1 ea ih ⊢
  refine a_il2 dX3_onlyFleet_4 ?_
  refine a_al0 (am_sh_rg hb) dX3_onlyFleet_5 ?_
  refine aw_get 2 dX3_onlyFleet_6 fl_X3_47 (am_sh_at hb) rfl ?_
  refine aw_icmp_ge 35 dX3_onlyFleet_9 (by decide) (fun c9 => ?_) (fun c9 => ?_)
  · have ei : i = h b 2 := by omega
    refine a_il1 dX3_onlyFleet_35 ?_
    refine aw_iret dX3_onlyFleet_36 rfl ?_
    rw [ei] at ea
    refine k a ?_
    rcases ea with ⟨e1, e2⟩ | ⟨e1, e2, e3, e4⟩
    · exact Or.inr ⟨e1, Or.inl e2⟩
    · exact Or.inl ⟨e1, e2, e3, e4⟩
  · refine a_al0 (am_sh_rg hb) dX3_onlyFleet_12 ?_
    refine a_il2 dX3_onlyFleet_13 ?_
    refine aw_callV 4 0 0 dX3_onlyFleet_14 yw_X3_shipsOf ml_X3_115 in_X3_shipsOf se_X3_shipsOf (ci := 2) rfl (am_sh_at hb) (as := [_]) rfl rfl ⟨by decide, by decide, by decide, Nat.le_of_ble_eq_true rfl⟩ ?_
    refine ac_shipsOf hB hn ?_
    refine am_ci ?_
    refine aw_if_eq 29 dX3_onlyFleet_17 (by decide) (fun c17 => ?_) (fun c17 => ?_)
    · have nh : ¬ cHas h b i := (or_has hn).mp (by assumption)
      refine a_iiR2 (by omega) rfl rfl dX3_onlyFleet_29 ?_
      refine aw_goto 4 dX3_onlyFleet_32 (by decide) ?_
      refine ih (i + 1, a) ⟨by dsimp only; omega, by dsimp only; omega, ?_⟩ (by dsimp only; omega)
      dsimp only
      rcases ea with ⟨e1, e2⟩ | ⟨e1, e2, e3, e4⟩
      · refine Or.inl ⟨e1, fun f x y => ?_⟩
        by_cases z : f = i
        · rw [z]; exact nh
        · exact e2 f x (by omega)
      · refine Or.inr ⟨e1, by omega, e3, fun f x y w => ?_⟩
        by_cases z : f = i
        · rw [z]; exact nh
        · exact e4 f x (by omega) w
    · have nh : cHas h b i := by
        by_cases z : cHas h b i
        · exact z
        · have c9 : ¬ orN (cFl h b i) (h b 3).toNat = 0 := by assumption
          exact absurd ((or_has hn).mpr z) c9
      refine a_il1 dX3_onlyFleet_20 ?_
      refine aw_iconst dX3_onlyFleet_21 (by decide) ?_
      refine aw_icmp_eq 27 dX3_onlyFleet_22 (by decide) (fun c22 => ?_) (fun c22 => ?_)
      · have e : a = -1 := by assumption
        refine a_il2 dX3_onlyFleet_27 ?_
        refine a_is1 rfl rfl dX3_onlyFleet_28 ?_
        refine a_iiR2 (by omega) rfl rfl dX3_onlyFleet_29 ?_
        refine aw_goto 4 dX3_onlyFleet_32 (by decide) ?_
        refine ih (i + 1, i) ⟨by dsimp only; omega, by dsimp only; omega, Or.inr ⟨i0, by dsimp only; omega, nh, fun f x y w => ?_⟩⟩ (by dsimp only; omega)
        dsimp only at y w
        rcases ea with ⟨e1, e2⟩ | ⟨e1, e2, e3, e4⟩
        · exact e2 f x (by omega)
        · omega
      · have e : ¬ a = -1 := by assumption
        refine aw_iconst dX3_onlyFleet_25 (by decide) ?_
        refine aw_iret dX3_onlyFleet_26 rfl ?_
        refine k (-1) (Or.inr ⟨rfl, Or.inr ⟨a, i, ?_⟩⟩)
        rcases ea with ⟨e1, e2⟩ | ⟨e1, e2, e3, e4⟩
        · exact absurd e1 e
        · exact ⟨by omega, ⟨by omega, by omega⟩, ⟨by omega, by omega⟩, e3, nh⟩
def cHul (h : AH) (b f i : Int) : Int := if cFl h b f i then h (b + 2) (i * 11 + 4) else 0
theorem ac_hullOf {b f : Int} {h : AH} {K : AO → Nat → AH → Prop} (hB : b = 5 ∨ b = 15) (hn : 0 ≤ h b 3 ∧ h b 3 ≤ 12) (hh : ∀ i, 0 ≤ i → i < h b 3 → -100000 ≤ h (b + 2) (i * 11 + 4) ∧ h (b + 2) (i * 11 + 4) ≤ 100000) (k : K (.inl (some (0, sumN (cHul h b f) (h b 3).toNat))) 159 h) : AC mX3_hullOf 4 0 0 159 [(2, b), (0, f)] h K := by
  have hb := sh_ab hB
  refine ac_of (ls := [(2, b), (0, f), (9, 0), (9, 0)]) pn_X3 rfl (Nat.le_of_ble_eq_true rfl) rfl ?_
  refine aw_iconst dX3_hullOf_0 (by decide) ?_
  refine a_is2 rfl rfl dX3_hullOf_1 ?_
  refine aw_iconst dX3_hullOf_2 (by decide) ?_
  refine a_is3 rfl rfl dX3_hullOf_3 ?_
  refine aw_loop (fun q : Int × Int => 0 ≤ q.1 ∧ q.1 ≤ h b 3 ∧ q.2 = sumN (cHul h b f) q.1.toNat ∧ -100000 * q.1 ≤ q.2 ∧ q.2 ≤ 100000 * q.1) (fun q => (h b 3 - q.1).toNat) (fun q => AW mX3_hullOf 4 0 0 K 159 4 [(2, b), (0, f), (0, q.2), (0, q.1)] [] h) (fun q hq ih => ?_) (0, 0) ⟨by dsimp only; omega, hn.1, rfl, by decide, by decide⟩
  obtain ⟨i, a⟩ := q
  obtain ⟨i0, i1, ea, a0, a1⟩ := hq
  dsimp only at i0 i1 ea a0 a1 ih ⊢
  have es := sumN_s (cHul h b f) i0
  refine a_il3 dX3_hullOf_4 ?_
  refine a_al0 (am_sh_rg hb) dX3_hullOf_5 ?_
  refine aw_get 3 dX3_hullOf_6 fl_X3_50 (am_sh_at hb) rfl ?_
  refine aw_icmp_ge 36 dX3_hullOf_9 (by decide) (fun c9 => ?_) (fun c9 => ?_)
  · refine a_il2 dX3_hullOf_36 ?_
    refine aw_iret dX3_hullOf_37 rfl ?_
    rw [ea, show i = h b 3 by omega]
    exact k
  · have hi := hh i i0 (by omega)
    refine a_al0 (am_sh_rg hb) dX3_hullOf_12 ?_
    refine a_il1 dX3_hullOf_13 ?_
    refine a_il3 dX3_hullOf_14 ?_
    refine aw_callV 3 0 0 dX3_hullOf_15 yw_X3_isFloatingIn ml_X3_111 in_X3_isFloatingIn se_X3_isFloatingIn (ci := 2) rfl (am_sh_at hb) (as := [_, _]) rfl rfl ⟨by decide, by decide, by decide, Nat.le_of_ble_eq_true rfl⟩ ?_
    refine ac_isFloatingIn hB (by omega) (fun q1 => ?_) (fun q1 => ?_)
    · have e : cHul h b f i = h (b + 2) (i * 11 + 4) := if_pos q1
      rw [e] at es
      refine am_ci ?_
      refine aw_if_eq_n 30 dX3_hullOf_18 (by decide) (by decide) ?_
      refine a_il2 dX3_hullOf_21 ?_
      refine a_al0 (am_sh_rg hb) dX3_hullOf_22 ?_
      refine a_il3 dX3_hullOf_23 ?_
      refine aw_iconst dX3_hullOf_24 (by decide) ?_
      refine aw_callV 1 0 0 dX3_hullOf_25 yw_X3_get ml_X3_100 in_X3_get se_X3_get (ci := 2) rfl (am_sh_at hb) (as := [_, _]) rfl rfl ⟨by decide, by decide, by decide, Nat.le_of_ble_eq_true rfl⟩ ?_
      refine ac_get hB (by omega) (by decide) ?_
      refine am_ci ?_
      refine aw_iaddR (by omega) dX3_hullOf_28 ?_
      refine a_is2 rfl rfl dX3_hullOf_29 ?_
      refine a_iiR3 (by omega) rfl rfl dX3_hullOf_30 ?_
      refine aw_goto 4 dX3_hullOf_33 (by decide) ?_
      exact ih (i + 1, a + h (b + 2) (i * 11 + 4)) ⟨by dsimp only; omega, by dsimp only; omega, by dsimp only; rw [es, ea], by dsimp only; omega, by dsimp only; omega⟩ (by dsimp only; omega)
    · have e : cHul h b f i = 0 := if_neg q1
      rw [e] at es
      refine am_ci ?_
      refine aw_if_eq_y 30 dX3_hullOf_18 (by decide) (by decide) ?_
      refine a_iiR3 (by omega) rfl rfl dX3_hullOf_30 ?_
      refine aw_goto 4 dX3_hullOf_33 (by decide) ?_
      exact ih (i + 1, a) ⟨by dsimp only; omega, by dsimp only; omega, by dsimp only; omega, by dsimp only; omega, by dsimp only; omega⟩ (by dsimp only; omega)
def cMan (h : AH) (b i p : Int) : Int := if cLt (h (b + 3) i) p = 1 then 0 else 1
def cManF (h : AH) (b f i : Int) : Int := if cFl h b f i then sumN (cMan h b i) 6 else 0
theorem cMan_rg (h : AH) (b i p : Int) : 0 ≤ cMan h b i p ∧ cMan h b i p ≤ 1 := by
  unfold cMan
  split <;> decide
theorem ac_maneuversOf {b f : Int} {h : AH} {K : AO → Nat → AH → Prop} (hB : b = 5 ∨ b = 15) (hn : 0 ≤ h b 3 ∧ h b 3 ≤ 12) (k : K (.inl (some (0, sumN (cManF h b f) (h b 3).toNat))) 159 h) : AC mX3_maneuversOf 4 0 0 159 [(2, b), (0, f)] h K := by
  have hb := sh_ab hB
  refine ac_of (ls := [(2, b), (0, f), (9, 0), (9, 0), (9, 0)]) pn_X3 rfl (Nat.le_of_ble_eq_true rfl) rfl ?_
  refine aw_iconst dX3_maneuversOf_0 (by decide) ?_
  refine a_is2 rfl rfl dX3_maneuversOf_1 ?_
  refine aw_iconst dX3_maneuversOf_2 (by decide) ?_
  refine a_is3 rfl rfl dX3_maneuversOf_3 ?_
  refine aw_loop (fun q : Int × Int × AV => 0 ≤ q.1 ∧ q.1 ≤ h b 3 ∧ q.2.1 = sumN (cManF h b f) q.1.toNat ∧ (0 ≤ q.2.1 ∧ q.2.1 ≤ 6 * q.1) ∧ am_n2 q.2.2 = true) (fun q => (h b 3 - q.1).toNat) (fun q => AW mX3_maneuversOf 4 0 0 K 159 4 [(2, b), (0, f), (0, q.2.1), (0, q.1), q.2.2] [] h) (fun q hq ih => ?_) (0, 0, (9, 0)) ⟨by dsimp only; omega, hn.1, rfl, by decide, rfl⟩
  obtain ⟨i, a, v⟩ := q
  obtain ⟨i0, i1, ea, ra, hv⟩ := hq
  dsimp only at i0 i1 ea ra hv ih ⊢
  have es := sumN_s (cManF h b f) i0
  refine a_il3 dX3_maneuversOf_4 ?_
  refine a_al0 (am_sh_rg hb) dX3_maneuversOf_5 ?_
  refine aw_get 3 dX3_maneuversOf_6 fl_X3_50 (am_sh_at hb) rfl ?_
  refine aw_icmp_ge 66 dX3_maneuversOf_9 (by decide) (fun c9 => ?_) (fun c9 => ?_)
  · refine a_il2 dX3_maneuversOf_66 ?_
    refine aw_iret dX3_maneuversOf_67 rfl ?_
    rw [ea, show i = h b 3 by omega]
    exact k
  · refine a_al0 (am_sh_rg hb) dX3_maneuversOf_12 ?_
    refine a_il1 dX3_maneuversOf_13 ?_
    refine a_il3 dX3_maneuversOf_14 ?_
    refine aw_callV 3 0 0 dX3_maneuversOf_15 yw_X3_isFloatingIn ml_X3_111 in_X3_isFloatingIn se_X3_isFloatingIn (ci := 2) rfl (am_sh_at hb) (as := [_, _]) rfl rfl ⟨by decide, by decide, by decide, Nat.le_of_ble_eq_true rfl⟩ ?_
    refine ac_isFloatingIn hB (by omega) (fun q1 => ?_) (fun q1 => ?_)
    · have e : cManF h b f i = sumN (cMan h b i) 6 := if_pos q1
      rw [e] at es
      refine am_ci ?_
      refine aw_if_eq_n 60 dX3_maneuversOf_18 (by decide) (by decide) ?_
      refine aw_iconst dX3_maneuversOf_21 (by decide) ?_
      refine a_is4 rfl rfl dX3_maneuversOf_22 ?_
      refine aw_loop (fun q : Int × Int => 0 ≤ q.1 ∧ q.1 ≤ 6 ∧ q.2 = a + sumN (cMan h b i) q.1.toNat) (fun q => (6 - q.1).toNat) (fun q => AW mX3_maneuversOf 4 0 0 K 159 24 [(2, b), (0, f), (0, q.2), (0, i), (0, q.1)] [] h) (fun q hq ih2 => ?_) (0, a) ⟨by dsimp only; omega, by dsimp only; omega, by show a = a + 0; omega⟩
      obtain ⟨p, c⟩ := q
      obtain ⟨p0, p1, ec⟩ := hq
      dsimp only at p0 p1 ec ih2 ⊢
      have es2 := sumN_s (cMan h b i) p0
      have r2 := sumN_rg (cMan_rg h b i) p.toNat
      refine a_il4 dX3_maneuversOf_24 ?_
      refine aw_bipush dX3_maneuversOf_26 (by decide) ?_
      refine aw_icmp_ge 60 dX3_maneuversOf_28 (by decide) (fun c28 => ?_) (fun c28 => ?_)
      · refine a_iiR3 (by omega) rfl rfl dX3_maneuversOf_60 ?_
        refine aw_goto 4 dX3_maneuversOf_63 (by decide) ?_
        rw [show p = 6 by omega] at ec r2
        refine ih (i + 1, c, (0, p)) ⟨by dsimp only; omega, by dsimp only; omega, ?_, ?_, rfl⟩ (by dsimp only; omega)
        · dsimp only
          rw [ec, es, ea]
          rfl
        · dsimp only
          omega
      · refine a_il2 dX3_maneuversOf_31 ?_
        refine a_al0 (am_sh_rg hb) dX3_maneuversOf_32 ?_
        refine aw_shR 11 3 hb dX3_maneuversOf_33 fl_X3_19 (by decide) ?_
        refine a_il3 dX3_maneuversOf_36 ?_
        refine aw_iald dX3_maneuversOf_37 (am_sa_3 hb) (by omega) ?_
        refine a_il4 dX3_maneuversOf_38 ?_
        refine aw_callS 1 0 0 dX3_maneuversOf_40 yw_X2_letter ml_X3_124 sm_X2_letter (as := [_, _]) rfl rfl ⟨by decide, by decide, by decide, Nat.le_of_ble_eq_true rfl⟩ ?_
        refine ac_letter (by omega) ?_
        refine am_ci ?_
        refine aw_iconst dX3_maneuversOf_43 (by decide) ?_
        refine aw_icmp_ne 51 dX3_maneuversOf_44 (by decide) (fun c44 => ?_) (fun c44 => ?_)
        · have e9 : cMan h b i p = 1 := if_neg (by assumption)
          refine aw_iconst dX3_maneuversOf_51 (by decide) ?_
          refine aw_iaddR (by omega) dX3_maneuversOf_52 ?_
          refine a_is2 rfl rfl dX3_maneuversOf_53 ?_
          refine a_iiR4 (by omega) rfl rfl dX3_maneuversOf_54 ?_
          refine aw_goto 24 dX3_maneuversOf_57 (by decide) ?_
          exact ih2 (p + 1, c + 1) ⟨by dsimp only; omega, by dsimp only; omega, by dsimp only; omega⟩ (by dsimp only; omega)
        · have e9 : cMan h b i p = 0 := if_pos (by assumption)
          refine aw_iconst dX3_maneuversOf_47 (by decide) ?_
          refine aw_goto 52 dX3_maneuversOf_48 (by decide) ?_
          refine aw_iaddR (by omega) dX3_maneuversOf_52 ?_
          refine a_is2 rfl rfl dX3_maneuversOf_53 ?_
          refine a_iiR4 (by omega) rfl rfl dX3_maneuversOf_54 ?_
          refine aw_goto 24 dX3_maneuversOf_57 (by decide) ?_
          exact ih2 (p + 1, c + 0) ⟨by dsimp only; omega, by dsimp only; omega, by dsimp only; omega⟩ (by dsimp only; omega)
    · have e : cManF h b f i = 0 := if_neg q1
      rw [e] at es
      refine am_ci ?_
      refine aw_if_eq_y 60 dX3_maneuversOf_18 (by decide) (by decide) ?_
      refine a_iiR3 (by omega) rfl rfl dX3_maneuversOf_60 ?_
      refine aw_goto 4 dX3_maneuversOf_63 (by decide) ?_
      exact ih (i + 1, a, v) ⟨by dsimp only; omega, by dsimp only; omega, by dsimp only; omega, by dsimp only; omega, hv⟩ (by dsimp only; omega)
def cNear (h : AH) (b i j : Int) : Prop := (-5 ≤ h (b + 2) (i * 11 + 1) - h (b + 2) (j * 11 + 1) ∧ h (b + 2) (i * 11 + 1) - h (b + 2) (j * 11 + 1) ≤ 5) ∧ (-5 ≤ h (b + 2) (i * 11 + 2) - h (b + 2) (j * 11 + 2) ∧ h (b + 2) (i * 11 + 2) - h (b + 2) (j * 11 + 2) ≤ 5)
def cCOk (h : AH) (b i : Int) : Prop := (-1 ≤ h (b + 2) (i * 11 + 1) ∧ h (b + 2) (i * 11 + 1) ≤ 30) ∧ (-1 ≤ h (b + 2) (i * 11 + 2) ∧ h (b + 2) (i * 11 + 2) ≤ 30)
theorem abs_w {x : Int} (hx : -100 ≤ x ∧ x ≤ 100) : (if 0 ≤ x then x else wr (0 - x)) = if 0 ≤ x then x else -x := by
  rw [wr_id (by omega) (by omega)]
  split <;> omega
theorem ac_areNear {b i j : Int} {h : AH} {K : AO → Nat → AH → Prop} (hB : b = 5 ∨ b = 15) (hi : 0 ≤ i ∧ i ≤ 11) (hj : 0 ≤ j ∧ j ≤ 11) (ci : cCOk h b i) (cj : cCOk h b j) (k1 : cNear h b i j → K (.inl (some (0, 1))) 159 h) (k0 : ¬ cNear h b i j → K (.inl (some (0, 0))) 159 h) : AC mX3_areNear 2 0 0 159 [(2, b), (0, i), (0, j)] h K := by
  have hb := sh_ab hB
  obtain ⟨⟨i1, i2⟩, ⟨i3, i4⟩⟩ := ci
  obtain ⟨⟨j1, j2⟩, ⟨j3, j4⟩⟩ := cj
  have e1 := abs_w (x := h (b + 2) (i * 11 + 1) - h (b + 2) (j * 11 + 1)) (by omega)
  have e2 := abs_w (x := h (b + 2) (i * 11 + 2) - h (b + 2) (j * 11 + 2)) (by omega)
  unfold cNear at k1 k0
  refine ac_of (ls := [(2, b), (0, i), (0, j)]) pn_X3 rfl (Nat.le_of_ble_eq_true rfl) rfl ?_
  refine a_al0 (am_sh_rg hb) dX3_areNear_0 ?_
  refine a_il1 dX3_areNear_1 ?_
  refine aw_iconst dX3_areNear_2 (by decide) ?_
  refine aw_callV 1 0 0 dX3_areNear_3 yw_X3_get ml_X3_100 in_X3_get se_X3_get (ci := 2) rfl (am_sh_at hb) (as := [_, _]) rfl rfl ⟨by decide, by decide, by decide, Nat.le_of_ble_eq_true rfl⟩ ?_
  refine ac_get hB hi (by decide) ?_
  refine am_ci ?_
  refine a_al0 (am_sh_rg hb) dX3_areNear_6 ?_
  refine a_il2 dX3_areNear_7 ?_
  refine aw_iconst dX3_areNear_8 (by decide) ?_
  refine aw_callV 1 0 0 dX3_areNear_9 yw_X3_get ml_X3_100 in_X3_get se_X3_get (ci := 2) rfl (am_sh_at hb) (as := [_, _]) rfl rfl ⟨by decide, by decide, by decide, Nat.le_of_ble_eq_true rfl⟩ ?_
  refine ac_get hB hj (by decide) ?_
  refine am_ci ?_
  refine aw_isubR (by omega) dX3_areNear_12 ?_
  refine aw_mabs dX3_areNear_13 ⟨ml_X3_136, mw_abs⟩ ⟨by decide, Nat.le_of_ble_eq_true rfl⟩ ?_
  refine aw_iconst dX3_areNear_16 (by decide) ?_
  refine aw_icmp_gt 44 dX3_areNear_17 (by decide) (fun c17 => ?_) (fun c17 => ?_)
  · refine aw_iconst dX3_areNear_44 (by decide) ?_
    refine aw_zret dX3_areNear_45 rfl (by omega) ?_
    refine k0 ?_
    rw [e1] at c17
    split at c17 <;> omega
  · rw [e1] at c17
    refine a_al0 (am_sh_rg hb) dX3_areNear_20 ?_
    refine a_il1 dX3_areNear_21 ?_
    refine aw_iconst dX3_areNear_22 (by decide) ?_
    refine aw_callV 1 0 0 dX3_areNear_23 yw_X3_get ml_X3_100 in_X3_get se_X3_get (ci := 2) rfl (am_sh_at hb) (as := [_, _]) rfl rfl ⟨by decide, by decide, by decide, Nat.le_of_ble_eq_true rfl⟩ ?_
    refine ac_get hB hi (by decide) ?_
    refine am_ci ?_
    refine a_al0 (am_sh_rg hb) dX3_areNear_26 ?_
    refine a_il2 dX3_areNear_27 ?_
    refine aw_iconst dX3_areNear_28 (by decide) ?_
    refine aw_callV 1 0 0 dX3_areNear_29 yw_X3_get ml_X3_100 in_X3_get se_X3_get (ci := 2) rfl (am_sh_at hb) (as := [_, _]) rfl rfl ⟨by decide, by decide, by decide, Nat.le_of_ble_eq_true rfl⟩ ?_
    refine ac_get hB hj (by decide) ?_
    refine am_ci ?_
    refine aw_isubR (by omega) dX3_areNear_32 ?_
    refine aw_mabs dX3_areNear_33 ⟨ml_X3_136, mw_abs⟩ ⟨by decide, Nat.le_of_ble_eq_true rfl⟩ ?_
    refine aw_iconst dX3_areNear_36 (by decide) ?_
    refine aw_icmp_gt 44 dX3_areNear_37 (by decide) (fun c37 => ?_) (fun c37 => ?_)
    · refine aw_iconst dX3_areNear_44 (by decide) ?_
      refine aw_zret dX3_areNear_45 rfl (by omega) ?_
      refine k0 ?_
      rw [e2] at c37
      split at c37 <;> omega
    · rw [e2] at c37
      refine aw_iconst dX3_areNear_40 (by decide) ?_
      refine aw_goto 45 dX3_areNear_41 (by decide) ?_
      refine aw_zret dX3_areNear_45 rfl (by omega) ?_
      refine k1 ?_
      split at c17 <;> split at c37 <;> omega
def cSees (h : AH) (b f i : Int) : Prop := h (b + 2) (i * 11 + 0) = f ∨ (¬ h (b + 2) (i * 11 + 1) = -1 ∧ ∃ j, 0 ≤ j ∧ j < h b 3 ∧ cFl h b f j ∧ cNear h b j i)
theorem ac_isSeenBy {b f i : Int} {h : AH} {K : AO → Nat → AH → Prop} (hB : b = 5 ∨ b = 15) (hn : 0 ≤ h b 3 ∧ h b 3 ≤ 12) (hi : 0 ≤ i ∧ i < h b 3) (hc : ∀ i, 0 ≤ i → i < h b 3 → cCOk h b i) (k1 : cSees h b f i → K (.inl (some (0, 1))) 159 h) (k0 : ¬ cSees h b f i → K (.inl (some (0, 0))) 159 h) : AC mX3_isSeenBy 4 0 0 159 [(2, b), (0, f), (0, i)] h K := by
  have hb := sh_ab hB
  refine ac_of (ls := [(2, b), (0, f), (0, i), (9, 0)]) pn_X3 rfl (Nat.le_of_ble_eq_true rfl) rfl ?_
  refine a_al0 (am_sh_rg hb) dX3_isSeenBy_0 ?_
  refine a_il2 dX3_isSeenBy_1 ?_
  refine aw_iconst dX3_isSeenBy_2 (by decide) ?_
  refine aw_callV 1 0 0 dX3_isSeenBy_3 yw_X3_get ml_X3_100 in_X3_get se_X3_get (ci := 2) rfl (am_sh_at hb) (as := [_, _]) rfl rfl ⟨by decide, by decide, by decide, Nat.le_of_ble_eq_true rfl⟩ ?_
  refine ac_get hB (by omega) (by decide) ?_
  refine am_ci ?_
  refine a_il1 dX3_isSeenBy_6 ?_
  refine aw_icmp_ne 12 dX3_isSeenBy_7 (by decide) (fun c7 => ?_) (fun c7 => ?_)
  · have c0 : ¬ h (b + 2) (i * 11 + 0) = f := by assumption
    refine aw_iconst dX3_isSeenBy_12 (by decide) ?_
    refine a_is3 rfl rfl dX3_isSeenBy_13 ?_
    refine aw_loop (fun j : Int => 0 ≤ j ∧ j ≤ h b 3 ∧ ∀ x, 0 ≤ x → x < j → ¬ (cFl h b f x ∧ ¬ h (b + 2) (i * 11 + 1) = -1 ∧ cNear h b x i)) (fun j => (h b 3 - j).toNat) (fun j => AW mX3_isSeenBy 4 0 0 K 159 14 [(2, b), (0, f), (0, i), (0, j)] [] h) (fun j hj ih => ?_) 0 ⟨by omega, by omega, fun j _ _ => by omega⟩
    obtain ⟨j0, j1, hno⟩ := hj
    have nx : ¬ (cFl h b f j ∧ ¬ h (b + 2) (i * 11 + 1) = -1 ∧ cNear h b j i) → j < h b 3 → AW mX3_isSeenBy 4 0 0 K 159 14 [(2, b), (0, f), (0, i), (0, j + 1)] [] h := fun q jl => ih (j + 1) ⟨by omega, by omega, fst_nxt (P := fun x => cFl h b f x ∧ ¬ h (b + 2) (i * 11 + 1) = -1 ∧ cNear h b x i) hno q⟩ (by omega)
    refine a_il3 dX3_isSeenBy_14 ?_
    refine a_al0 (am_sh_rg hb) dX3_isSeenBy_15 ?_
    refine aw_get 3 dX3_isSeenBy_16 fl_X3_50 (am_sh_at hb) rfl ?_
    refine aw_icmp_ge 56 dX3_isSeenBy_19 (by decide) (fun c19 => ?_) (fun c19 => ?_)
    · refine aw_iconst dX3_isSeenBy_56 (by decide) ?_
      refine aw_zret dX3_isSeenBy_57 rfl (by omega) ?_
      refine k0 (fun q => ?_)
      rcases q with q | ⟨q1, x, x0, x1, x2, x3⟩
      · exact c0 q
      · exact hno x x0 (by omega) ⟨x2, q1, x3⟩
    · have jl : j < h b 3 := by omega
      refine a_al0 (am_sh_rg hb) dX3_isSeenBy_22 ?_
      refine a_il1 dX3_isSeenBy_23 ?_
      refine a_il3 dX3_isSeenBy_24 ?_
      refine aw_callV 3 0 0 dX3_isSeenBy_25 yw_X3_isFloatingIn ml_X3_111 in_X3_isFloatingIn se_X3_isFloatingIn (ci := 2) rfl (am_sh_at hb) (as := [_, _]) rfl rfl ⟨by decide, by decide, by decide, Nat.le_of_ble_eq_true rfl⟩ ?_
      refine ac_isFloatingIn hB (by omega) (fun q1 => ?_) (fun q1 => ?_)
      · refine am_ci ?_
        refine aw_if_eq_n 50 dX3_isSeenBy_28 (by decide) (by decide) ?_
        refine a_al0 (am_sh_rg hb) dX3_isSeenBy_31 ?_
        refine a_il2 dX3_isSeenBy_32 ?_
        refine aw_callV 2 0 0 dX3_isSeenBy_33 yw_X3_floats ml_X3_103 in_X3_floats se_X3_floats (ci := 2) rfl (am_sh_at hb) (as := [_]) rfl rfl ⟨by decide, by decide, by decide, Nat.le_of_ble_eq_true rfl⟩ ?_
        refine ac_floats hB (by omega) (fun q2 => ?_) (fun q2 => ?_)
        · refine am_ci ?_
          refine aw_if_eq_n 50 dX3_isSeenBy_36 (by decide) (by decide) ?_
          refine a_al0 (am_sh_rg hb) dX3_isSeenBy_39 ?_
          refine a_il3 dX3_isSeenBy_40 ?_
          refine a_il2 dX3_isSeenBy_41 ?_
          refine aw_callV 2 0 0 dX3_isSeenBy_42 yw_X3_areNear ml_X3_133 in_X3_areNear se_X3_areNear (ci := 2) rfl (am_sh_at hb) (as := [_, _]) rfl rfl ⟨by decide, by decide, by decide, Nat.le_of_ble_eq_true rfl⟩ ?_
          refine ac_areNear hB (by omega) (by omega) (hc j j0 jl) (hc i hi.1 hi.2) (fun q3 => ?_) (fun q3 => ?_)
          · refine am_ci ?_
            refine aw_if_eq_n 50 dX3_isSeenBy_45 (by decide) (by decide) ?_
            refine aw_iconst dX3_isSeenBy_48 (by decide) ?_
            refine aw_zret dX3_isSeenBy_49 rfl (by omega) ?_
            exact k1 (Or.inr ⟨q2, j, j0, jl, q1, q3⟩)
          · refine am_ci ?_
            refine aw_if_eq_y 50 dX3_isSeenBy_45 (by decide) (by decide) ?_
            refine a_iiR3 (by omega) rfl rfl dX3_isSeenBy_50 ?_
            refine aw_goto 14 dX3_isSeenBy_53 (by decide) ?_
            exact nx (fun q => q3 q.2.2) jl
        · refine am_ci ?_
          refine aw_if_eq_y 50 dX3_isSeenBy_36 (by decide) (by decide) ?_
          refine a_iiR3 (by omega) rfl rfl dX3_isSeenBy_50 ?_
          refine aw_goto 14 dX3_isSeenBy_53 (by decide) ?_
          exact nx (fun q => q.2.1 q2) jl
      · refine am_ci ?_
        refine aw_if_eq_y 50 dX3_isSeenBy_28 (by decide) (by decide) ?_
        refine a_iiR3 (by omega) rfl rfl dX3_isSeenBy_50 ?_
        refine aw_goto 14 dX3_isSeenBy_53 (by decide) ?_
        exact nx (fun q => q1 q.1) jl
  · refine aw_iconst dX3_isSeenBy_10 (by decide) ?_
    refine aw_zret dX3_isSeenBy_11 rfl (by omega) ?_
    exact k1 (Or.inl (by assumption))
def cReady (h : AH) (b : Int) : Prop := ∀ f, 0 ≤ f → f < h b 2 → h (b + 7) f = -1 → ¬ cHas h b f
theorem ac_areAllSealed {b : Int} {h : AH} {K : AO → Nat → AH → Prop} (hB : b = 5 ∨ b = 15) (hn : 0 ≤ h b 3 ∧ h b 3 ≤ 12) (hf : 0 ≤ h b 2 ∧ h b 2 ≤ 4) (k1 : cReady h b → K (.inl (some (0, 1))) 159 h) (k0 : ¬ cReady h b → K (.inl (some (0, 0))) 159 h) : AC mX3_areAllSealed 5 0 0 159 [(2, b)] h K := by
  have hb := sh_ab hB
  refine ac_of (ls := [(2, b), (9, 0)]) pn_X3 rfl (Nat.le_of_ble_eq_true rfl) rfl ?_
  refine aw_iconst dX3_areAllSealed_0 (by decide) ?_
  refine a_is1 rfl rfl dX3_areAllSealed_1 ?_
  refine aw_loop (fun i : Int => 0 ≤ i ∧ i ≤ h b 2 ∧ ∀ f, 0 ≤ f → f < i → h (b + 7) f = -1 → ¬ cHas h b f) (fun i => (h b 2 - i).toNat) (fun i => AW mX3_areAllSealed 5 0 0 K 159 2 [(2, b), (0, i)] [] h) (fun i hi ih => ?_) 0 ⟨by omega, hf.1, fun j a b => by omega⟩
  obtain ⟨i0, i1, hno⟩ := hi
  have nx : (h (b + 7) i = -1 → ¬ cHas h b i) → i < h b 2 → AW mX3_areAllSealed 5 0 0 K 159 2 [(2, b), (0, i + 1)] [] h := fun q il => ih (i + 1) ⟨by omega, by omega, fun f x y => by
    by_cases z : f = i
    · rw [z]; exact q
    · exact hno f x (by omega)⟩ (by omega)
  refine a_il1 dX3_areAllSealed_2 ?_
  refine a_al0 (am_sh_rg hb) dX3_areAllSealed_3 ?_
  refine aw_get 2 dX3_areAllSealed_4 fl_X3_47 (am_sh_at hb) rfl ?_
  refine aw_icmp_ge 34 dX3_areAllSealed_7 (by decide) (fun c7 => ?_) (fun c7 => ?_)
  · refine aw_iconst dX3_areAllSealed_34 (by decide) ?_
    refine aw_zret dX3_areAllSealed_35 rfl (by omega) ?_
    exact k1 (fun f a b => hno f a (by omega))
  · have il : i < h b 2 := by omega
    refine a_al0 (am_sh_rg hb) dX3_areAllSealed_10 ?_
    refine a_il1 dX3_areAllSealed_11 ?_
    refine aw_callV 1 0 0 dX3_areAllSealed_12 yw_X3_hasSealed ml_X3_145 in_X3_hasSealed se_X3_hasSealed (ci := 2) rfl (am_sh_at hb) (as := [_]) rfl rfl ⟨by decide, by decide, by decide, Nat.le_of_ble_eq_true rfl⟩ ?_
    refine ac_hasSealed hB (by omega) (fun q1 => ?_) (fun q1 => ?_)
    · refine am_ci ?_
      refine aw_if_ne_y 28 dX3_areAllSealed_15 (by decide) (by decide) ?_
      refine a_iiR1 (by omega) rfl rfl dX3_areAllSealed_28 ?_
      refine aw_goto 2 dX3_areAllSealed_31 (by decide) ?_
      exact nx (fun q => absurd q q1) il
    · refine am_ci ?_
      refine aw_if_ne_n 28 dX3_areAllSealed_15 (by decide) (by decide) ?_
      refine a_al0 (am_sh_rg hb) dX3_areAllSealed_18 ?_
      refine a_il1 dX3_areAllSealed_19 ?_
      refine aw_callV 4 0 0 dX3_areAllSealed_20 yw_X3_shipsOf ml_X3_115 in_X3_shipsOf se_X3_shipsOf (ci := 2) rfl (am_sh_at hb) (as := [_]) rfl rfl ⟨by decide, by decide, by decide, Nat.le_of_ble_eq_true rfl⟩ ?_
      refine ac_shipsOf hB hn ?_
      refine am_ci ?_
      refine aw_if_eq 28 dX3_areAllSealed_23 (by decide) (fun c23 => ?_) (fun c23 => ?_)
      · have nh : ¬ cHas h b i := (or_has hn).mp (by assumption)
        refine a_iiR1 (by omega) rfl rfl dX3_areAllSealed_28 ?_
        refine aw_goto 2 dX3_areAllSealed_31 (by decide) ?_
        exact nx (fun _ => nh) il
      · have c9 : ¬ orN (cFl h b i) (h b 3).toNat = 0 := by assumption
        refine aw_iconst dX3_areAllSealed_26 (by decide) ?_
        refine aw_zret dX3_areAllSealed_27 rfl (by omega) ?_
        exact k0 (fun x => c9 ((or_has hn).mpr (x i i0 il q1)))
