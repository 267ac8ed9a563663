/-! the model: what is written -/
def push (a b f : Int) (h : AH) (c : Int) : AH := up (up h a (h b f) c) b f (h b f + 1)
def pushL (a b f : Int) (h : AH) (l : List Int) : AH := l.foldl (push a b f) h
theorem pushL_nil (a b f : Int) (h : AH) : pushL a b f h [] = h := rfl
theorem pushL_cons (a b f : Int) (h : AH) (c : Int) (l : List Int) : pushL a b f h (c :: l) = pushL a b f (push a b f h c) l := rfl
theorem pushL_app (a b f : Int) (h : AH) (l m : List Int) : pushL a b f h (l ++ m) = pushL a b f (pushL a b f h l) m := List.foldl_append
theorem push_n {a b f : Int} (h : AH) (c : Int) : push a b f h c b f = h b f + 1 := up_at _ _ _ _
theorem push_f {a b f : Int} {h : AH} {c k x : Int} (h1 : ¬ (k = b ∧ x = f)) (h2 : k ≠ a) : push a b f h c k x = h k x := by
  unfold push
  rw [up_ne h1, up_ne (by omega)]
theorem pushL_n {a b f : Int} : ∀ (l : List Int) (h : AH), pushL a b f h l b f = h b f + l.length
  | [], h => by show h b f = h b f + ((0 : Nat) : Int); omega
  | c :: l, h => by
    rw [pushL_cons, pushL_n l, push_n]
    show h b f + 1 + (l.length : Int) = h b f + ((l.length + 1 : Nat) : Int)
    omega
theorem pushL_f {a b f k x : Int} (h1 : ¬ (k = b ∧ x = f)) (h2 : k ≠ a) : ∀ (l : List Int) (h : AH), pushL a b f h l k x = h k x
  | [], h => rfl
  | c :: l, h => by rw [pushL_cons, pushL_f h1 h2 l, push_f h1 h2]
theorem pushL_lo {a b f x : Int} (hab : a ≠ b) : ∀ (l : List Int) (h : AH), x < h b f → pushL a b f h l a x = h a x
  | [], h, _ => rfl
  | c :: l, h, hx => by
    rw [pushL_cons, pushL_lo hab l _ (by rw [push_n]; omega)]
    unfold push
    rw [up_ne (by omega), up_ne (by omega)]
theorem pushL_at {a b f : Int} (hab : a ≠ b) : ∀ (l : List Int) (h : AH) (j : Nat) (v : Int), l[j]? = some v → pushL a b f h l a (h b f + j) = v
  | [], h, j, v, hj => nomatch hj
  | c :: l, h, 0, v, hj => by
    rw [pushL_cons, pushL_lo hab l _ (by rw [push_n]; omega)]
    unfold push
    rw [up_ne (by omega), show h b f + ((0 : Nat) : Int) = h b f by omega, up_at]
    exact Option.some.inj hj
  | c :: l, h, j + 1, v, hj => by
    have e := pushL_at (f := f) hab l (push a b f h c) j v hj
    rw [push_n] at e
    rw [pushL_cons, ← e]
    congr 1
    omega
abbrev say : AH → Int → AH := push 156 140 27
abbrev sayL : AH → List Int → AH := pushL 156 140 27
theorem say_n (h : AH) (c : Int) : say h c 140 27 = h 140 27 + 1 := push_n h c
theorem ac_says {c : Int} {h : AH} {K : AO → Nat → AH → Prop} (hw : 0 ≤ h 140 27 ∧ h 140 27 ≤ 399) (k : K (.inl none) 159 (say h c)) : AC mX9_says 1 0 0 159 [(2, 140), (0, c)] h K := by
  refine ac_of (ls := [(2, 140), (0, c)]) pn_X9 rfl (Nat.le_of_ble_eq_true rfl) rfl ?_
  refine a_al0 (by decide) dX9_says_0 ?_
  refine aw_getR (r := 156) 26 rfl dX9_says_1 fl_X9_60 at_140 rfl rfl ?_
  refine a_al0 (by decide) dX9_says_4 ?_
  refine aw_get 27 dX9_says_5 fl_X9_347 at_140 rfl ?_
  refine a_il1 dX9_says_8 ?_
  refine aw_iast dX9_says_9 ar_156 (by omega) ?_
  refine a_al0 (by decide) dX9_says_10 ?_
  refine aw_dup dX9_says_11 rfl ?_
  refine aw_get 27 dX9_says_12 fl_X9_347 at_140 rfl ?_
  try simp (disch := omega) only [up_at, up_ne]
  refine aw_iconst dX9_says_15 (by decide) ?_
  refine aw_iaddR (by omega) dX9_says_16 ?_
  refine aw_put 27 dX9_says_17 fp_X9_347 at_140 rfl ?_
  refine aw_vret dX9_says_20 rfl ?_
  exact k
def numL (v : Int) : List Int := if 9 < v then [48 + v / 10, 48 + v % 10] else [48 + v % 10]
theorem sn14 {d : Nat} {v : Int} {h : AH} {K : AO → Nat → AH → Prop} (hd : 2 ≤ d) (hw : 0 ≤ h 140 27 ∧ h 140 27 ≤ 399) (hv : 0 ≤ v ∧ v ≤ 99) (k : K (.inl none) 159 (say h (48 + v % 10))) : AW mX9_saysNumber d 0 0 K 159 14 [(2, 140), (0, v)] [] h := by
  refine a_al0 (by decide) dX9_saysNumber_14 ?_
  refine aw_bipush dX9_saysNumber_15 (by decide) ?_
  refine a_il1 dX9_saysNumber_17 ?_
  refine aw_bipush dX9_saysNumber_18 (by decide) ?_
  refine aw_irem dX9_saysNumber_20 (by omega) ?_
  rw [Int.tmod_eq_emod_of_nonneg hv.1]
  refine aw_iaddR (by omega) dX9_saysNumber_21 ?_
  refine aw_callV 1 0 0 dX9_saysNumber_22 yw_X9_says ml_X9_353 in_X9_says se_X9_says (ci := 8) rfl at_140 (as := [_]) rfl rfl ⟨by omega, by omega, by omega, Nat.le_of_ble_eq_true rfl⟩ ?_
  refine ac_says hw ?_
  refine am_cv ?_
  refine aw_vret dX9_saysNumber_25 rfl ?_
  exact k
theorem ac_say1 {v : Int} {h : AH} {K : AO → Nat → AH → Prop} (hw : 0 ≤ h 140 27 ∧ h 140 27 ≤ 399) (hv : 0 ≤ v ∧ v ≤ 9) (k : K (.inl none) 159 (say h (48 + v % 10))) : AC mX9_saysNumber 2 0 0 159 [(2, 140), (0, v)] h K := by
  refine ac_of (ls := [(2, 140), (0, v)]) pn_X9 rfl (Nat.le_of_ble_eq_true rfl) rfl ?_
  refine a_il1 dX9_saysNumber_0 ?_
  refine aw_bipush dX9_saysNumber_1 (by decide) ?_
  refine aw_icmp_le 14 dX9_saysNumber_3 (by decide) (fun c3 => ?_) (fun c3 => ?_)
  · skip
    exact sn14 (by decide) hw (by omega) k
  · exfalso; omega
theorem ac_saysNumber {v : Int} {h : AH} {K : AO → Nat → AH → Prop} (hw : 0 ≤ h 140 27 ∧ h 140 27 ≤ 398) (hv : 0 ≤ v ∧ v ≤ 99) (k : K (.inl none) 159 (sayL h (numL v))) : AC mX9_saysNumber 3 0 0 159 [(2, 140), (0, v)] h K := by
  refine ac_of (ls := [(2, 140), (0, v)]) pn_X9 rfl (Nat.le_of_ble_eq_true rfl) rfl ?_
  refine a_il1 dX9_saysNumber_0 ?_
  refine aw_bipush dX9_saysNumber_1 (by decide) ?_
  refine aw_icmp_le 14 dX9_saysNumber_3 (by decide) (fun c3 => ?_) (fun c3 => ?_)
  · have e : numL v = [48 + v % 10] := if_neg (by omega)
    rw [e] at k
    exact sn14 (by decide) (by omega) hv k
  · have e : numL v = [48 + v / 10, 48 + v % 10] := if_pos (by omega)
    rw [e] at k
    refine a_al0 (by decide) dX9_saysNumber_6 ?_
    refine a_il1 dX9_saysNumber_7 ?_
    refine aw_bipush dX9_saysNumber_8 (by decide) ?_
    refine aw_idiv dX9_saysNumber_10 (by omega) ?_
    rw [Int.tdiv_eq_ediv_of_nonneg hv.1]
    refine aw_callV 2 0 0 dX9_saysNumber_11 yw_X9_saysNumber ml_X9_350 in_X9_saysNumber se_X9_saysNumber (ci := 8) rfl at_140 (as := [_]) rfl rfl ⟨by decide, by decide, by decide, Nat.le_of_ble_eq_true rfl⟩ ?_
    refine ac_say1 (by omega) (by omega) ?_
    rw [show v / 10 % 10 = v / 10 by omega]
    refine am_cv ?_
    exact sn14 (by decide) (by rw [say_n]; omega) hv k
def hdL (d : Int) : List Int := (if d < 2 ∨ d = 7 then [78] else []) ++ ((if 3 ≤ d ∧ d ≤ 5 then [83] else []) ++ ((if 1 ≤ d ∧ d ≤ 3 then [69] else []) ++ (if 4 < d then [87] else [])))
theorem hd47 {d : Int} {h : AH} {K : AO → Nat → AH → Prop} (hw : 0 ≤ h 140 27 ∧ h 140 27 ≤ 399) (k : K (.inl none) 159 (sayL h (if 4 < d then [87] else []))) : AW mX9_saysHeading 2 0 0 K 159 47 [(2, 140), (0, d)] [] h := by
  refine a_il1 dX9_saysHeading_47 ?_
  refine aw_iconst dX9_saysHeading_48 (by decide) ?_
  refine aw_icmp_le 58 dX9_saysHeading_49 (by decide) (fun c49 => ?_) (fun c49 => ?_)
  · rw [if_neg (by omega)] at k
    refine aw_vret dX9_saysHeading_58 rfl ?_
    exact k
  · rw [if_pos (by omega)] at k
    refine a_al0 (by decide) dX9_saysHeading_52 ?_
    refine aw_bipush dX9_saysHeading_53 (by decide) ?_
    refine aw_callV 1 0 0 dX9_saysHeading_55 yw_X9_says ml_X9_353 in_X9_says se_X9_says (ci := 8) rfl at_140 (as := [_]) rfl rfl ⟨by decide, by decide, by decide, Nat.le_of_ble_eq_true rfl⟩ ?_
    refine ac_says hw ?_
    refine am_cv ?_
    refine aw_vret dX9_saysHeading_58 rfl ?_
    exact k
theorem hd32 {d : Int} {h : AH} {K : AO → Nat → AH → Prop} (hw : 0 ≤ h 140 27 ∧ h 140 27 ≤ 398) (k : K (.inl none) 159 (sayL h ((if 1 ≤ d ∧ d ≤ 3 then [69] else []) ++ (if 4 < d then [87] else [])))) : AW mX9_saysHeading 2 0 0 K 159 32 [(2, 140), (0, d)] [] h := by
  refine a_il1 dX9_saysHeading_32 ?_
  refine aw_iconst dX9_saysHeading_33 (by decide) ?_
  refine aw_iconst dX9_saysHeading_34 (by decide) ?_
  refine aw_callS 1 0 0 dX9_saysHeading_35 yw_X9_isIn ml_X9_76 sm_X9_isIn (as := [_, _, _]) rfl rfl ⟨by decide, by decide, by decide, Nat.le_of_ble_eq_true rfl⟩ ?_
  refine ac_isIn (fun q => ?_) (fun q => ?_)
  · rw [if_pos q] at k
    refine am_ci ?_
    refine aw_if_eq_n 47 dX9_saysHeading_38 (by decide) (by decide) ?_
    refine a_al0 (by decide) dX9_saysHeading_41 ?_
    refine aw_bipush dX9_saysHeading_42 (by decide) ?_
    refine aw_callV 1 0 0 dX9_saysHeading_44 yw_X9_says ml_X9_353 in_X9_says se_X9_says (ci := 8) rfl at_140 (as := [_]) rfl rfl ⟨by decide, by decide, by decide, Nat.le_of_ble_eq_true rfl⟩ ?_
    refine ac_says (by omega) ?_
    refine am_cv ?_
    exact hd47 (by rw [say_n]; omega) k
  · rw [if_neg q] at k
    refine am_ci ?_
    refine aw_if_eq_y 47 dX9_saysHeading_38 (by decide) (by decide) ?_
    exact hd47 (by omega) k
theorem hd17 {d : Int} {h : AH} {K : AO → Nat → AH → Prop} (hw : 0 ≤ h 140 27 ∧ h 140 27 ≤ 397) (k : K (.inl none) 159 (sayL h ((if 3 ≤ d ∧ d ≤ 5 then [83] else []) ++ ((if 1 ≤ d ∧ d ≤ 3 then [69] else []) ++ (if 4 < d then [87] else []))))) : AW mX9_saysHeading 2 0 0 K 159 17 [(2, 140), (0, d)] [] h := by
  refine a_il1 dX9_saysHeading_17 ?_
  refine aw_iconst dX9_saysHeading_18 (by decide) ?_
  refine aw_iconst dX9_saysHeading_19 (by decide) ?_
  refine aw_callS 1 0 0 dX9_saysHeading_20 yw_X9_isIn ml_X9_76 sm_X9_isIn (as := [_, _, _]) rfl rfl ⟨by decide, by decide, by decide, Nat.le_of_ble_eq_true rfl⟩ ?_
  refine ac_isIn (fun q => ?_) (fun q => ?_)
  · rw [if_pos q] at k
    refine am_ci ?_
    refine aw_if_eq_n 32 dX9_saysHeading_23 (by decide) (by decide) ?_
    refine a_al0 (by decide) dX9_saysHeading_26 ?_
    refine aw_bipush dX9_saysHeading_27 (by decide) ?_
    refine aw_callV 1 0 0 dX9_saysHeading_29 yw_X9_says ml_X9_353 in_X9_says se_X9_says (ci := 8) rfl at_140 (as := [_]) rfl rfl ⟨by decide, by decide, by decide, Nat.le_of_ble_eq_true rfl⟩ ?_
    refine ac_says (by omega) ?_
    refine am_cv ?_
    exact hd32 (by rw [say_n]; omega) k
  · rw [if_neg q] at k
    refine am_ci ?_
    refine aw_if_eq_y 32 dX9_saysHeading_23 (by decide) (by decide) ?_
    exact hd32 (by omega) k
theorem ac_saysHeading {d : Int} {h : AH} {K : AO → Nat → AH → Prop} (hw : 0 ≤ h 140 27 ∧ h 140 27 ≤ 396) (k : K (.inl none) 159 (sayL h (hdL d))) : AC mX9_saysHeading 2 0 0 159 [(2, 140), (0, d)] h K := by
  have J : (d < 2 ∨ d = 7) → AW mX9_saysHeading 2 0 0 K 159 11 [(2, 140), (0, d)] [] h := fun q => by
    unfold hdL at k
    rw [if_pos q] at k
    refine a_al0 (by decide) dX9_saysHeading_11 ?_
    refine aw_bipush dX9_saysHeading_12 (by decide) ?_
    refine aw_callV 1 0 0 dX9_saysHeading_14 yw_X9_says ml_X9_353 in_X9_says se_X9_says (ci := 8) rfl at_140 (as := [_]) rfl rfl ⟨by decide, by decide, by decide, Nat.le_of_ble_eq_true rfl⟩ ?_
    refine ac_says (by omega) ?_
    refine am_cv ?_
    exact hd17 (by rw [say_n]; omega) k
  refine ac_of (ls := [(2, 140), (0, d)]) pn_X9 rfl (Nat.le_of_ble_eq_true rfl) rfl ?_
  refine a_il1 dX9_saysHeading_0 ?_
  refine aw_iconst dX9_saysHeading_1 (by decide) ?_
  refine aw_icmp_lt 11 dX9_saysHeading_2 (by decide) (fun c2 => ?_) (fun c2 => ?_)
  · skip
    exact J (by omega)
  · refine a_il1 dX9_saysHeading_5 ?_
    refine aw_bipush dX9_saysHeading_6 (by decide) ?_
    refine aw_icmp_ne 17 dX9_saysHeading_8 (by decide) (fun c8 => ?_) (fun c8 => ?_)
    · skip
      unfold hdL at k
      rw [if_neg (by omega)] at k
      exact hd17 (by omega) k
    · skip
      exact J (by omega)
theorem ac_writtenByte {i : Int} {h : AH} {K : AO → Nat → AH → Prop} (hw : 0 ≤ h 140 27 ∧ h 140 27 ≤ 400) (k1 : ¬ (0 ≤ i ∧ i < h 140 27) → K (.inl (some (0, 0))) 159 (up h 140 7 1)) (k0 : 0 ≤ i ∧ i < h 140 27 → K (.inl (some (0, h 156 i))) 159 (up h 140 7 0)) : AC mX9_writtenByte 2 0 0 159 [(2, 140), (0, i)] h K := by
  refine ac_of (ls := [(2, 140), (0, i)]) pn_X9 rfl (Nat.le_of_ble_eq_true rfl) rfl ?_
  refine a_al0 (by decide) dX9_writtenByte_0 ?_
  refine a_il1 dX9_writtenByte_1 ?_
  refine aw_iconst dX9_writtenByte_2 (by decide) ?_
  refine a_al0 (by decide) dX9_writtenByte_3 ?_
  refine aw_get 27 dX9_writtenByte_4 fl_X9_347 at_140 rfl ?_
  refine aw_iconst dX9_writtenByte_7 (by decide) ?_
  refine aw_isubR (by omega) dX9_writtenByte_8 ?_
  refine aw_callS 1 0 0 dX9_writtenByte_9 yw_X9_isIn ml_X9_76 sm_X9_isIn (as := [_, _, _]) rfl rfl ⟨by decide, by decide, by decide, Nat.le_of_ble_eq_true rfl⟩ ?_
  refine ac_isIn (fun q => ?_) (fun q => ?_)
  · refine am_ci ?_
    refine aw_if_eq_n 19 dX9_writtenByte_12 (by decide) (by decide) ?_
    refine aw_iconst dX9_writtenByte_15 (by decide) ?_
    refine aw_goto 20 dX9_writtenByte_16 (by decide) ?_
    refine aw_put 7 dX9_writtenByte_20 fp_X9_66 at_140 rfl ?_
    refine a_al0 (by decide) dX9_writtenByte_23 ?_
    refine aw_get 7 dX9_writtenByte_24 fl_X9_66 at_140 rfl ?_
    try simp (disch := omega) only [up_at, up_ne]
    refine aw_if_le_y 34 dX9_writtenByte_27 (by decide) (by decide) ?_
    refine a_al0 (by decide) dX9_writtenByte_34 ?_
    refine aw_getR (r := 156) 26 rfl dX9_writtenByte_35 fl_X9_60 at_140 rfl rfl ?_
    try simp (disch := omega) only [up_at, up_ne]
    refine a_il1 dX9_writtenByte_38 ?_
    refine aw_iald dX9_writtenByte_39 ar_156 (by omega) ?_
    try simp (disch := omega) only [up_at, up_ne]
    refine aw_iret dX9_writtenByte_40 rfl ?_
    exact k0 (by omega)
  · refine am_ci ?_
    refine aw_if_eq_y 19 dX9_writtenByte_12 (by decide) (by decide) ?_
    refine aw_iconst dX9_writtenByte_19 (by decide) ?_
    refine aw_put 7 dX9_writtenByte_20 fp_X9_66 at_140 rfl ?_
    refine a_al0 (by decide) dX9_writtenByte_23 ?_
    refine aw_get 7 dX9_writtenByte_24 fl_X9_66 at_140 rfl ?_
    try simp (disch := omega) only [up_at, up_ne]
    refine aw_if_le_n 34 dX9_writtenByte_27 (by decide) (by decide) ?_
    refine aw_iconst dX9_writtenByte_30 (by decide) ?_
    refine aw_goto 40 dX9_writtenByte_31 (by decide) ?_
    refine aw_iret dX9_writtenByte_40 rfl ?_
    exact k1 (by omega)
def nmL (r : Int → Int) (i : Int) : Nat → Int → List Int
  | 0, _ => []
  | m + 1, k => if 0 < r (46 + 25 * i + (17 + k)) then r (46 + 25 * i + (17 + k)) :: nmL r i m (k + 1) else []
theorem nmL_le (r : Int → Int) (i : Int) : ∀ (m : Nat) (k : Int), (nmL r i m k).length ≤ m
  | 0, k => Nat.le_refl _
  | m + 1, k => by
    show (if 0 < r (46 + 25 * i + (17 + k)) then r (46 + 25 * i + (17 + k)) :: nmL r i m (k + 1) else []).length ≤ m + 1
    have ih := nmL_le r i m (k + 1)
    split
    · exact Nat.succ_le_succ ih
    · exact Nat.zero_le _
theorem numL_le (v : Int) : (numL v).length ≤ 2 := by
  unfold numL
  split
  · exact Nat.le_refl _
  · exact Nat.le_succ _
theorem hdL_le (d : Int) : (hdL d).length ≤ 2 := by
  unfold hdL
  by_cases a : d < 2 ∨ d = 7
  · rw [if_pos a, if_neg (show ¬ (3 ≤ d ∧ d ≤ 5) by omega)]
    by_cases b : 1 ≤ d ∧ d ≤ 3
    · rw [if_pos b, if_neg (show ¬ 4 < d by omega)]
      decide
    · rw [if_neg b]
      split <;> decide
  · rw [if_neg a]
    by_cases b : 1 ≤ d ∧ d ≤ 3
    · rw [if_pos b, if_neg (show ¬ 4 < d by omega)]
      split <;> decide
    · rw [if_neg b]
      split <;> split <;> decide
def shipL (r : Int → Int) (i : Int) : List Int := nmL r i 8 0 ++ ([61] ++ (numL (r (46 + 25 * i + 1)) ++ ([44] ++ (numL (r (46 + 25 * i + 2)) ++ (hdL (r (46 + 25 * i + 3)) ++ ([47] ++ numL (r (46 + 25 * i + 4))))))))
def txtF (r : Int → Int) : Nat → Int → Bool → List Int
  | 0, _, _ => []
  | m + 1, i, c => if r (46 + 25 * i + 10) = -1 then ((if c then [32] else []) ++ shipL r i) ++ txtF r m (i + 1) true else txtF r m (i + 1) c
theorem shipL_le (r : Int → Int) (i : Int) : (shipL r i).length ≤ 19 := by
  have a := nmL_le r i 8 0
  have b := numL_le (r (46 + 25 * i + 1))
  have c := numL_le (r (46 + 25 * i + 2))
  have d := hdL_le (r (46 + 25 * i + 3))
  have e := numL_le (r (46 + 25 * i + 4))
  unfold shipL
  rw [List.length_append, List.length_append, List.length_append, List.length_append, List.length_append, List.length_append, List.length_append]
  show (nmL r i 8 0).length + (1 + ((numL (r (46 + 25 * i + 1))).length + (1 + ((numL (r (46 + 25 * i + 2))).length + ((hdL (r (46 + 25 * i + 3))).length + (1 + (numL (r (46 + 25 * i + 4))).length)))))) ≤ 19
  omega
theorem sayL_row (g : AH) (l : List Int) : sayL g l 141 = g 141 := by
  funext x
  exact pushL_f (by omega) (by decide) l g
theorem sayL_n (g : AH) (l : List Int) : sayL g l 140 27 = g 140 27 + l.length := pushL_n l g
theorem sayL_app (g : AH) (l m : List Int) : sayL g (l ++ m) = sayL (sayL g l) m := pushL_app _ _ _ g l m
def wsOk (r : Int → Int) (i : Int) : Prop := (0 ≤ r (46 + 25 * i + 1) ∧ r (46 + 25 * i + 1) ≤ 29) ∧ (0 ≤ r (46 + 25 * i + 2) ∧ r (46 + 25 * i + 2) ≤ 29) ∧ (0 ≤ r (46 + 25 * i + 4) ∧ r (46 + 25 * i + 4) ≤ 99)
theorem ws85 {i : Int} {v : AV} {g : AH} {K : AO → Nat → AH → Prop} (hi : 0 ≤ i ∧ i ≤ 11) (ho : wsOk (g 141) i) (hw : 0 ≤ g 140 27 ∧ g 140 27 ≤ 370) (k : AW mX9_writeShips 4 0 0 K 159 143 [(2, 140), (0, i), v] [] (sayL g ([61] ++ (numL (g 141 (46 + 25 * i + 1)) ++ ([44] ++ (numL (g 141 (46 + 25 * i + 2)) ++ (hdL (g 141 (46 + 25 * i + 3)) ++ ([47] ++ numL (g 141 (46 + 25 * i + 4)))))))))) : AW mX9_writeShips 4 0 0 K 159 85 [(2, 140), (0, i), v] [] g := by
  obtain ⟨o1, o2, o4⟩ := ho
  have n1 := numL_le (g 141 (46 + 25 * i + 1))
  have n2 := numL_le (g 141 (46 + 25 * i + 2))
  have n3 := hdL_le (g 141 (46 + 25 * i + 3))
  rw [sayL_app, sayL_app, sayL_app, sayL_app, sayL_app, sayL_app] at k
  obtain ⟨g1, e1⟩ : ∃ g1, g1 = sayL g [61] := ⟨_, rfl⟩
  rw [← e1] at k
  have r1 : g1 141 = g 141 := by rw [e1, sayL_row]
  have c1 : g1 140 27 = g 140 27 + 1 := by rw [e1, sayL_n]; rfl
  obtain ⟨g2, e2⟩ : ∃ g2, g2 = sayL g1 (numL (g 141 (46 + 25 * i + 1))) := ⟨_, rfl⟩
  rw [← e2] at k
  have r2 : g2 141 = g 141 := by rw [e2, sayL_row, r1]
  have c2 : g2 140 27 = g1 140 27 + (numL (g 141 (46 + 25 * i + 1))).length := by rw [e2, sayL_n]
  obtain ⟨g3, e3⟩ : ∃ g3, g3 = sayL g2 [44] := ⟨_, rfl⟩
  rw [← e3] at k
  have r3 : g3 141 = g 141 := by rw [e3, sayL_row, r2]
  have c3 : g3 140 27 = g2 140 27 + 1 := by rw [e3, sayL_n]; rfl
  obtain ⟨g4, e4⟩ : ∃ g4, g4 = sayL g3 (numL (g 141 (46 + 25 * i + 2))) := ⟨_, rfl⟩
  rw [← e4] at k
  have r4 : g4 141 = g 141 := by rw [e4, sayL_row, r3]
  have c4 : g4 140 27 = g3 140 27 + (numL (g 141 (46 + 25 * i + 2))).length := by rw [e4, sayL_n]
  obtain ⟨g5, e5⟩ : ∃ g5, g5 = sayL g4 (hdL (g 141 (46 + 25 * i + 3))) := ⟨_, rfl⟩
  rw [← e5] at k
  have r5 : g5 141 = g 141 := by rw [e5, sayL_row, r4]
  have c5 : g5 140 27 = g4 140 27 + (hdL (g 141 (46 + 25 * i + 3))).length := by rw [e5, sayL_n]
  obtain ⟨g6, e6⟩ : ∃ g6, g6 = sayL g5 [47] := ⟨_, rfl⟩
  rw [← e6] at k
  have r6 : g6 141 = g 141 := by rw [e6, sayL_row, r5]
  have c6 : g6 140 27 = g5 140 27 + 1 := by rw [e6, sayL_n]; rfl
  refine a_al0 (by decide) dX9_writeShips_85 ?_
  refine aw_bipush dX9_writeShips_86 (by decide) ?_
  refine aw_callV 1 0 0 dX9_writeShips_88 yw_X9_says ml_X9_353 in_X9_says se_X9_says (ci := 8) rfl at_140 (as := [_]) rfl rfl ⟨by decide, by decide, by decide, Nat.le_of_ble_eq_true rfl⟩ ?_
  refine ac_says (by omega) ?_
  rw [show say g 61 = g1 from e1.symm]
  refine am_cv ?_
  refine a_al0 (by decide) dX9_writeShips_91 ?_
  refine a_al0 (by decide) dX9_writeShips_92 ?_
  refine a_il1 dX9_writeShips_93 ?_
  refine aw_iconst dX9_writeShips_94 (by decide) ?_
  refine aw_callV 1 0 0 dX9_writeShips_95 yw_X9_of ml_X9_213 in_X9_of se_X9_of (ci := 8) rfl at_140 (as := [_, _]) rfl rfl ⟨by decide, by decide, by decide, Nat.le_of_ble_eq_true rfl⟩ ?_
  refine ac_of_ (by omega) (by decide) ?_
  rw [r1]
  refine am_ci ?_
  try simp (disch := omega) only [up_at, up_ne]
  refine aw_callV 3 0 0 dX9_writeShips_98 yw_X9_saysNumber ml_X9_350 in_X9_saysNumber se_X9_saysNumber (ci := 8) rfl at_140 (as := [_]) rfl rfl ⟨by decide, by decide, by decide, Nat.le_of_ble_eq_true rfl⟩ ?_
  refine ac_saysNumber (by omega) (by omega) ?_
  rw [← e2]
  refine am_cv ?_
  refine a_al0 (by decide) dX9_writeShips_101 ?_
  refine aw_bipush dX9_writeShips_102 (by decide) ?_
  refine aw_callV 1 0 0 dX9_writeShips_104 yw_X9_says ml_X9_353 in_X9_says se_X9_says (ci := 8) rfl at_140 (as := [_]) rfl rfl ⟨by decide, by decide, by decide, Nat.le_of_ble_eq_true rfl⟩ ?_
  refine ac_says (by omega) ?_
  rw [show say g2 44 = g3 from e3.symm]
  refine am_cv ?_
  refine a_al0 (by decide) dX9_writeShips_107 ?_
  refine a_al0 (by decide) dX9_writeShips_108 ?_
  refine a_il1 dX9_writeShips_109 ?_
  refine aw_iconst dX9_writeShips_110 (by decide) ?_
  refine aw_callV 1 0 0 dX9_writeShips_111 yw_X9_of ml_X9_213 in_X9_of se_X9_of (ci := 8) rfl at_140 (as := [_, _]) rfl rfl ⟨by decide, by decide, by decide, Nat.le_of_ble_eq_true rfl⟩ ?_
  refine ac_of_ (by omega) (by decide) ?_
  rw [r3]
  refine am_ci ?_
  try simp (disch := omega) only [up_at, up_ne]
  refine aw_callV 3 0 0 dX9_writeShips_114 yw_X9_saysNumber ml_X9_350 in_X9_saysNumber se_X9_saysNumber (ci := 8) rfl at_140 (as := [_]) rfl rfl ⟨by decide, by decide, by decide, Nat.le_of_ble_eq_true rfl⟩ ?_
  refine ac_saysNumber (by omega) (by omega) ?_
  rw [← e4]
  refine am_cv ?_
  refine a_al0 (by decide) dX9_writeShips_117 ?_
  refine a_al0 (by decide) dX9_writeShips_118 ?_
  refine a_il1 dX9_writeShips_119 ?_
  refine aw_iconst dX9_writeShips_120 (by decide) ?_
  refine aw_callV 1 0 0 dX9_writeShips_121 yw_X9_of ml_X9_213 in_X9_of se_X9_of (ci := 8) rfl at_140 (as := [_, _]) rfl rfl ⟨by decide, by decide, by decide, Nat.le_of_ble_eq_true rfl⟩ ?_
  refine ac_of_ (by omega) (by decide) ?_
  rw [r4]
  refine am_ci ?_
  try simp (disch := omega) only [up_at, up_ne]
  refine aw_callV 2 0 0 dX9_writeShips_124 yw_X9_saysHeading ml_X9_356 in_X9_saysHeading se_X9_saysHeading (ci := 8) rfl at_140 (as := [_]) rfl rfl ⟨by decide, by decide, by decide, Nat.le_of_ble_eq_true rfl⟩ ?_
  refine ac_saysHeading (by omega) ?_
  rw [← e5]
  refine am_cv ?_
  refine a_al0 (by decide) dX9_writeShips_127 ?_
  refine aw_bipush dX9_writeShips_128 (by decide) ?_
  refine aw_callV 1 0 0 dX9_writeShips_130 yw_X9_says ml_X9_353 in_X9_says se_X9_says (ci := 8) rfl at_140 (as := [_]) rfl rfl ⟨by decide, by decide, by decide, Nat.le_of_ble_eq_true rfl⟩ ?_
  refine ac_says (by omega) ?_
  rw [show say g5 47 = g6 from e6.symm]
  refine am_cv ?_
  refine a_al0 (by decide) dX9_writeShips_133 ?_
  refine a_al0 (by decide) dX9_writeShips_134 ?_
  refine a_il1 dX9_writeShips_135 ?_
  refine aw_iconst dX9_writeShips_136 (by decide) ?_
  refine aw_callV 1 0 0 dX9_writeShips_137 yw_X9_of ml_X9_213 in_X9_of se_X9_of (ci := 8) rfl at_140 (as := [_, _]) rfl rfl ⟨by decide, by decide, by decide, Nat.le_of_ble_eq_true rfl⟩ ?_
  refine ac_of_ (by omega) (by decide) ?_
  rw [r6]
  refine am_ci ?_
  try simp (disch := omega) only [up_at, up_ne]
  refine aw_callV 3 0 0 dX9_writeShips_140 yw_X9_saysNumber ml_X9_350 in_X9_saysNumber se_X9_saysNumber (ci := 8) rfl at_140 (as := [_]) rfl rfl ⟨by decide, by decide, by decide, Nat.le_of_ble_eq_true rfl⟩ ?_
  refine ac_saysNumber (by omega) (by omega) ?_
  refine am_cv ?_
  exact k
theorem ws48 {i : Int} {K : AO → Nat → AH → Prop} (hi : 0 ≤ i ∧ i ≤ 11) : ∀ (m : Nat) (x : Int) (g : AH), x + m = 8 → 0 ≤ x → 0 ≤ g 140 27 ∧ g 140 27 ≤ 380 + x → (∀ v, am_n2 v = true → AW mX9_writeShips 4 0 0 K 159 85 [(2, 140), (0, i), v] [] (sayL g (nmL (g 141) i m x))) → AW mX9_writeShips 4 0 0 K 159 48 [(2, 140), (0, i), (0, x)] [] g
  | 0, x, g, hx, x0, hw, k => by
    refine a_il2 dX9_writeShips_48 ?_
    refine aw_bipush dX9_writeShips_49 (by decide) ?_
    refine aw_icmp_ge 85 dX9_writeShips_51 (by decide) (fun c51 => ?_) (fun c51 => ?_)
    · skip
      exact k (0, x) rfl
    · exfalso; omega
  | m + 1, x, g, hx, x0, hw, k => by
    have e : nmL (g 141) i (m + 1) x = if 0 < g 141 (46 + 25 * i + (17 + x)) then g 141 (46 + 25 * i + (17 + x)) :: nmL (g 141) i m (x + 1) else [] := rfl
    refine a_il2 dX9_writeShips_48 ?_
    refine aw_bipush dX9_writeShips_49 (by decide) ?_
    refine aw_icmp_ge 85 dX9_writeShips_51 (by decide) (fun c51 => ?_) (fun c51 => ?_)
    · exfalso; omega
    · refine a_al0 (by decide) dX9_writeShips_54 ?_
      refine a_il1 dX9_writeShips_55 ?_
      refine aw_bipush dX9_writeShips_56 (by decide) ?_
      refine a_il2 dX9_writeShips_58 ?_
      refine aw_iaddR (by omega) dX9_writeShips_59 ?_
      refine aw_callV 1 0 0 dX9_writeShips_60 yw_X9_of ml_X9_213 in_X9_of se_X9_of (ci := 8) rfl at_140 (as := [_, _]) rfl rfl ⟨by decide, by decide, by decide, Nat.le_of_ble_eq_true rfl⟩ ?_
      refine ac_of_ (by omega) (by omega) ?_
      refine am_ci ?_
      refine aw_if_le 85 dX9_writeShips_63 (by decide) (fun c63 => ?_) (fun c63 => ?_)
      · skip
        rw [e, if_neg (by omega)] at k
        exact k (0, x) rfl
      · rw [e, if_pos (by omega)] at k
        refine a_al0 (by decide) dX9_writeShips_66 ?_
        refine a_al0 (by decide) dX9_writeShips_67 ?_
        refine a_il1 dX9_writeShips_68 ?_
        refine aw_bipush dX9_writeShips_69 (by decide) ?_
        refine a_il2 dX9_writeShips_71 ?_
        refine aw_iaddR (by omega) dX9_writeShips_72 ?_
        refine aw_callV 1 0 0 dX9_writeShips_73 yw_X9_of ml_X9_213 in_X9_of se_X9_of (ci := 8) rfl at_140 (as := [_, _]) rfl rfl ⟨by decide, by decide, by decide, Nat.le_of_ble_eq_true rfl⟩ ?_
        refine ac_of_ (by omega) (by omega) ?_
        refine am_ci ?_
        refine aw_callV 1 0 0 dX9_writeShips_76 yw_X9_says ml_X9_353 in_X9_says se_X9_says (ci := 8) rfl at_140 (as := [_]) rfl rfl ⟨by decide, by decide, by decide, Nat.le_of_ble_eq_true rfl⟩ ?_
        refine ac_says (by omega) ?_
        refine am_cv ?_
        refine a_iiR2 (by omega) rfl rfl dX9_writeShips_79 ?_
        refine aw_goto 48 dX9_writeShips_82 (by decide) ?_
        refine ws48 hi m (x + 1) _ (by omega) (by omega) (by rw [say_n]; omega) (fun v hv => ?_)
        have e2 : say g (g 141 (46 + 25 * i + (17 + x))) 141 = g 141 := sayL_row g [g 141 (46 + 25 * i + (17 + x))]
        rw [e2]
        exact k v hv
theorem ws12 {K : AO → Nat → AH → Prop} : ∀ (m : Nat) (i : Int) (g : AH) (v : AV), i + m = g 141 3 → 0 ≤ i → g 141 3 ≤ 12 → 0 ≤ g 140 27 ∧ g 140 27 ≤ 20 * i → (∀ j, 0 ≤ j → j < g 141 3 → g 141 (46 + 25 * j + 10) = -1 → wsOk (g 141) j) → am_n2 v = true → K (.inl (some (0, g 140 27 + (txtF (g 141) m i (decide (0 < g 140 27))).length))) 159 (sayL g (txtF (g 141) m i (decide (0 < g 140 27)))) → AW mX9_writeShips 4 0 0 K 159 12 [(2, 140), (0, i), v] [] g
  | 0, i, g, v, hi, i0, hn, hw, ho, hv, k => by
    refine a_il1 dX9_writeShips_12 ?_
    refine a_al0 (by decide) dX9_writeShips_13 ?_
    refine aw_getR (r := 141) 0 rfl dX9_writeShips_14 fl_X9_7 at_140 rfl rfl ?_
    refine aw_iconst dX9_writeShips_17 (by decide) ?_
    refine aw_iald dX9_writeShips_18 ar_141 (by omega) ?_
    refine aw_icmp_ge 149 dX9_writeShips_19 (by decide) (fun c19 => ?_) (fun c19 => ?_)
    · refine a_al0 (by decide) dX9_writeShips_149 ?_
      refine aw_get 27 dX9_writeShips_150 fl_X9_347 at_140 rfl ?_
      refine aw_iret dX9_writeShips_153 rfl ?_
      have e : g 140 27 + ((txtF (g 141) 0 i (decide (0 < g 140 27))).length : Int) = g 140 27 := by show g 140 27 + ((0 : Nat) : Int) = _; omega
      rw [e] at k
      exact k
    · exfalso; omega
  | m + 1, i, g, v, hi, i0, hn, hw, ho, hv, k => by
    have e : ∀ c, txtF (g 141) (m + 1) i c = if g 141 (46 + 25 * i + 10) = -1 then ((if c then [32] else []) ++ shipL (g 141) i) ++ txtF (g 141) m (i + 1) true else txtF (g 141) m (i + 1) c := fun c => rfl
    refine a_il1 dX9_writeShips_12 ?_
    refine a_al0 (by decide) dX9_writeShips_13 ?_
    refine aw_getR (r := 141) 0 rfl dX9_writeShips_14 fl_X9_7 at_140 rfl rfl ?_
    refine aw_iconst dX9_writeShips_17 (by decide) ?_
    refine aw_iald dX9_writeShips_18 ar_141 (by omega) ?_
    refine aw_icmp_ge 149 dX9_writeShips_19 (by decide) (fun c19 => ?_) (fun c19 => ?_)
    · exfalso; omega
    · refine a_al0 (by decide) dX9_writeShips_22 ?_
      refine a_il1 dX9_writeShips_23 ?_
      refine aw_callV 2 0 0 dX9_writeShips_24 yw_X9_sails ml_X9_216 in_X9_sails se_X9_sails (ci := 8) rfl at_140 (as := [_]) rfl rfl ⟨by decide, by decide, by decide, Nat.le_of_ble_eq_true rfl⟩ ?_
      refine ac_sails (by omega) (fun q => ?_) (fun q => ?_)
      · rw [e, if_pos q] at k
        have J : ∀ (g1 : AH) (u : AV), g1 141 = g 141 → 0 ≤ g1 140 27 ∧ g1 140 27 ≤ 20 * i + 1 → am_n2 u = true → K (.inl (some (0, g1 140 27 + (shipL (g 141) i ++ txtF (g 141) m (i + 1) true).length))) 159 (sayL g1 (shipL (g 141) i ++ txtF (g 141) m (i + 1) true)) → AW mX9_writeShips 4 0 0 K 159 46 [(2, 140), (0, i), u] [] g1 := fun g1 u r1 c1 hu kk => by
          refine aw_iconst dX9_writeShips_46 (by decide) ?_
          refine a_is2 rfl rfl dX9_writeShips_47 ?_
          refine ws48 ⟨i0, by omega⟩ 8 0 g1 (by omega) (by omega) (by omega) (fun w hw2 => ?_)
          have l1 := nmL_le (g 141) i 8 0
          have l2 := shipL_le (g 141) i
          rw [r1]
          refine ws85 ⟨i0, by omega⟩ (by rw [sayL_row, r1]; exact ho i i0 (by omega) q) (by rw [sayL_n]; omega) ?_
          rw [sayL_row, r1, ← sayL_app]
          rw [show nmL (g 141) i 8 0 ++ ([61] ++ (numL (g 141 (46 + 25 * i + 1)) ++ ([44] ++ (numL (g 141 (46 + 25 * i + 2)) ++ (hdL (g 141 (46 + 25 * i + 3)) ++ ([47] ++ numL (g 141 (46 + 25 * i + 4)))))))) = shipL (g 141) i from rfl]
          have p1 : 0 < (shipL (g 141) i).length := by
            unfold shipL
            rw [List.length_append, List.length_append]
            show 0 < _ + (1 + _)
            omega
          obtain ⟨g2, e2⟩ : ∃ g2, g2 = sayL g1 (shipL (g 141) i) := ⟨_, rfl⟩
          have r2 : g2 141 = g 141 := by rw [e2, sayL_row, r1]
          have c2 : g2 140 27 = g1 140 27 + (shipL (g 141) i).length := by rw [e2, sayL_n]
          rw [sayL_app, List.length_append, ← e2] at kk
          rw [← e2]
          refine a_iiR1 (by omega) rfl rfl dX9_writeShips_143 ?_
          refine aw_goto 12 dX9_writeShips_146 (by decide) ?_
          refine ws12 m (i + 1) g2 w (by rw [r2]; omega) (by omega) (by rw [r2]; exact hn) (by omega) (by rw [r2]; exact ho) hw2 ?_
          rw [r2, decide_eq_true (show 0 < g2 140 27 by omega), show g2 140 27 + ((txtF (g 141) m (i + 1) true).length : Int) = g1 140 27 + (((shipL (g 141) i).length + (txtF (g 141) m (i + 1) true).length : Nat) : Int) by omega]
          exact kk
        refine am_ci ?_
        refine aw_if_ne_y 33 dX9_writeShips_27 (by decide) (by decide) ?_
        refine a_al0 (by decide) dX9_writeShips_33 ?_
        refine aw_get 27 dX9_writeShips_34 fl_X9_347 at_140 rfl ?_
        refine aw_if_le 46 dX9_writeShips_37 (by decide) (fun c37 => ?_) (fun c37 => ?_)
        · skip
          refine J g v rfl (by omega) hv ?_
          rw [decide_eq_false (show ¬ 0 < g 140 27 by omega)] at k
          exact k
        · rw [decide_eq_true (show 0 < g 140 27 by omega)] at k
          refine a_al0 (by decide) dX9_writeShips_40 ?_
          refine aw_bipush dX9_writeShips_41 (by decide) ?_
          refine aw_callV 1 0 0 dX9_writeShips_43 yw_X9_says ml_X9_353 in_X9_says se_X9_says (ci := 8) rfl at_140 (as := [_]) rfl rfl ⟨by decide, by decide, by decide, Nat.le_of_ble_eq_true rfl⟩ ?_
          refine ac_says (by omega) ?_
          refine am_cv ?_
          refine J (say g 32) v (sayL_row g [32]) (by rw [say_n]; omega) hv ?_
          have e9 : ∀ l : List Int, (((if true = true then [32] else []) ++ shipL (g 141) i) ++ l : List Int) = [32] ++ (shipL (g 141) i ++ l) := fun l => by
            rw [if_pos rfl, List.append_assoc]
          rw [e9, sayL_app, List.length_append] at k
          rw [say_n]
          rw [show g 140 27 + 1 + ((shipL (g 141) i ++ txtF (g 141) m (i + 1) true).length : Int) = g 140 27 + (([32] : List Int).length + (shipL (g 141) i ++ txtF (g 141) m (i + 1) true).length : Nat) by show _ = g 140 27 + ((1 + _ : Nat) : Int); omega]
          exact k
      · rw [e, if_neg q] at k
        refine am_ci ?_
        refine aw_if_ne_n 33 dX9_writeShips_27 (by decide) (by decide) ?_
        refine aw_goto 143 dX9_writeShips_30 (by decide) ?_
        refine a_iiR1 (by omega) rfl rfl dX9_writeShips_143 ?_
        refine aw_goto 12 dX9_writeShips_146 (by decide) ?_
        exact ws12 m (i + 1) g v (by omega) (by omega) hn (by omega) ho hv k
theorem ac_writeShips {h : AH} {K : AO → Nat → AH → Prop} (hn : 0 ≤ h 141 3 ∧ h 141 3 ≤ 12) (ho : ∀ j, 0 ≤ j → j < h 141 3 → h 141 (46 + 25 * j + 10) = -1 → wsOk (h 141) j) (k : K (.inl (some (0, (txtF (h 141) (h 141 3).toNat 0 false).length))) 159 (sayL (up (up h 140 7 0) 140 27 0) (txtF (h 141) (h 141 3).toNat 0 false))) : AC mX9_writeShips 4 0 0 159 [(2, 140)] h K := by
  have r : up (up h 140 7 0) 140 27 0 141 = h 141 := by
    funext x
    rw [up_ne (by omega), up_ne (by omega)]
  have c : up (up h 140 7 0) 140 27 0 140 27 = 0 := up_at _ _ _ _
  refine ac_of (ls := [(2, 140), (9, 0), (9, 0)]) pn_X9 rfl (Nat.le_of_ble_eq_true rfl) rfl ?_
  refine a_al0 (by decide) dX9_writeShips_0 ?_
  refine aw_iconst dX9_writeShips_1 (by decide) ?_
  refine aw_put 7 dX9_writeShips_2 fp_X9_66 at_140 rfl ?_
  refine a_al0 (by decide) dX9_writeShips_5 ?_
  refine aw_iconst dX9_writeShips_6 (by decide) ?_
  refine aw_put 27 dX9_writeShips_7 fp_X9_347 at_140 rfl ?_
  refine aw_iconst dX9_writeShips_10 (by decide) ?_
  refine a_is1 rfl rfl dX9_writeShips_11 ?_
  refine ws12 (h 141 3).toNat 0 _ (9, 0) (by rw [r]; omega) (by omega) (by rw [r]; omega) (by rw [c]; decide) (by rw [r]; exact ho) rfl ?_
  rw [r, c, decide_eq_false (by decide), Int.zero_add]
  exact k
