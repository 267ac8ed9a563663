/-! reading: where tokens lie -/
def rnF (P : Int → Bool) : Nat → Int → Int
  | 0, p => p
  | n + 1, p => if P p = true then rnF P n (p + 1) else p
theorem rnF_eq (P : Int → Bool) : ∀ (n : Nat) (p q : Int), p ≤ q → q - p ≤ n → (∀ j, p ≤ j → j < q → P j = true) → P q = false → rnF P n p = q
  | 0, p, q, h1, h2, h3, h4 => by show p = q; omega
  | n + 1, p, q, h1, h2, h3, h4 => by
    show (if P p = true then rnF P n (p + 1) else p) = q
    by_cases e : p = q
    · subst e
      rw [h4]
      rfl
    · rw [if_pos (h3 p (by omega) (by omega))]
      exact rnF_eq P n (p + 1) q (by omega) (by omega) (fun j a b => h3 j (by omega) b) h4
theorem rnF_sp (P : Int → Bool) {L : Int} (hL : ∀ k, L ≤ k → P k = false) : ∀ (n : Nat) (p : Int), p ≤ L → L - p ≤ n → p ≤ rnF P n p ∧ rnF P n p ≤ L ∧ P (rnF P n p) = false ∧ ∀ j, p ≤ j → j < rnF P n p → P j = true
  | 0, p, h1, h2 => by
    show p ≤ p ∧ p ≤ L ∧ P p = false ∧ ∀ j, p ≤ j → j < p → P j = true
    exact ⟨by omega, h1, hL p (by omega), fun j a b => by omega⟩
  | n + 1, p, h1, h2 => by
    show p ≤ (if P p = true then rnF P n (p + 1) else p) ∧ (if P p = true then rnF P n (p + 1) else p) ≤ L ∧ P (if P p = true then rnF P n (p + 1) else p) = false ∧ ∀ j, p ≤ j → j < (if P p = true then rnF P n (p + 1) else p) → P j = true
    by_cases e : P p = true
    · have hpL : p < L := by
        by_cases q : p < L
        · exact q
        · rw [hL p (by omega)] at e; cases e
      rw [if_pos e]
      obtain ⟨a, b, c, d⟩ := rnF_sp P hL n (p + 1) (by omega) (by omega)
      refine ⟨by omega, b, c, fun j x y => ?_⟩
      by_cases z : j = p
      · rw [z]; exact e
      · exact d j (by omega) y
    · rw [if_neg e]
      exact ⟨by omega, h1, Bool.eq_false_iff.mpr e, fun j x y => by omega⟩
def isSp (S : Int → Int) (k : Int) : Bool := decide (S k = 32)
def isLe (S : Int → Int) (k : Int) : Bool := decide (97 ≤ S k ∧ S k ≤ 122)
def isDi (S : Int → Int) (k : Int) : Bool := decide (48 ≤ S k ∧ S k ≤ 57)
def aP (S : Int → Int) (p : Int) : Int := rnF (isSp S) 700 p
def bP (S : Int → Int) (p : Int) : Int := if S (aP S p) = -1 then aP S p else if isLe S (aP S p) = true then rnF (isLe S) 700 (aP S p) else if isDi S (aP S p) = true then rnF (isDi S) 700 (aP S p) else aP S p + 1
def kP (S : Int → Int) (p : Int) : Int := if S (aP S p) = -1 then 3 else if isLe S (aP S p) = true then 0 else if isDi S (aP S p) = true then 1 else 2
def dvF (cap : Int) (S : Int → Int) (a : Int) : Nat → Int
  | 0 => 0
  | n + 1 => mn cap (10 * dvF cap S a n + S (a + n) - 48)
def nP (S : Int → Int) (p : Int) : Int := if kP S p = 1 then dvF 10000 S (aP S p) (bP S p - aP S p).toNat else 0
def TxS (S : Int → Int) (L : Int) : Prop := (0 ≤ L ∧ L ≤ 600) ∧ (∀ k, 0 ≤ k → k < L → 1 ≤ S k ∧ S k ≤ 255) ∧ ∀ k, L ≤ k → S k = -1
def Tx (S : Int → Int) (L : Int) (h : AH) : Prop := h 140 9 = L ∧ ∀ k, 0 ≤ k → k < L → h 147 k = S k
theorem isSp_L {S : Int → Int} {L : Int} (hT : TxS S L) : ∀ k, L ≤ k → isSp S k = false := fun k hk => by unfold isSp; rw [hT.2.2 k hk]; rfl
theorem isLe_L {S : Int → Int} {L : Int} (hT : TxS S L) : ∀ k, L ≤ k → isLe S k = false := fun k hk => by unfold isLe; rw [hT.2.2 k hk]; rfl
theorem isDi_L {S : Int → Int} {L : Int} (hT : TxS S L) : ∀ k, L ≤ k → isDi S k = false := fun k hk => by unfold isDi; rw [hT.2.2 k hk]; rfl
theorem end_iff {S : Int → Int} {L k : Int} (hT : TxS S L) (hk : 0 ≤ k) : S k = -1 ↔ L ≤ k := by
  constructor
  · intro e
    by_cases q : L ≤ k
    · exact q
    · have := hT.2.1 k hk (by omega)
      omega
  · exact hT.2.2 k
theorem aP_rg {S : Int → Int} {L p : Int} (hT : TxS S L) (hp : 0 ≤ p ∧ p ≤ L) : p ≤ aP S p ∧ aP S p ≤ L ∧ isSp S (aP S p) = false ∧ ∀ j, p ≤ j → j < aP S p → isSp S j = true := rnF_sp _ (isSp_L hT) 700 p hp.2 (by have := hT.1; omega)
theorem bP_rg {S : Int → Int} {L p : Int} (hT : TxS S L) (hp : 0 ≤ p ∧ p ≤ L) : aP S p ≤ bP S p ∧ bP S p ≤ L := by
  obtain ⟨a1, a2, a3, a4⟩ := aP_rg hT hp
  have h1 := rnF_sp _ (isLe_L hT) 700 (aP S p) a2 (by have := hT.1; omega)
  have h2 := rnF_sp _ (isDi_L hT) 700 (aP S p) a2 (by have := hT.1; omega)
  have h3 := end_iff hT (k := aP S p) (by omega)
  unfold bP
  split
  · exact ⟨by omega, a2⟩
  · split
    · exact ⟨h1.1, h1.2.1⟩
    · split
      · exact ⟨h2.1, h2.2.1⟩
      · constructor <;> omega
theorem dvF_rg {S : Int → Int} {a : Int} {cap : Int} (hc : 0 ≤ cap) : ∀ n : Nat, (∀ j : Int, a ≤ j → j < a + n → isDi S j = true) → 0 ≤ dvF cap S a n ∧ dvF cap S a n ≤ cap
  | 0, _ => ⟨Int.le_refl _, hc⟩
  | n + 1, h => by
    have ih := dvF_rg hc n (fun j x y => h j x (by omega))
    have h9 := h (a + n) (by omega) (by omega)
    unfold isDi at h9
    have h8 := of_decide_eq_true h9
    show 0 ≤ mn cap (10 * dvF cap S a n + S (a + n) - 48) ∧ mn cap (10 * dvF cap S a n + S (a + n) - 48) ≤ cap
    unfold mn
    split <;> omega
theorem dvF_s {S : Int → Int} {a cap j : Int} (hj : a ≤ j) : dvF cap S a (j + 1 - a).toNat = mn cap (10 * dvF cap S a (j - a).toNat + S j - 48) := by
  rw [show (j + 1 - a).toNat = (j - a).toNat + 1 by omega]
  show mn cap (10 * dvF cap S a (j - a).toNat + S (a + ((j - a).toNat : Nat)) - 48) = _
  rw [show a + (((j - a).toNat : Nat) : Int) = j by omega]
theorem ac_see {S : Int → Int} {L k : Int} {h : AH} {K : AO → Nat → AH → Prop} (hT : TxS S L) (hx : Tx S L h) (hk : 0 ≤ k) (kk : K (.inl (some (0, S k))) 159 h) : AC mX9_see 1 0 0 159 [(2, 140), (0, k)] h K := by
  obtain ⟨⟨l0, l1⟩, t1, t2⟩ := hT
  obtain ⟨x1, x2⟩ := hx
  refine ac_of (ls := [(2, 140), (0, k)]) pn_X9 rfl (Nat.le_of_ble_eq_true rfl) rfl ?_
  refine a_il1 dX9_see_0 ?_
  refine a_al0 (by decide) dX9_see_1 ?_
  refine aw_get 9 dX9_see_2 fl_X9_88 at_140 rfl ?_
  refine aw_icmp_ge 17 dX9_see_5 (by decide) (fun c5 => ?_) (fun c5 => ?_)
  · rw [t2 k (by omega)] at kk
    refine aw_iconst dX9_see_17 (by decide) ?_
    refine aw_iret dX9_see_18 rfl ?_
    exact kk
  · rw [← x2 k hk (by omega)] at kk
    refine a_al0 (by decide) dX9_see_8 ?_
    refine aw_getR (r := 147) 8 rfl dX9_see_9 fl_X9_29 at_140 rfl rfl ?_
    refine a_il1 dX9_see_12 ?_
    refine aw_iald dX9_see_13 ar_147 (by omega) ?_
    refine aw_goto 18 dX9_see_14 (by decide) ?_
    refine aw_iret dX9_see_18 rfl ?_
    exact kk
theorem ac_isLetter {S : Int → Int} {L k : Int} {h : AH} {K : AO → Nat → AH → Prop} (hT : TxS S L) (hx : Tx S L h) (hk : 0 ≤ k) (k1 : isLe S k = true → K (.inl (some (0, 1))) 159 h) (k0 : isLe S k = false → K (.inl (some (0, 0))) 159 h) : AC mX9_isLetter 2 0 0 159 [(2, 140), (0, k)] h K := by
  refine ac_of (ls := [(2, 140), (0, k)]) pn_X9 rfl (Nat.le_of_ble_eq_true rfl) rfl ?_
  refine a_al0 (by decide) dX9_isLetter_0 ?_
  refine a_il1 dX9_isLetter_1 ?_
  refine aw_callV 1 0 0 dX9_isLetter_2 yw_X9_see ml_X9_91 in_X9_see se_X9_see (ci := 8) rfl at_140 (as := [_]) rfl rfl ⟨by decide, by decide, by decide, Nat.le_of_ble_eq_true rfl⟩ ?_
  refine ac_see hT hx hk ?_
  refine am_ci ?_
  refine aw_bipush dX9_isLetter_5 (by decide) ?_
  refine aw_bipush dX9_isLetter_7 (by decide) ?_
  refine aw_callS 1 0 0 dX9_isLetter_9 yw_X9_isIn ml_X9_76 sm_X9_isIn (as := [_, _, _]) rfl rfl ⟨by decide, by decide, by decide, Nat.le_of_ble_eq_true rfl⟩ ?_
  refine ac_isIn (fun q => ?_) (fun q => ?_)
  · refine am_ci ?_
    refine aw_zret dX9_isLetter_12 rfl (by omega) ?_
    exact k1 (decide_eq_true q)
  · refine am_ci ?_
    refine aw_zret dX9_isLetter_12 rfl (by omega) ?_
    exact k0 (decide_eq_false q)
theorem ac_isDigit {S : Int → Int} {L k : Int} {h : AH} {K : AO → Nat → AH → Prop} (hT : TxS S L) (hx : Tx S L h) (hk : 0 ≤ k) (k1 : isDi S k = true → K (.inl (some (0, 1))) 159 h) (k0 : isDi S k = false → K (.inl (some (0, 0))) 159 h) : AC mX9_isDigit 2 0 0 159 [(2, 140), (0, k)] h K := by
  refine ac_of (ls := [(2, 140), (0, k)]) pn_X9 rfl (Nat.le_of_ble_eq_true rfl) rfl ?_
  refine a_al0 (by decide) dX9_isDigit_0 ?_
  refine a_il1 dX9_isDigit_1 ?_
  refine aw_callV 1 0 0 dX9_isDigit_2 yw_X9_see ml_X9_91 in_X9_see se_X9_see (ci := 8) rfl at_140 (as := [_]) rfl rfl ⟨by decide, by decide, by decide, Nat.le_of_ble_eq_true rfl⟩ ?_
  refine ac_see hT hx hk ?_
  refine am_ci ?_
  refine aw_bipush dX9_isDigit_5 (by decide) ?_
  refine aw_bipush dX9_isDigit_7 (by decide) ?_
  refine aw_callS 1 0 0 dX9_isDigit_9 yw_X9_isIn ml_X9_76 sm_X9_isIn (as := [_, _, _]) rfl rfl ⟨by decide, by decide, by decide, Nat.le_of_ble_eq_true rfl⟩ ?_
  refine ac_isIn (fun q => ?_) (fun q => ?_)
  · refine am_ci ?_
    refine aw_zret dX9_isDigit_12 rfl (by omega) ?_
    exact k1 (decide_eq_true q)
  · refine am_ci ?_
    refine aw_zret dX9_isDigit_12 rfl (by omega) ?_
    exact k0 (decide_eq_false q)
def TF (h g : AH) : Prop := ∀ k x, ¬ (k = 140 ∧ 10 ≤ x ∧ x ≤ 13) → g k x = h k x
def At (S : Int → Int) (p : Int) (h : AH) : Prop := h 140 10 = aP S p ∧ h 140 11 = bP S p ∧ h 140 12 = kP S p ∧ h 140 13 = nP S p
theorem TF_refl (h : AH) : TF h h := fun _ _ _ => rfl
theorem TF_up {h g : AH} {f v : Int} (hf : 10 ≤ f ∧ f ≤ 13) (p : TF h g) : TF h (up g 140 f v) := fun k x a => by rw [up_ne (by omega), p k x a]
theorem Tx_TF {S : Int → Int} {L : Int} {h g : AH} (p : TF h g) (hx : Tx S L h) : Tx S L g := ⟨by rw [p _ _ (by omega)]; exact hx.1, fun k a b => by rw [p _ _ (by omega)]; exact hx.2 k a b⟩
theorem nx_di {S : Int → Int} {L p : Int} {h g : AH} {K : AO → Nat → AH → Prop} (hT : TxS S L) (hx : Tx S L h) (hp : 0 ≤ p ∧ p ≤ L) (hTF : TF h g) (h10 : g 140 10 = aP S p) (h11 : g 140 11 = aP S p) (h13 : g 140 13 = 0) (hk1 : kP S p = 1) (hd : isDi S (aP S p) = true) (hb : bP S p = rnF (isDi S) 700 (aP S p)) (kk : ∀ h', TF h h' → At S p h' → K (.inl none) 159 h') : AW mX9_next 3 0 0 K 159 120 [(2, 140)] [] g := by
  obtain ⟨a1, a2, a3, a4⟩ := aP_rg hT hp
  obtain ⟨b1, b2⟩ := bP_rg hT hp
  have hLL := hT.1
  refine aw_loop (fun q : Int × AH => aP S p ≤ q.1 ∧ q.1 ≤ L ∧ TF h q.2 ∧ q.2 140 10 = aP S p ∧ q.2 140 11 = q.1 ∧ q.2 140 13 = dvF 10000 S (aP S p) (q.1 - aP S p).toNat ∧ ∀ j, aP S p ≤ j → j < q.1 → isDi S j = true) (fun q => (L - q.1).toNat) (fun q => AW mX9_next 3 0 0 K 159 120 [(2, 140)] [] q.2) (fun q hq ih => ?_) (aP S p, g) ⟨by dsimp only; omega, a2, hTF, h10, h11, by dsimp only; rw [h13, Int.sub_self]; rfl, fun j x y => by dsimp only at y; omega⟩
  obtain ⟨q, g1⟩ := q
  obtain ⟨q1, q2, pf, e10, e11, e13, ed⟩ := hq
  dsimp only at q1 q2 pf e10 e11 e13 ed ih ⊢
  refine a_al0 (by decide) dX9_next_120 ?_
  refine a_al0 (by decide) dX9_next_121 ?_
  refine aw_get 11 dX9_next_122 fl_X9_95 at_140 rfl ?_
  refine aw_callV 2 0 0 dX9_next_125 yw_X9_isDigit ml_X9_111 in_X9_isDigit se_X9_isDigit (ci := 8) rfl at_140 (as := [_]) rfl rfl ⟨by decide, by decide, by decide, Nat.le_of_ble_eq_true rfl⟩ ?_
  rw [e11]
  refine ac_isDigit hT (Tx_TF pf hx) (by omega) (fun c => ?_) (fun c => ?_)
  · have hdr := dvF_rg (cap := 10000) (S := S) (a := aP S p) (by decide) (q - aP S p).toNat (fun j x y => ed j x (by omega))
    have hc := of_decide_eq_true c
    have hqL : q < L := by
      by_cases z : q < L
      · exact z
      · have := isDi_L hT q (by omega)
        rw [this] at c; cases c
    refine am_ci ?_
    refine aw_if_eq_n 173 dX9_next_128 (by decide) (by decide) ?_
    refine a_al0 (by decide) dX9_next_131 ?_
    refine aw_sipush dX9_next_132 (by decide) ?_
    refine aw_bipush dX9_next_135 (by decide) ?_
    refine a_al0 (by decide) dX9_next_137 ?_
    refine aw_get 13 dX9_next_138 fl_X9_101 at_140 rfl ?_
    refine aw_imulR (by omega) dX9_next_141 ?_
    refine a_al0 (by decide) dX9_next_142 ?_
    refine a_al0 (by decide) dX9_next_143 ?_
    refine aw_get 11 dX9_next_144 fl_X9_95 at_140 rfl ?_
    refine aw_callV 1 0 0 dX9_next_147 yw_X9_see ml_X9_91 in_X9_see se_X9_see (ci := 8) rfl at_140 (as := [_]) rfl rfl ⟨by decide, by decide, by decide, Nat.le_of_ble_eq_true rfl⟩ ?_
    rw [e11, e13]
    refine ac_see hT (Tx_TF pf hx) (by omega) ?_
    refine am_ci ?_
    refine aw_iaddR (by omega) dX9_next_150 ?_
    refine aw_bipush dX9_next_151 (by decide) ?_
    refine aw_isubR (by omega) dX9_next_153 ?_
    refine aw_mmin dX9_next_154 ⟨ml_X9_114, mw_min⟩ ⟨by decide, Nat.le_of_ble_eq_true rfl⟩ ?_
    rw [show (if 10 * dvF 10000 S (aP S p) (q - aP S p).toNat + S q - 48 < 10000 then 10 * dvF 10000 S (aP S p) (q - aP S p).toNat + S q - 48 else 10000) = dvF 10000 S (aP S p) (q + 1 - aP S p).toNat from (dvF_s q1).symm]
    refine aw_put 13 dX9_next_157 fp_X9_101 at_140 rfl ?_
    refine a_al0 (by decide) dX9_next_160 ?_
    refine aw_dup dX9_next_161 rfl ?_
    refine aw_get 11 dX9_next_162 fl_X9_95 at_140 rfl ?_
    try simp (disch := omega) only [up_at, up_ne]
    refine aw_iconst dX9_next_165 (by decide) ?_
    refine aw_iaddR (by omega) dX9_next_166 ?_
    refine aw_put 11 dX9_next_167 fp_X9_95 at_140 rfl ?_
    refine aw_goto 120 dX9_next_170 (by decide) ?_
    rw [e11]
    refine ih (q + 1, up (up g1 140 13 (dvF 10000 S (aP S p) (q + 1 - aP S p).toNat)) 140 11 (q + 1)) ⟨by dsimp only; omega, by dsimp only; omega, TF_up (by decide) (TF_up (by decide) pf), ?_, ?_, ?_, fun j x y => ?_⟩ (by dsimp only; omega)
    · show up (up g1 140 13 (dvF 10000 S (aP S p) (q + 1 - aP S p).toNat)) 140 11 (q + 1) 140 10 = _
      rw [up_ne (by omega), up_ne (by omega), e10]
    · show up (up g1 140 13 (dvF 10000 S (aP S p) (q + 1 - aP S p).toNat)) 140 11 (q + 1) 140 11 = _
      rw [up_at]
    · show up (up g1 140 13 (dvF 10000 S (aP S p) (q + 1 - aP S p).toNat)) 140 11 (q + 1) 140 13 = _
      rw [up_ne (by omega), up_at]
    · dsimp only at y
      by_cases z : j = q
      · rw [z]; exact c
      · exact ed j x (by omega)
  · have hq9 : bP S p = q := by
      rw [hb]
      exact rnF_eq _ 700 _ _ q1 (by omega) ed c
    refine am_ci ?_
    refine aw_if_eq_y 173 dX9_next_128 (by decide) (by decide) ?_
    refine a_al0 (by decide) dX9_next_173 ?_
    refine aw_iconst dX9_next_174 (by decide) ?_
    refine aw_put 12 dX9_next_175 fp_X9_104 at_140 rfl ?_
    refine aw_goto 196 dX9_next_178 (by decide) ?_
    refine aw_vret dX9_next_196 rfl ?_
    refine kk _ (TF_up (by decide) pf) ⟨?_, ?_, ?_, ?_⟩
    · rw [up_ne (by omega), e10]
    · rw [up_ne (by omega), e11, hq9]
    · rw [up_at, hk1]
    · rw [up_ne (by omega), e13]
      unfold nP
      rw [if_pos hk1, hq9]
theorem nx_le {S : Int → Int} {L p : Int} {h g : AH} {K : AO → Nat → AH → Prop} (hT : TxS S L) (hx : Tx S L h) (hp : 0 ≤ p ∧ p ≤ L) (hTF : TF h g) (h10 : g 140 10 = aP S p) (h11 : g 140 11 = aP S p) (h13 : g 140 13 = 0) (hk1 : kP S p = 0) (hb : bP S p = rnF (isLe S) 700 (aP S p)) (kk : ∀ h', TF h h' → At S p h' → K (.inl none) 159 h') : AW mX9_next 3 0 0 K 159 77 [(2, 140)] [] g := by
  obtain ⟨a1, a2, a3, a4⟩ := aP_rg hT hp
  have hLL := hT.1
  refine aw_loop (fun q : Int × AH => aP S p ≤ q.1 ∧ q.1 ≤ L ∧ TF h q.2 ∧ q.2 140 10 = aP S p ∧ q.2 140 11 = q.1 ∧ q.2 140 13 = 0 ∧ ∀ j, aP S p ≤ j → j < q.1 → isLe S j = true) (fun q => (L - q.1).toNat) (fun q => AW mX9_next 3 0 0 K 159 77 [(2, 140)] [] q.2) (fun q hq ih => ?_) (aP S p, g) ⟨by dsimp only; omega, a2, hTF, h10, h11, h13, fun j x y => by dsimp only at y; omega⟩
  obtain ⟨q, g1⟩ := q
  obtain ⟨q1, q2, pf, e10, e11, e13, ed⟩ := hq
  dsimp only at q1 q2 pf e10 e11 e13 ed ih ⊢
  refine a_al0 (by decide) dX9_next_77 ?_
  refine a_al0 (by decide) dX9_next_78 ?_
  refine aw_get 11 dX9_next_79 fl_X9_95 at_140 rfl ?_
  refine aw_callV 2 0 0 dX9_next_82 yw_X9_isLetter ml_X9_107 in_X9_isLetter se_X9_isLetter (ci := 8) rfl at_140 (as := [_]) rfl rfl ⟨by decide, by decide, by decide, Nat.le_of_ble_eq_true rfl⟩ ?_
  rw [e11]
  refine ac_isLetter hT (Tx_TF pf hx) (by omega) (fun c => ?_) (fun c => ?_)
  · have hqL : q < L := by
      by_cases z : q < L
      · exact z
      · have := isLe_L hT q (by omega)
        rw [this] at c; cases c
    refine am_ci ?_
    refine aw_if_eq_n 101 dX9_next_85 (by decide) (by decide) ?_
    refine a_al0 (by decide) dX9_next_88 ?_
    refine aw_dup dX9_next_89 rfl ?_
    refine aw_get 11 dX9_next_90 fl_X9_95 at_140 rfl ?_
    refine aw_iconst dX9_next_93 (by decide) ?_
    refine aw_iaddR (by omega) dX9_next_94 ?_
    refine aw_put 11 dX9_next_95 fp_X9_95 at_140 rfl ?_
    refine aw_goto 77 dX9_next_98 (by decide) ?_
    rw [e11]
    refine ih (q + 1, up g1 140 11 (q + 1)) ⟨by dsimp only; omega, by dsimp only; omega, TF_up (by decide) pf, ?_, ?_, ?_, fun j x y => ?_⟩ (by dsimp only; omega)
    · show up g1 140 11 (q + 1) 140 10 = _
      rw [up_ne (by omega), e10]
    · show up g1 140 11 (q + 1) 140 11 = _
      rw [up_at]
    · show up g1 140 11 (q + 1) 140 13 = _
      rw [up_ne (by omega), e13]
    · dsimp only at y
      by_cases z : j = q
      · rw [z]; exact c
      · exact ed j x (by omega)
  · have hq9 : bP S p = q := by
      rw [hb]
      exact rnF_eq _ 700 _ _ q1 (by omega) ed c
    refine am_ci ?_
    refine aw_if_eq_y 101 dX9_next_85 (by decide) (by decide) ?_
    refine a_al0 (by decide) dX9_next_101 ?_
    refine aw_iconst dX9_next_102 (by decide) ?_
    refine aw_put 12 dX9_next_103 fp_X9_104 at_140 rfl ?_
    refine aw_goto 196 dX9_next_106 (by decide) ?_
    refine aw_vret dX9_next_196 rfl ?_
    refine kk _ (TF_up (by decide) pf) ⟨?_, ?_, ?_, ?_⟩
    · rw [up_ne (by omega), e10]
    · rw [up_ne (by omega), e11, hq9]
    · rw [up_at, hk1]
    · rw [up_ne (by omega), e13]
      unfold nP
      rw [if_neg (by omega)]
theorem ac_next {S : Int → Int} {L p : Int} {h : AH} {K : AO → Nat → AH → Prop} (hT : TxS S L) (hx : Tx S L h) (hp : 0 ≤ p ∧ p ≤ L) (h11 : h 140 11 = p) (kk : ∀ h', TF h h' → At S p h' → K (.inl none) 159 h') : AC mX9_next 3 0 0 159 [(2, 140)] h K := by
  obtain ⟨a1, a2, a3, a4⟩ := aP_rg hT hp
  have hLL := hT.1
  have hE := end_iff hT (k := aP S p) (by omega)
  refine ac_of (ls := [(2, 140)]) pn_X9 rfl (Nat.le_of_ble_eq_true rfl) rfl ?_
  refine a_al0 (by decide) dX9_next_0 ?_
  refine a_al0 (by decide) dX9_next_1 ?_
  refine aw_get 11 dX9_next_2 fl_X9_95 at_140 rfl ?_
  refine aw_put 10 dX9_next_5 fp_X9_98 at_140 rfl ?_
  rw [h11]
  refine aw_loop (fun q : Int × AH => p ≤ q.1 ∧ q.1 ≤ L ∧ TF h q.2 ∧ q.2 140 10 = q.1 ∧ ∀ j, p ≤ j → j < q.1 → isSp S j = true) (fun q => (L - q.1).toNat) (fun q => AW mX9_next 3 0 0 K 159 8 [(2, 140)] [] q.2) (fun q hq ih => ?_) (p, up h 140 10 p) ⟨by dsimp only; omega, hp.2, TF_up (by decide) (TF_refl h), (show up h 140 10 p 140 10 = p from up_at _ _ _ _), fun j x y => by dsimp only at y; omega⟩
  obtain ⟨q, g⟩ := q
  obtain ⟨q1, q2, pf, e10, ed⟩ := hq
  dsimp only at q1 q2 pf e10 ed ih ⊢
  refine a_al0 (by decide) dX9_next_8 ?_
  refine a_al0 (by decide) dX9_next_9 ?_
  refine aw_get 10 dX9_next_10 fl_X9_98 at_140 rfl ?_
  refine aw_callV 1 0 0 dX9_next_13 yw_X9_see ml_X9_91 in_X9_see se_X9_see (ci := 8) rfl at_140 (as := [_]) rfl rfl ⟨by decide, by decide, by decide, Nat.le_of_ble_eq_true rfl⟩ ?_
  rw [e10]
  refine ac_see hT (Tx_TF pf hx) (by omega) ?_
  refine am_ci ?_
  refine aw_bipush dX9_next_16 (by decide) ?_
  refine aw_icmp_ne 34 dX9_next_18 (by decide) (fun c18 => ?_) (fun c18 => ?_)
  · have c : isSp S q = false := decide_eq_false (by assumption)
    have eq9 : aP S p = q := rnF_eq _ 700 _ _ q1 (by omega) ed c
    have e9 : g 140 9 = L := (Tx_TF pf hx).1
    rw [eq9] at hE
    have e10' : g 140 10 = aP S p := by rw [e10, eq9]
    refine a_al0 (by decide) dX9_next_34 ?_
    refine a_al0 (by decide) dX9_next_35 ?_
    refine aw_get 10 dX9_next_36 fl_X9_98 at_140 rfl ?_
    refine aw_put 11 dX9_next_39 fp_X9_95 at_140 rfl ?_
    refine a_al0 (by decide) dX9_next_42 ?_
    refine aw_iconst dX9_next_43 (by decide) ?_
    refine aw_put 13 dX9_next_44 fp_X9_101 at_140 rfl ?_
    refine a_al0 (by decide) dX9_next_47 ?_
    refine aw_get 10 dX9_next_48 fl_X9_98 at_140 rfl ?_
    try simp (disch := omega) only [up_at, up_ne]
    refine a_al0 (by decide) dX9_next_51 ?_
    refine aw_get 9 dX9_next_52 fl_X9_88 at_140 rfl ?_
    try simp (disch := omega) only [up_at, up_ne]
    refine aw_icmp_lt 66 dX9_next_55 (by decide) (fun c55 => ?_) (fun c55 => ?_)
    · have hqL : q < L := by omega
      have hE2 : ¬ S (aP S p) = -1 := by rw [eq9]; exact fun x => by have := hE.mp x; omega
      refine a_al0 (by decide) dX9_next_66 ?_
      refine a_al0 (by decide) dX9_next_67 ?_
      refine aw_get 10 dX9_next_68 fl_X9_98 at_140 rfl ?_
      try simp (disch := omega) only [up_at, up_ne]
      refine aw_callV 2 0 0 dX9_next_71 yw_X9_isLetter ml_X9_107 in_X9_isLetter se_X9_isLetter (ci := 8) rfl at_140 (as := [_]) rfl rfl ⟨by decide, by decide, by decide, Nat.le_of_ble_eq_true rfl⟩ ?_
      rw [e10]
      refine ac_isLetter hT (Tx_TF (TF_up (by decide) (TF_up (by decide) pf)) hx) (by omega) (fun c2 => ?_) (fun c2 => ?_)
      · have hk1 : kP S p = 0 := by unfold kP; rw [if_neg hE2, eq9, if_pos c2]
        have hb : bP S p = rnF (isLe S) 700 (aP S p) := by unfold bP; rw [if_neg hE2, eq9, if_pos c2]
        refine am_ci ?_
        refine aw_if_eq_n 109 dX9_next_74 (by decide) (by decide) ?_
        refine nx_le hT hx hp (TF_up (by decide) (TF_up (by decide) pf)) ?_ ?_ (up_at _ _ _ _) hk1 hb kk
        · rw [up_ne (by omega), up_ne (by omega), e10']
        · rw [up_ne (by omega), up_at, eq9]
      · refine am_ci ?_
        refine aw_if_eq_y 109 dX9_next_74 (by decide) (by decide) ?_
        refine a_al0 (by decide) dX9_next_109 ?_
        refine a_al0 (by decide) dX9_next_110 ?_
        refine aw_get 10 dX9_next_111 fl_X9_98 at_140 rfl ?_
        try simp (disch := omega) only [up_at, up_ne]
        refine aw_callV 2 0 0 dX9_next_114 yw_X9_isDigit ml_X9_111 in_X9_isDigit se_X9_isDigit (ci := 8) rfl at_140 (as := [_]) rfl rfl ⟨by decide, by decide, by decide, Nat.le_of_ble_eq_true rfl⟩ ?_
        rw [e10]
        have nl : ¬ isLe S q = true := by rw [c2]; decide
        refine ac_isDigit hT (Tx_TF (TF_up (by decide) (TF_up (by decide) pf)) hx) (by omega) (fun c3 => ?_) (fun c3 => ?_)
        · have hk1 : kP S p = 1 := by unfold kP; rw [if_neg hE2, eq9, if_neg nl, if_pos c3]
          have hb : bP S p = rnF (isDi S) 700 (aP S p) := by unfold bP; rw [if_neg hE2, eq9, if_neg nl, if_pos c3]
          refine am_ci ?_
          refine aw_if_eq_n 181 dX9_next_117 (by decide) (by decide) ?_
          refine nx_di hT hx hp (TF_up (by decide) (TF_up (by decide) pf)) ?_ ?_ (up_at _ _ _ _) hk1 (by rw [eq9]; exact c3) hb kk
          · rw [up_ne (by omega), up_ne (by omega), e10']
          · rw [up_ne (by omega), up_at, eq9]
        · have nd : ¬ isDi S q = true := by rw [c3]; decide
          have hk1 : kP S p = 2 := by unfold kP; rw [if_neg hE2, eq9, if_neg nl, if_neg nd]
          have hb : bP S p = q + 1 := by unfold bP; rw [if_neg hE2, eq9, if_neg nl, if_neg nd]
          refine am_ci ?_
          refine aw_if_eq_y 181 dX9_next_117 (by decide) (by decide) ?_
          refine a_al0 (by decide) dX9_next_181 ?_
          refine aw_dup dX9_next_182 rfl ?_
          refine aw_get 11 dX9_next_183 fl_X9_95 at_140 rfl ?_
          try simp (disch := omega) only [up_at, up_ne]
          refine aw_iconst dX9_next_186 (by decide) ?_
          refine aw_iaddR (by omega) dX9_next_187 ?_
          refine aw_put 11 dX9_next_188 fp_X9_95 at_140 rfl ?_
          refine a_al0 (by decide) dX9_next_191 ?_
          refine aw_iconst dX9_next_192 (by decide) ?_
          refine aw_put 12 dX9_next_193 fp_X9_104 at_140 rfl ?_
          refine aw_vret dX9_next_196 rfl ?_
          refine kk _ (TF_up (by decide) (TF_up (by decide) (TF_up (by decide) (TF_up (by decide) pf)))) ⟨?_, ?_, ?_, ?_⟩
          · simp (disch := omega) only [up_at, up_ne]
            exact e10'
          · simp (disch := omega) only [up_at, up_ne]
            exact hb.symm
          · rw [up_at, hk1]
          · simp (disch := omega) only [up_at, up_ne]
            unfold nP
            rw [if_neg (by omega)]
    · have hqL : L ≤ q := by omega
      have hE2 : S (aP S p) = -1 := by rw [eq9]; exact hE.mpr hqL
      have hk1 : kP S p = 3 := by unfold kP; rw [if_pos hE2]
      have hb : bP S p = q := by unfold bP; rw [if_pos hE2, eq9]
      refine a_al0 (by decide) dX9_next_58 ?_
      refine aw_iconst dX9_next_59 (by decide) ?_
      refine aw_put 12 dX9_next_60 fp_X9_104 at_140 rfl ?_
      refine aw_goto 196 dX9_next_63 (by decide) ?_
      refine aw_vret dX9_next_196 rfl ?_
      rw [e10]
      refine kk _ (TF_up (by decide) (TF_up (by decide) (TF_up (by decide) pf))) ⟨?_, ?_, ?_, ?_⟩
      · simp (disch := omega) only [up_at, up_ne]
        exact e10'
      · simp (disch := omega) only [up_at, up_ne]
        exact hb.symm
      · rw [up_at, hk1]
      · simp (disch := omega) only [up_at, up_ne]
        unfold nP
        rw [if_neg (by omega)]
  · have hc : S q = 32 := by omega
    have hqL : q < L := by
      by_cases z : q < L
      · exact z
      · have := hT.2.2 q (by omega)
        omega
    refine a_al0 (by decide) dX9_next_21 ?_
    refine aw_dup dX9_next_22 rfl ?_
    refine aw_get 10 dX9_next_23 fl_X9_98 at_140 rfl ?_
    refine aw_iconst dX9_next_26 (by decide) ?_
    refine aw_iaddR (by omega) dX9_next_27 ?_
    refine aw_put 10 dX9_next_28 fp_X9_98 at_140 rfl ?_
    refine aw_goto 8 dX9_next_31 (by decide) ?_
    rw [e10]
    refine ih (q + 1, up g 140 10 (q + 1)) ⟨by dsimp only; omega, by dsimp only; omega, TF_up (by decide) pf, (show up g 140 10 (q + 1) 140 10 = q + 1 from up_at _ _ _ _), fun j x y => ?_⟩ (by dsimp only; omega)
    dsimp only at y
    by_cases z : j = q
    · rw [z]; exact decide_eq_true hc
    · exact ed j x (by omega)
