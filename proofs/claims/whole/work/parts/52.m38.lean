/-! reading: a whole sheet -/
theorem standV_rg {S : Int → Int} {lo hi : Int} {st : PS} (h : (standS S lo hi st).2.1 = 0) : lo ≤ standV S lo hi st ∧ standV S lo hi st ≤ hi := by
  unfold standV
  rw [if_pos h]
  unfold standS at h
  by_cases q : lo ≤ nP S st.1 ∧ nP S st.1 ≤ hi
  · exact q
  · rw [if_neg q] at h
    exact absurd h (failS_n (by decide))
theorem shftN_o {S : Int → Int} {x : Int} (hx : x < 9) : ∀ (n : Nat) (r : Int → Int) (st : PS), 0 ≤ r 9 → (shftN S n r st).1 x = r x := fun n => by
  induction n with
  | zero => intro r st _; rfl
  | succ n ih =>
    intro r st h9
    show (cif (wdS S st (wO 37)) (shftN S n (shftR S r st) (shft8 S r st)) (r, st)).1 x = r x
    by_cases q : wdS S st (wO 37)
    · rw [cif_pos q, ih]
      · unfold shftR shfR
        rw [upr_ne (by omega), upr_ne (by omega), upr_ne (by omega), upr_ne (by omega)]
      · unfold shftR shfR
        rw [upr_at]
        omega
    · rw [cif_neg q]
theorem onS_shftN {S : Int → Int} {L : Int} (hT : TxS S L) : ∀ (n : Nat) (r : Int → Int) (st : PS), 0 ≤ st.1 ∧ st.1 ≤ L → 0 ≤ (shftN S n r st).2.1 ∧ (shftN S n r st).2.1 ≤ L ∧ ((shftN S n r st).2.2.1 = 0 → st.2.1 = 0) := fun n => by
  induction n with
  | zero => intro r st h; exact ⟨h.1, h.2, fun x => x⟩
  | succ n ih =>
    intro r st h
    show 0 ≤ (cif (wdS S st (wO 37)) (shftN S n (shftR S r st) (shft8 S r st)) (r, st)).2.1 ∧ (cif (wdS S st (wO 37)) (shftN S n (shftR S r st) (shft8 S r st)) (r, st)).2.1 ≤ L ∧ ((cif (wdS S st (wO 37)) (shftN S n (shftR S r st) (shft8 S r st)) (r, st)).2.2.1 = 0 → st.2.1 = 0)
    by_cases q : wdS S st (wO 37)
    · rw [cif_pos q]
      have a : 0 ≤ (shft8 S r st).1 ∧ (shft8 S r st).1 ≤ L := by
        rcases onS_shft (r := r) hT h with x | x
        · exact onS_0 (onS_trans (onS_next hT h) x) h.1
        · exact ⟨x.2.1, x.2.2⟩
      obtain ⟨b, c, _⟩ := ih (shftR S r st) (shft8 S r st) a
      exact ⟨b, c, fun _ => q.1⟩
    · rw [cif_neg q]
      exact ⟨h.1, h.2, fun x => x⟩
noncomputable def ld1 (S : Int → Int) : PS := mustS S (cif (wdS S (0, 0, 0) (wO 35)) 1 0) (0, 0, 0)
noncomputable def ldA (S : Int → Int) (r : Int → Int) : (Int → Int) × PS := (upr (upr r 0 (standV S 4 30 (ld1 S))) 1 (standV S 4 30 (takeS S 4 30 (ld1 S))), endS S (takeS S 4 30 (takeS S 4 30 (ld1 S))))
noncomputable def ldB (S : Int → Int) (q : (Int → Int) × PS) : (Int → Int) × PS := cif (wdS S q.2 (wO 36)) (upr (upr q.1 5 (standV S 0 7 (nextS S q.2))) 6 (standV S 0 9 (takeS S 0 7 (nextS S q.2))), endS S (takeS S 0 9 (takeS S 0 7 (nextS S q.2)))) q
noncomputable def ldC (S : Int → Int) (q : (Int → Int) × PS) : (Int → Int) × PS := shftN S 700 q.1 q.2
noncomputable def ldD (S : Int → Int) (q : (Int → Int) × PS) : (Int → Int) × PS := (q.1, cif (wdS S q.2 (wO 38)) q.2 (failS S (-2) q.2))
noncomputable def fltL (S : Int → Int) : Nat → (Int → Int) → (Int → Int) → PS → (Int → Int) × PS
  | 0, r, _, st => (r, st)
  | n + 1, r, N, st => cif (wdS S st (wO 38)) (fltL S n (fltG S r N st).1 (fltN S r N st) (fltE S r N st)) (r, st)
noncomputable def ldE (S : Int → Int) (N : Int → Int) (q : (Int → Int) × PS) : (Int → Int) × PS := fltL S 700 q.1 N q.2
noncomputable def LD (S : Int → Int) (r N : Int → Int) : (Int → Int) × PS := ldE S N (ldD S (ldC S (ldB S (ldA S r))))
def blankR (r : Int → Int) : Int → Int := upr (fun x => if 0 ≤ x ∧ x < 1256 then 0 else r x) 6 5
noncomputable def LDe (S : Int → Int) (r N : Int → Int) : PS := endAll S (LD S r N).2
def LdFr (h g : AH) : Prop := ∀ k x, k ≠ 141 → k ≠ 142 → k ≠ 148 → ¬ (k = 140 ∧ (x = 7 ∨ (9 ≤ x ∧ x ≤ 16))) → g k x = h k x
theorem shpN_2 {S : Int → Int} {L f : Int} (hT : TxS S L) : ∀ (n : Nat) (r : Int → Int) (st : PS), 0 ≤ st.1 ∧ st.1 ≤ L → 0 ≤ r 3 → (shpN S f n r st).1 2 = r 2 ∧ 0 ≤ (shpN S f n r st).1 3 := fun n => by
  induction n with
  | zero => intro r st h h3; exact ⟨rfl, h3⟩
  | succ n ih =>
    intro r st h h3
    show (cif (wdS S st (wO 39)) (shpN S f n (shpR S r f st) (shpE S r f st)) (r, st)).1 2 = r 2 ∧ 0 ≤ (cif (wdS S st (wO 39)) (shpN S f n (shpR S r f st) (shpE S r f st)) (r, st)).1 3
    by_cases q : wdS S st (wO 39)
    · rw [cif_pos q]
      have a := onS_trans (onS_shpM (r := r) hT h).1 (onS_shpE (r := r) (f := f) hT h)
      have e3 : shpR S r f st 3 = r 3 + 1 := by unfold shpR; rw [upr_at]
      obtain ⟨x, y⟩ := ih (shpR S r f st) (shpE S r f st) (onS_0 a h.1) (by omega)
      rw [x, shpR_o (by omega) (by decide)]
      exact ⟨rfl, y⟩
    · rw [cif_neg q]
      exact ⟨rfl, h3⟩
theorem ld141 {S : Int → Int} {L : Int} {K : AO → Nat → AH → Prop} (hT : TxS S L) : ∀ (n : Nat) (r N : Int → Int) (st : PS) (g : AH), Sts S L st g → (st.2.1 = 0 → g 141 = r ∧ g 148 = N ∧ rowB r ∧ (0 ≤ r 2 ∧ r 2 ≤ 4)) → (st.2.1 = 0 → L - st.1 < n) → 1 ≤ n → (∀ g', FFr g g' → Sts S L (fltL S n r N st).2 g' → ((fltL S n r N st).2.2.1 = 0 → g' 141 = (fltL S n r N st).1) → AW mX9_load 9 0 0 K 159 157 [(2, 140)] [] g') → AW mX9_load 9 0 0 K 159 141 [(2, 140)] [] g
  | 0, r, N, st, g, hs, hr, hn, h1, kk => absurd h1 (by decide)
  | n + 1, r, N, st, g, hs, hr, hn, h1, kk => by
    have e : fltL S (n + 1) r N st = cif (wdS S st (wO 38)) (fltL S n (fltG S r N st).1 (fltN S r N st) (fltE S r N st)) (r, st) := rfl
    refine a_al0 (by decide) dX9_load_141 ?_
    refine aw_ldcS (i := 38) dX9_load_142 rfl ⟨rfl, rfl⟩ 2038 rfl ?_
    refine aw_callV 5 0 0 dX9_load_144 yw_X9_isWord ml_X9_172 in_X9_isWord se_X9_isWord (ci := 8) rfl at_140 (as := [_]) rfl rfl ⟨by decide, by decide, by decide, Nat.le_of_ble_eq_true rfl⟩ ?_
    refine ac_isWordX (i := 38) hT hs rfl (by decide) (fun q => ?_) (fun q => ?_)
    · rw [e, cif_pos q] at kk
      obtain ⟨r1, rN, r2, r4⟩ := hr q.1
      have hn2 := hn q.1
      have ha := wd_adv hT hs.2.2.2.2 q (by decide)
      have hna := next_adv hT hs.2.2.2.2 q (by decide)
      refine am_ci ?_
      refine aw_if_eq_n 157 dX9_load_147 (by decide) (by decide) ?_
      refine a_al0 (by decide) dX9_load_150 ?_
      refine aw_callV 8 0 0 dX9_load_151 yw_X9_readsFleet ml_X9_207 in_X9_readsFleet se_X9_readsFleet (ci := 8) rfl at_140 (as := []) rfl rfl ⟨by decide, by decide, by decide, Nat.le_of_ble_eq_true rfl⟩ ?_
      refine ac_readsFleet hT hs r1 rN r2 r4 (fun g' fr hs' hrow => ?_)
      have oE := onS_fltE (r := r) (N := N) hT hs.2.2.2.2
      obtain ⟨oM, oM2⟩ := onS_fltM (r := r) (N := N) hT hs.2.2.2.2
      have hm4 : (fltE S r N st).2.1 = 0 → r 2 ≠ 4 := fun c x => by
        have c2 := oE.2.2 c
        unfold flt3 mustS at c2
        rw [if_neg (by decide), if_pos x, nextS_c] at c2
        exact absurd c2 (failS_n (by decide))
      refine am_cv ?_
      refine aw_goto 141 dX9_load_154 (by decide) ?_
      refine ld141 hT n _ _ _ g' hs' (fun c => ⟨(hrow c).1, (hrow c).2.2, (hrow c).2.1, ?_⟩) (fun c => ?_) (by omega) (fun g2 fr2 => kk g2 (FFr_trans fr fr2))
      · have := hm4 c
        have m0 := onS_0 (onS_trans oM oM2) hs.2.2.2.2.1
        have b1 := onS_next (s := fltM S r N st) hT m0
        have b2 : onS L (fltM S r N st) (flt8 S r N st) := onS_trans b1 (onS_end hT (onS_0 b1 m0.1))
        have x := (shpN_2 (f := r 2) hT 700 (upr r 2 (r 2 + 1)) (flt8 S r N st) (onS_0 b2 m0.1) (by rw [upr_ne (by decide)]; exact r2.1.1)).1
        rw [upr_at] at x
        show 0 ≤ (fltG S r N st).1 2 ∧ (fltG S r N st).1 2 ≤ 4
        unfold fltG
        omega
      · have e3 : flt3 S r st = nextS S st := by
          unfold flt3 mustS
          rw [if_neg (by decide), if_neg (hm4 c)]
        rw [e3] at oE
        have := oE.1
        omega
    · rw [e, cif_neg q] at kk
      refine am_ci ?_
      refine aw_if_eq_y 157 dX9_load_147 (by decide) (by decide) ?_
      exact kk g (fun _ _ _ _ _ => rfl) hs (fun c => (hr c).1)
theorem LdFr_FFr {h g f : AH} (a : LdFr h g) (b : FFr g f) : LdFr h f := fun k x c d e q => by rw [b k x c e (by omega), a k x c d e q]
theorem ld157 {S : Int → Int} {L : Int} {h g : AH} {r N : Int → Int} {K : AO → Nat → AH → Prop} (hT : TxS S L) (hk : 0 ≤ h 140 6 ∧ h 140 6 ≤ 8) (fr : LdFr h g) (ha : ∀ x, 0 ≤ x → x < 1256 → g 142 x = h 141 x) (hs : Sts S L (LD S r N).2 g) (hr : (LD S r N).2.2.1 = 0 → g 141 = (LD S r N).1)
  (kE : ∀ h', LdFr h h' → (∀ x, 0 ≤ x → x < 1256 → h' 141 x = h 141 x) → h' 140 9 = 0 → h' 140 16 = (LDe S r N).2.2 → ¬ (LDe S r N).2.1 = 0 → K (.inl (some (0, (LDe S r N).2.1))) 159 h')
  (kS : (LDe S r N).2.1 = 0 → ∀ h1 h', LdFr h h1 → h1 141 = (LD S r N).1 → (∀ x, 0 ≤ x → x < 1256 → h1 142 x = h 141 x) → h1 140 9 = 0 → h1 140 16 = -1 → Kept h1 142 h' → K (.inl (some (0, (LD S r N).1 3))) 159 h') : AW mX9_load 9 0 0 K 159 157 [(2, 140)] [] g := by
  refine a_al0 (by decide) dX9_load_157 ?_
  refine aw_callV 2 0 0 dX9_load_158 yw_X9_ends ml_X9_210 in_X9_ends se_X9_ends (ci := 8) rfl at_140 (as := []) rfl rfl ⟨by decide, by decide, by decide, Nat.le_of_ble_eq_true rfl⟩ ?_
  refine ac_ends hT hs (fun g1 f1 e14 e9 e16 => ?_)
  have eD : endAll S (LD S r N).2 = LDe S r N := rfl
  rw [eD] at e14 e16
  have fr1 : LdFr h g1 := fun k x a b c d => by rw [f1 k x (by omega), fr k x a b c d]
  have ha1 : ∀ x, 0 ≤ x → x < 1256 → g1 142 x = h 141 x := fun x a b => by rw [f1 _ _ (by omega), ha x a b]
  refine am_cv ?_
  refine a_al0 (by decide) dX9_load_161 ?_
  refine aw_get 14 dX9_load_162 fl_X9_120 at_140 rfl ?_
  try simp (disch := omega) only [up_at, up_ne]
  refine aw_if_eq 181 dX9_load_165 (by decide) (fun c165 => ?_) (fun c165 => ?_)
  · have c0 : (LDe S r N).2.1 = 0 := by omega
    refine a_al0 (by decide) dX9_load_181 ?_
    refine aw_get 14 dX9_load_182 fl_X9_120 at_140 rfl ?_
    try simp (disch := omega) only [up_at, up_ne]
    refine aw_if_eq 193 dX9_load_185 (by decide) (fun c185 => ?_) (fun c185 => ?_)
    · refine a_al0 (by decide) dX9_load_193 ?_
      refine a_al0 (by decide) dX9_load_194 ?_
      refine aw_getR (r := 142) 1 rfl dX9_load_195 fl_X9_13 at_140 rfl rfl ?_
      try simp (disch := omega) only [up_at, up_ne]
      refine aw_callV 2 0 0 dX9_load_198 yw_X9_keeps ml_X9_80 in_X9_keeps se_X9_keeps (ci := 8) rfl at_140 (as := [_]) rfl rfl ⟨by decide, by decide, by decide, Nat.le_of_ble_eq_true rfl⟩ ?_
      refine ac_keeps ar_142 (by decide) (by decide) (by rw [fr1 _ _ (by decide) (by decide) (by decide) (by omega)]; exact hk) (fun h' hK => ?_)
      have c1 : (LD S r N).2.2.1 = 0 := by
        have : (endAll S (LD S r N).2).2.1 = 0 := c0
        unfold endAll at this
        split at this
        · exact this
        · exact failS_c this
      have row : g1 141 = (LD S r N).1 := by funext x; rw [f1 _ _ (by omega), hr c1]
      rw [if_pos c0] at e16
      refine am_cv ?_
      refine a_al0 (by decide) dX9_load_201 ?_
      refine aw_getR (r := 141) 0 rfl dX9_load_202 fl_X9_7 at_140 rfl rfl ?_
      try simp (disch := omega) only [up_at, up_ne]
      refine aw_iconst dX9_load_205 (by decide) ?_
      refine aw_iald dX9_load_206 ar_141 (by omega) ?_
      try simp (disch := omega) only [up_at, up_ne]
      refine aw_iret dX9_load_207 rfl ?_
      rw [hK.1 _ _ (by decide) (by omega), row]
      exact kS c0 g1 h' fr1 row ha1 e9 e16 hK
    · exfalso; omega
  · have c0 : ¬ (LDe S r N).2.1 = 0 := by omega
    refine a_al0 (by decide) dX9_load_168 ?_
    refine aw_getR (r := 141) 0 rfl dX9_load_169 fl_X9_7 at_140 rfl rfl ?_
    try simp (disch := omega) only [up_at, up_ne]
    refine aw_iconst dX9_load_172 (by decide) ?_
    refine a_al0 (by decide) dX9_load_173 ?_
    refine aw_getR (r := 142) 1 rfl dX9_load_174 fl_X9_13 at_140 rfl rfl ?_
    try simp (disch := omega) only [up_at, up_ne]
    refine aw_iconst dX9_load_177 (by decide) ?_
    refine aw_callS 1 0 0 dX9_load_178 yw_X9_copies ml_X9_72 sm_X9_copies (as := [_, _, _, _]) rfl rfl ⟨by decide, by decide, by decide, Nat.le_of_ble_eq_true rfl⟩ ?_
    refine ac_copies ar_141 ar_142 (by decide) (by decide) (by decide) (by decide) ?_
    have q14 : cpy g1 141 0 142 0 1256 140 14 = (LDe S r N).2.1 := by unfold cpy; rw [if_neg (by omega), e14]
    refine am_cv ?_
    refine a_al0 (by decide) dX9_load_181 ?_
    refine aw_get 14 dX9_load_182 fl_X9_120 at_140 rfl ?_
    try simp (disch := omega) only [up_at, up_ne]
    refine aw_if_eq 193 dX9_load_185 (by decide) (fun c185 => ?_) (fun c185 => ?_)
    · exfalso; omega
    · refine a_al0 (by decide) dX9_load_188 ?_
      refine aw_get 14 dX9_load_189 fl_X9_120 at_140 rfl ?_
      try simp (disch := omega) only [up_at, up_ne]
      refine aw_iret dX9_load_192 rfl ?_
      rw [q14]
      rw [if_neg c0] at e16
      refine kE _ (fun k x a b c d => ?_) (fun x a b => ?_) ?_ ?_ c0
      · unfold cpy; rw [if_neg (by omega), fr1 k x a b c d]
      · unfold cpy; rw [if_pos (by omega), ha1 _ (by omega) (by omega)]; congr 1; omega
      · unfold cpy; rw [if_neg (by omega), e9]
      · unfold cpy; rw [if_neg (by omega), e16]
theorem ld110B {S : Int → Int} {L : Int} {h g : AH} {r N : Int → Int} {q : (Int → Int) × PS} {K : AO → Nat → AH → Prop} (hT : TxS S L) (hk : 0 ≤ h 140 6 ∧ h 140 6 ≤ 8) (eq : q = ldB S (ldA S r)) (fr : LdFr h g) (hN : g 148 = N) (ha : ∀ x, 0 ≤ x → x < 1256 → g 142 x = h 141 x) (hs : Sts S L q.2 g) (hr : q.2.2.1 = 0 → g 141 = q.1 ∧ rowB q.1 ∧ (0 ≤ q.1 2 ∧ q.1 2 ≤ 4) ∧ q.1 9 = 0)
  (kE : ∀ h', LdFr h h' → (∀ x, 0 ≤ x → x < 1256 → h' 141 x = h 141 x) → h' 140 9 = 0 → h' 140 16 = (LDe S r N).2.2 → ¬ (LDe S r N).2.1 = 0 → K (.inl (some (0, (LDe S r N).2.1))) 159 h')
  (kS : (LDe S r N).2.1 = 0 → ∀ h1 h', LdFr h h1 → h1 141 = (LD S r N).1 → (∀ x, 0 ≤ x → x < 1256 → h1 142 x = h 141 x) → h1 140 9 = 0 → h1 140 16 = -1 → Kept h1 142 h' → K (.inl (some (0, (LD S r N).1 3))) 159 h') : AW mX9_load 9 0 0 K 159 110 [(2, 140)] [] g := by
  have hL := hT.1
  have mq := hs.2.2.2.2
  refine ld110 hT 700 q.1 q.2 g hs (fun c => ?_) (fun c => by omega) (by decide) (fun g1 f1 hs1 hr1 => ?_)
  · have := hr c
    exact ⟨this.1, by omega⟩
  have oC := onS_shftN hT 700 q.1 q.2 mq
  obtain ⟨c3, hc3⟩ : ∃ c3, c3 = shftN S 700 q.1 q.2 := ⟨_, rfl⟩
  have eC : ldC S (ldB S (ldA S r)) = c3 := by rw [hc3, eq]; rfl
  rw [← hc3] at hs1 hr1 oC
  have fr1 : LdFr h g1 := LdFr_FFr fr (FFr_of f1)
  have ha1 : ∀ x, 0 ≤ x → x < 1256 → g1 142 x = h 141 x := fun x a b => by rw [f1 _ _ (by decide) (by omega), ha x a b]
  have hN1 : g1 148 = N := by rw [← hN]; funext x; rw [f1 _ _ (by decide) (by omega)]
  have hB1 : c3.2.2.1 = 0 → rowB c3.1 ∧ (0 ≤ c3.1 2 ∧ c3.1 2 ≤ 4) := fun c => by
    obtain ⟨a1, a2, a3, a4⟩ := hr (oC.2.2 c)
    unfold rowB
    rw [hc3, shftN_o (by decide) 700 _ _ (by omega), shftN_o (by decide) 700 _ _ (by omega), shftN_o (by decide) 700 _ _ (by omega), shftN_o (by decide) 700 _ _ (by omega)]
    exact ⟨a2, a3⟩
  have J : ∀ g2, LdFr h g2 → (∀ x, 0 ≤ x → x < 1256 → g2 142 x = h 141 x) → g2 148 = N → Sts S L (ldD S c3).2 g2 → g2 141 = g1 141 → AW mX9_load 9 0 0 K 159 141 [(2, 140)] [] g2 := fun g2 fr2 ha2 hN2 hs2 e2 => by
    have hcD : (ldD S c3).2.2.1 = 0 → c3.2.2.1 = 0 := fun c => by
      by_cases w : wdS S c3.2 (wO 38)
      · exact w.1
      · have : (cif (wdS S c3.2 (wO 38)) c3.2 (failS S (-2) c3.2)).2.1 = 0 := c
        rw [cif_neg w] at this
        exact failS_c this
    refine ld141 hT 700 (ldD S c3).1 N (ldD S c3).2 g2 hs2 (fun c => ⟨by rw [e2]; exact (hr1 (hcD c)).1, hN2, (hB1 (hcD c)).1, (hB1 (hcD c)).2⟩) (fun c => by have := hs2.2.2.2.2; omega) (by decide) (fun g3 f3 hs3 hr3 => ?_)
    have eLD : fltL S 700 (ldD S c3).1 N (ldD S c3).2 = LD S r N := by
      unfold LD
      rw [eC]
      rfl
    rw [eLD] at hs3 hr3
    exact ld157 hT hk (LdFr_FFr fr2 f3) (fun x a b => by rw [f3 _ _ (by decide) (by decide) (by omega), ha2 x a b]) hs3 hr3 kE kS
  refine a_al0 (by decide) dX9_load_126 ?_
  refine aw_ldcS (i := 38) dX9_load_127 rfl ⟨rfl, rfl⟩ 2038 rfl ?_
  refine aw_callV 5 0 0 dX9_load_129 yw_X9_isWord ml_X9_172 in_X9_isWord se_X9_isWord (ci := 8) rfl at_140 (as := [_]) rfl rfl ⟨by decide, by decide, by decide, Nat.le_of_ble_eq_true rfl⟩ ?_
  refine ac_isWordX (i := 38) hT hs1 rfl (by decide) (fun w => ?_) (fun w => ?_)
  · refine am_ci ?_
    refine aw_if_ne_y 141 dX9_load_132 (by decide) (by decide) ?_
    refine J g1 fr1 ha1 hN1 ?_ rfl
    unfold ldD
    rw [cif_pos w]
    exact hs1
  · refine am_ci ?_
    refine aw_if_ne_n 141 dX9_load_132 (by decide) (by decide) ?_
    refine a_al0 (by decide) dX9_load_135 ?_
    refine aw_bipush dX9_load_136 (by decide) ?_
    refine aw_callV 1 0 0 dX9_load_138 yw_X9_fails ml_X9_126 in_X9_fails se_X9_fails (ci := 8) rfl at_140 (as := [_]) rfl rfl ⟨by decide, by decide, by decide, Nat.le_of_ble_eq_true rfl⟩ ?_
    refine ac_fails hs1 (by decide) (fun g2 pf2 hs2 => ?_)
    refine am_cv ?_
    refine J g2 (LdFr_FFr fr1 (FFr_of (RFr_of pf2))) (fun x a b => by rw [pf2 _ _ (by omega), ha1 x a b]) (by rw [← hN1]; funext x; rw [pf2 _ _ (by omega)]) ?_ (PFr_row pf2)
    unfold ldD
    rw [cif_neg w]
    exact hs2
theorem Sts_row {S : Int → Int} {L : Int} {st : PS} {g g' : AH} (hs : Sts S L st g) (e : ∀ k x, k ≠ 141 → g' k x = g k x) : Sts S L st g' := by
  obtain ⟨⟨x1, x2⟩, ⟨a1, a2, a3, a4⟩, c1, c2, c3⟩ := hs
  refine ⟨⟨?_, fun k a b => ?_⟩, ⟨?_, ?_, ?_, ?_⟩, ?_, fun q => ?_, c3⟩
  · rw [e _ _ (by decide)]; exact x1
  · rw [e _ _ (by decide)]; exact x2 k a b
  · rw [e _ _ (by decide)]; exact a1
  · rw [e _ _ (by decide)]; exact a2
  · rw [e _ _ (by decide)]; exact a3
  · rw [e _ _ (by decide)]; exact a4
  · rw [e _ _ (by decide)]; exact c1
  · rw [e _ _ (by decide)]; exact c2 q
theorem ld66 {S : Int → Int} {L : Int} {h g : AH} {r N : Int → Int} {q : (Int → Int) × PS} {K : AO → Nat → AH → Prop} (hT : TxS S L) (hk : 0 ≤ h 140 6 ∧ h 140 6 ≤ 8) (eq : q = ldA S r) (fr : LdFr h g) (hN : g 148 = N) (ha : ∀ x, 0 ≤ x → x < 1256 → g 142 x = h 141 x) (hs : Sts S L q.2 g) (hr : q.2.2.1 = 0 → g 141 = q.1 ∧ rowB q.1 ∧ (0 ≤ q.1 2 ∧ q.1 2 ≤ 4) ∧ q.1 9 = 0)
  (kE : ∀ h', LdFr h h' → (∀ x, 0 ≤ x → x < 1256 → h' 141 x = h 141 x) → h' 140 9 = 0 → h' 140 16 = (LDe S r N).2.2 → ¬ (LDe S r N).2.1 = 0 → K (.inl (some (0, (LDe S r N).2.1))) 159 h')
  (kS : (LDe S r N).2.1 = 0 → ∀ h1 h', LdFr h h1 → h1 141 = (LD S r N).1 → (∀ x, 0 ≤ x → x < 1256 → h1 142 x = h 141 x) → h1 140 9 = 0 → h1 140 16 = -1 → Kept h1 142 h' → K (.inl (some (0, (LD S r N).1 3))) 159 h') : AW mX9_load 9 0 0 K 159 66 [(2, 140)] [] g := by
  refine a_al0 (by decide) dX9_load_66 ?_
  refine aw_ldcS (i := 36) dX9_load_67 rfl ⟨rfl, rfl⟩ 2036 rfl ?_
  refine aw_callV 5 0 0 dX9_load_69 yw_X9_isWord ml_X9_172 in_X9_isWord se_X9_isWord (ci := 8) rfl at_140 (as := [_]) rfl rfl ⟨by decide, by decide, by decide, Nat.le_of_ble_eq_true rfl⟩ ?_
  refine ac_isWordX (i := 36) hT hs rfl (by decide) (fun w => ?_) (fun w => ?_)
  · refine am_ci ?_
    refine aw_if_eq_n 110 dX9_load_72 (by decide) (by decide) ?_
    refine a_al0 (by decide) dX9_load_75 ?_
    refine aw_callV 3 0 0 dX9_load_76 yw_X9_next ml_X9_123 in_X9_next se_X9_next (ci := 8) rfl at_140 (as := []) rfl rfl ⟨by decide, by decide, by decide, Nat.le_of_ble_eq_true rfl⟩ ?_
    refine ac_nextS hT hs w.1 (fun g1 pf1 hs1 => ?_)
    refine am_cv ?_
    refine a_al0 (by decide) dX9_load_79 ?_
    refine aw_getR (r := 141) 0 rfl dX9_load_80 fl_X9_7 at_140 rfl rfl ?_
    try simp (disch := omega) only [up_at, up_ne]
    refine aw_iconst dX9_load_83 (by decide) ?_
    refine a_al0 (by decide) dX9_load_84 ?_
    refine aw_iconst dX9_load_85 (by decide) ?_
    refine aw_bipush dX9_load_86 (by decide) ?_
    refine aw_callV 4 0 0 dX9_load_88 yw_X9_takes ml_X9_153 in_X9_takes se_X9_takes (ci := 8) rfl at_140 (as := [_, _]) rfl rfl ⟨by decide, by decide, by decide, Nat.le_of_ble_eq_true rfl⟩ ?_
    refine ac_takes hT hs1 (fun g2 pf2 hs2 => ?_)
    refine am_ci ?_
    try simp (disch := omega) only [up_at, up_ne]
    refine aw_iast dX9_load_91 ar_141 (by omega) ?_
    refine a_al0 (by decide) dX9_load_92 ?_
    refine aw_getR (r := 141) 0 rfl dX9_load_93 fl_X9_7 at_140 rfl rfl ?_
    try simp (disch := omega) only [up_at, up_ne]
    refine aw_bipush dX9_load_96 (by decide) ?_
    refine a_al0 (by decide) dX9_load_98 ?_
    refine aw_iconst dX9_load_99 (by decide) ?_
    refine aw_bipush dX9_load_100 (by decide) ?_
    refine aw_callV 4 0 0 dX9_load_102 yw_X9_takes ml_X9_153 in_X9_takes se_X9_takes (ci := 8) rfl at_140 (as := [_, _]) rfl rfl ⟨by decide, by decide, by decide, Nat.le_of_ble_eq_true rfl⟩ ?_
    have hs3 := Sts_up (x := 5) (v := standV S 0 7 (nextS S q.2)) hs2
    refine ac_takes hT hs3 (fun g4 pf4 hs4 => ?_)
    refine am_ci ?_
    try simp (disch := omega) only [up_at, up_ne]
    refine aw_iast dX9_load_105 ar_141 (by omega) ?_
    refine a_al0 (by decide) dX9_load_106 ?_
    refine aw_callV 5 0 0 dX9_load_107 yw_X9_mustEnd ml_X9_156 in_X9_mustEnd se_X9_mustEnd (ci := 8) rfl at_140 (as := []) rfl rfl ⟨by decide, by decide, by decide, Nat.le_of_ble_eq_true rfl⟩ ?_
    have hs5 := Sts_up (x := 6) (v := standV S 0 9 (takeS S 0 7 (nextS S q.2))) hs4
    refine ac_mustEnd hT hs5 (fun g6 pf6 hs6 => ?_)
    have eB : ldB S (ldA S r) = (upr (upr q.1 5 (standV S 0 7 (nextS S q.2))) 6 (standV S 0 9 (takeS S 0 7 (nextS S q.2))), endS S (takeS S 0 9 (takeS S 0 7 (nextS S q.2)))) := by
      rw [← eq]
      unfold ldB
      rw [cif_pos w]
    have f6 : RFr g g6 := RFr_trans (RFr_up (RFr_trans (RFr_up (RFr_of (PFr_trans pf1 pf2))) (RFr_of pf4))) (RFr_of pf6)
    have row6 : g 141 = q.1 → g6 141 = upr (upr q.1 5 (standV S 0 7 (nextS S q.2))) 6 (standV S 0 9 (takeS S 0 7 (nextS S q.2))) := fun y => by
      rw [PFr_row pf6, up_row, PFr_row pf4, up_row, PFr_row pf2, PFr_row pf1, y]
    refine am_cv ?_
    refine ld110B hT hk eB.symm (LdFr_FFr fr (FFr_of f6)) (by rw [← hN]; funext x; rw [f6 _ _ (by decide) (by omega)]) (fun x a b => by rw [f6 _ _ (by decide) (by omega), ha x a b]) hs6 (fun _ => ?_) kE kS
    obtain ⟨y, ⟨z1, z2, z3⟩, z4, z5⟩ := hr w.1
    refine ⟨row6 y, ⟨?_, ?_, ?_⟩, ?_, ?_⟩
    · dsimp only; rw [upr_ne (by decide), upr_ne (by decide)]; exact z1
    · dsimp only; rw [upr_ne (by decide), upr_ne (by decide)]; exact z2
    · dsimp only; rw [upr_ne (by decide), upr_ne (by decide)]; exact z3
    · dsimp only; rw [upr_ne (by decide), upr_ne (by decide)]; exact z4
    · dsimp only; rw [upr_ne (by decide), upr_ne (by decide)]; exact z5
  · have eB : ldB S (ldA S r) = q := by
      rw [← eq]
      unfold ldB
      rw [cif_neg w]
    refine am_ci ?_
    refine aw_if_eq_y 110 dX9_load_72 (by decide) (by decide) ?_
    exact ld110B hT hk eB.symm fr hN ha hs hr kE kS
theorem ac_load {S : Int → Int} {L : Int} {h : AH} {r N : Int → Int} {K : AO → Nat → AH → Prop} (hT : TxS S L) (hx : Tx S L h) (hk : 0 ≤ h 140 6 ∧ h 140 6 ≤ 8) (er : blankR (h 141) = r) (hN : h 148 = N)
  (kE : ∀ h', LdFr h h' → (∀ x, 0 ≤ x → x < 1256 → h' 141 x = h 141 x) → h' 140 9 = 0 → h' 140 16 = (LDe S r N).2.2 → ¬ (LDe S r N).2.1 = 0 → K (.inl (some (0, (LDe S r N).2.1))) 159 h')
  (kS : (LDe S r N).2.1 = 0 → ∀ h1 h', LdFr h h1 → h1 141 = (LD S r N).1 → (∀ x, 0 ≤ x → x < 1256 → h1 142 x = h 141 x) → h1 140 9 = 0 → h1 140 16 = -1 → Kept h1 142 h' → K (.inl (some (0, (LD S r N).1 3))) 159 h') : AC mX9_load 9 0 0 159 [(2, 140)] h K := by
  have hL := hT.1
  have rb : ∀ x, 0 ≤ x → x < 1256 → x ≠ 6 → r x = 0 := fun x a b c => by
    rw [← er]
    unfold blankR
    rw [upr_ne c, if_pos ⟨a, b⟩]
  refine ac_of (ls := [(2, 140)]) pn_X9 rfl (Nat.le_of_ble_eq_true rfl) rfl ?_
  refine a_al0 (by decide) dX9_load_0 ?_
  refine aw_iconst dX9_load_1 (by decide) ?_
  refine aw_put 7 dX9_load_2 fp_X9_66 at_140 rfl ?_
  refine a_al0 (by decide) dX9_load_5 ?_
  refine aw_getR (r := 142) 1 rfl dX9_load_6 fl_X9_13 at_140 rfl rfl ?_
  try simp (disch := omega) only [up_at, up_ne]
  refine aw_iconst dX9_load_9 (by decide) ?_
  refine a_al0 (by decide) dX9_load_10 ?_
  refine aw_getR (r := 141) 0 rfl dX9_load_11 fl_X9_7 at_140 rfl rfl ?_
  try simp (disch := omega) only [up_at, up_ne]
  refine aw_iconst dX9_load_14 (by decide) ?_
  refine aw_callS 1 0 0 dX9_load_15 yw_X9_copies ml_X9_72 sm_X9_copies (as := [_, _, _, _]) rfl rfl ⟨by decide, by decide, by decide, Nat.le_of_ble_eq_true rfl⟩ ?_
  refine ac_copies ar_142 ar_141 (by decide) (by decide) (by decide) (by decide) ?_
  refine am_cv ?_
  refine a_al0 (by decide) dX9_load_18 ?_
  refine aw_callV 1 0 0 dX9_load_19 yw_X9_begins ml_X9_63 in_X9_begins se_X9_begins (ci := 8) rfl at_140 (as := []) rfl rfl ⟨by decide, by decide, by decide, Nat.le_of_ble_eq_true rfl⟩ ?_
  refine ac_begins ?_
  obtain ⟨g, hg⟩ : ∃ g, g = up (fillH (cpy (up h 140 7 0) 142 0 141 0 1256) 141 1256 0) 141 6 5 := ⟨_, rfl⟩
  have fr0 : LdFr h g := fun k x a b c d => by
    rw [hg, up_ne (by omega)]
    unfold fillH cpy
    rw [if_neg (by omega), if_neg (by omega), up_ne (by omega)]
  have ha0 : ∀ x, 0 ≤ x → x < 1256 → g 142 x = h 141 x := fun x a b => by
    rw [hg, up_ne (by omega)]
    unfold fillH cpy
    rw [if_neg (by omega), if_pos (by omega), up_ne (by omega)]
    congr 1
    omega
  have hr0 : g 141 = r := by
    rw [hg, up_row, ← er]
    unfold blankR
    congr 1
    funext x
    unfold fillH
    by_cases e : 0 ≤ x ∧ x < 1256
    · rw [if_pos ⟨rfl, e.1, e.2⟩, if_pos e]
    · rw [if_neg (fun y => e y.2), if_neg e]
      unfold cpy
      rw [if_neg (by omega), up_ne (by omega)]
  have hN0 : g 148 = N := by
    rw [← hN, hg]
    funext x
    rw [up_ne (by omega)]
    unfold fillH cpy
    rw [if_neg (by omega), if_neg (by omega), up_ne (by omega)]
  have hx0 : Tx S L g := ⟨by
    rw [hg, up_ne (by omega)]
    unfold fillH cpy
    rw [if_neg (by omega), if_neg (by omega), up_ne (by omega)]
    exact hx.1, fun k a b => by
    rw [hg, up_ne (by omega)]
    unfold fillH cpy
    rw [if_neg (by omega), if_neg (by omega), up_ne (by omega)]
    exact hx.2 k a b⟩
  refine am_cv ?_
  refine a_al0 (by decide) dX9_load_22 ?_
  refine aw_callV 4 0 0 dX9_load_23 yw_X9_starts ml_X9_193 in_X9_starts se_X9_starts (ci := 8) rfl at_140 (as := []) rfl rfl ⟨by decide, by decide, by decide, Nat.le_of_ble_eq_true rfl⟩ ?_
  rw [← hg]
  refine ac_starts hT hx0 (fun g1 pf1 hs1 => ?_)
  have main : ∀ b, b = cif (wdS S (0, 0, 0) (wO 35)) 1 0 → AW mX9_load 9 0 0 K 159 33 [(2, 140)] [(0, b), (2, 140)] g1 := fun b eb => by
    refine aw_callV 4 0 0 dX9_load_33 yw_X9_must ml_X9_143 in_X9_must se_X9_must (ci := 8) rfl at_140 (as := [_]) rfl rfl ⟨by decide, by decide, by decide, Nat.le_of_ble_eq_true rfl⟩ ?_
    refine ac_must hT hs1 (fun g2 pf2 hs2 => ?_)
    have e1 : mustS S b (0, 0, 0) = ld1 S := by rw [eb]; rfl
    rw [e1] at hs2
    refine am_cv ?_
    refine a_al0 (by decide) dX9_load_36 ?_
    refine aw_getR (r := 141) 0 rfl dX9_load_37 fl_X9_7 at_140 rfl rfl ?_
    try simp (disch := omega) only [up_at, up_ne]
    refine aw_iconst dX9_load_40 (by decide) ?_
    refine a_al0 (by decide) dX9_load_41 ?_
    refine aw_iconst dX9_load_42 (by decide) ?_
    refine aw_bipush dX9_load_43 (by decide) ?_
    refine aw_callV 4 0 0 dX9_load_45 yw_X9_takes ml_X9_153 in_X9_takes se_X9_takes (ci := 8) rfl at_140 (as := [_, _]) rfl rfl ⟨by decide, by decide, by decide, Nat.le_of_ble_eq_true rfl⟩ ?_
    refine ac_takes hT hs2 (fun g3 pf3 hs3 => ?_)
    refine am_ci ?_
    try simp (disch := omega) only [up_at, up_ne]
    refine aw_iast dX9_load_48 ar_141 (by omega) ?_
    refine a_al0 (by decide) dX9_load_49 ?_
    refine aw_getR (r := 141) 0 rfl dX9_load_50 fl_X9_7 at_140 rfl rfl ?_
    try simp (disch := omega) only [up_at, up_ne]
    refine aw_iconst dX9_load_53 (by decide) ?_
    refine a_al0 (by decide) dX9_load_54 ?_
    refine aw_iconst dX9_load_55 (by decide) ?_
    refine aw_bipush dX9_load_56 (by decide) ?_
    refine aw_callV 4 0 0 dX9_load_58 yw_X9_takes ml_X9_153 in_X9_takes se_X9_takes (ci := 8) rfl at_140 (as := [_, _]) rfl rfl ⟨by decide, by decide, by decide, Nat.le_of_ble_eq_true rfl⟩ ?_
    have hs4 := Sts_up (x := 0) (v := standV S 4 30 (ld1 S)) hs3
    refine ac_takes hT hs4 (fun g5 pf5 hs5 => ?_)
    refine am_ci ?_
    try simp (disch := omega) only [up_at, up_ne]
    refine aw_iast dX9_load_61 ar_141 (by omega) ?_
    refine a_al0 (by decide) dX9_load_62 ?_
    refine aw_callV 5 0 0 dX9_load_63 yw_X9_mustEnd ml_X9_156 in_X9_mustEnd se_X9_mustEnd (ci := 8) rfl at_140 (as := []) rfl rfl ⟨by decide, by decide, by decide, Nat.le_of_ble_eq_true rfl⟩ ?_
    have hs6 := Sts_up (x := 1) (v := standV S 4 30 (takeS S 4 30 (ld1 S))) hs5
    refine ac_mustEnd hT hs6 (fun g7 pf7 hs7 => ?_)
    have f7 : RFr g g7 := RFr_trans (RFr_up (RFr_trans (RFr_up (RFr_of (PFr_trans (PFr_trans pf1 pf2) pf3))) (RFr_of pf5))) (RFr_of pf7)
    have row7 : g7 141 = (ldA S r).1 := by
      rw [PFr_row pf7, up_row, PFr_row pf5, up_row, PFr_row pf3, PFr_row pf2, PFr_row pf1, hr0]
      rfl
    refine am_cv ?_
    refine ld66 hT hk rfl (LdFr_FFr fr0 (FFr_of f7)) (by rw [← hN0]; funext x; rw [f7 _ _ (by decide) (by omega)]) (fun x a b => by rw [f7 _ _ (by decide) (by omega), ha0 x a b]) hs7 (fun c => ?_) kE kS
    have m2 := hs2.2.2.2.2
    have m5 := hs5.2.2.2.2
    have c5 : (takeS S 4 30 (takeS S 4 30 (ld1 S))).2.1 = 0 := (onS_end hT m5).2.2 c
    have c5b : (standS S 4 30 (takeS S 4 30 (ld1 S))).2.1 = 0 := by
      unfold takeS at c5
      rw [nextS_c] at c5
      exact c5
    have c3 : (takeS S 4 30 (ld1 S)).2.1 = 0 := (onS_stand hs3.2.2.2.2.2).2.2 c5b
    have c3b : (standS S 4 30 (ld1 S)).2.1 = 0 := by
      unfold takeS at c3
      rw [nextS_c] at c3
      exact c3
    refine ⟨row7, ⟨?_, ?_, ?_⟩, ?_, ?_⟩
    · unfold ldA; dsimp only; rw [upr_ne (by decide), upr_ne (by decide), rb 3 (by decide) (by decide) (by decide)]; decide
    · unfold ldA; dsimp only; rw [upr_ne (by decide), upr_at]; exact standV_rg c3b
    · unfold ldA; dsimp only; rw [upr_at]; exact standV_rg c5b
    · unfold ldA; dsimp only; rw [upr_ne (by decide), upr_ne (by decide), rb 2 (by decide) (by decide) (by decide)]; decide
    · unfold ldA; dsimp only; rw [upr_ne (by decide), upr_ne (by decide), rb 9 (by decide) (by decide) (by decide)]
  refine am_cv ?_
  refine a_al0 (by decide) dX9_load_26 ?_
  refine a_al0 (by decide) dX9_load_27 ?_
  refine aw_ldcS (i := 35) dX9_load_28 rfl ⟨rfl, rfl⟩ 2035 rfl ?_
  refine aw_callV 5 0 0 dX9_load_30 yw_X9_isWord ml_X9_172 in_X9_isWord se_X9_isWord (ci := 8) rfl at_140 (as := [_]) rfl rfl ⟨by decide, by decide, by decide, Nat.le_of_ble_eq_true rfl⟩ ?_
  refine ac_isWordX (i := 35) hT hs1 rfl (by decide) (fun w => ?_) (fun w => ?_)
  · refine am_ci ?_
    exact main 1 (cif_pos w).symm
  · refine am_ci ?_
    exact main 0 (cif_neg w).symm
