/-! reading: a fleet with its ships -/
theorem nmRow_putC {S : Int → Int} {p s c : Int} {g g' : AH} {r : Int → Int} (hp : Put S p c (s + 17) g g') (hr : g c = r) : g' c = nmRow r s (nmv S p) := by
  funext x
  unfold nmRow
  by_cases e : s + 17 ≤ x ∧ x < s + 25
  · rw [if_pos e]
    have := hp.2 (x - (s + 17)) (by omega) (by omega)
    rw [← this]
    congr 1
    omega
  · rw [if_neg e, hp.1 c x (by omega), hr]
theorem shpM_12 {S : Int → Int} {L : Int} {r : Int → Int} {st : PS} (hT : TxS S L) (hst : 0 ≤ st.1 ∧ st.1 ≤ L) (c : (shpM S r st).2.1 = 0) : r 3 ≠ 12 := fun e => by
  have c2 := (onS_shpM (r := r) hT hst).2.2.2 c
  unfold shp3 mustS at c2
  rw [if_neg (by decide), if_pos e, nextS_c] at c2
  exact absurd c2 (failS_n (by decide))
theorem shpE_c {S : Int → Int} {L f : Int} {r : Int → Int} {st : PS} (hT : TxS S L) (hst : 0 ≤ st.1 ∧ st.1 ≤ L) (c : (shpE S r f st).2.1 = 0) : (shpM S r st).2.1 = 0 := by
  by_cases q : (shpM S r st).2.1 = 0
  · exact q
  · have c8 : ¬ (shp8 S r st).2.1 = 0 := by rw [shp8_W q]; exact q
    rw [shpE_W c8] at c
    exact absurd c c8
theorem optN_o {S : Int → Int} {s x : Int} (hx : x < s + 4) : ∀ (m : Nat) (r : Int → Int) (told : Int) (st : PS), (optN S s m r told st).1 x = r x := fun m => by
  induction m with
  | zero => intro r told st; rfl
  | succ m ih =>
    intro r told st
    show (cif (optW S st = -1) (r, st) (optN S s m _ _ _)).1 x = r x
    by_cases q : optW S st = -1
    · rw [cif_pos q]
    · rw [cif_neg q, ih, upr_ne]
      have := (optW_c (S := S) (st := st)).resolve_left q
      omega
theorem shpR_o {S : Int → Int} {f x : Int} {r : Int → Int} {st : PS} (hx : x < 46 + 25 * r 3) (h3 : x ≠ 3) : shpR S r f st x = r x := by
  unfold shpR shpO
  rw [upr_ne h3, optN_o (by omega)]
  unfold shpD ordR
  rw [if_neg (by omega)]
  unfold shpC
  rw [upr_ne (by omega), upr_ne (by omega), upr_ne (by omega), upr_ne (by omega), upr_ne (by omega), upr_ne (by omega), upr_ne (by omega), upr_ne (by omega), upr_ne (by omega), upr_ne (by omega)]
  unfold nmRow
  rw [if_neg (by omega)]
noncomputable def shpN (S : Int → Int) (f : Int) : Nat → (Int → Int) → PS → (Int → Int) × PS
  | 0, r, st => (r, st)
  | n + 1, r, st => cif (wdS S st (wO 39)) (shpN S f n (shpR S r f st) (shpE S r f st)) (r, st)
/-- a row with bounds as they must be -/
def rowB (r : Int → Int) : Prop := (0 ≤ r 3 ∧ r 3 ≤ 12) ∧ (4 ≤ r 0 ∧ r 0 ≤ 30) ∧ (4 ≤ r 1 ∧ r 1 ≤ 30)
theorem rowB_shp {S : Int → Int} {L f : Int} {r : Int → Int} {st : PS} (hT : TxS S L) (hst : 0 ≤ st.1 ∧ st.1 ≤ L) (hb : rowB r) (c : (shpE S r f st).2.1 = 0) : rowB (shpR S r f st) := by
  have h12 := shpM_12 hT hst (shpE_c hT hst c)
  obtain ⟨a, b, d⟩ := hb
  refine ⟨?_, ?_, ?_⟩
  · unfold shpR
    rw [upr_at]
    omega
  · rw [shpR_o (by omega) (by decide)]; exact b
  · rw [shpR_o (by omega) (by decide)]; exact d
theorem rf106 {S : Int → Int} {L f : Int} {v2 : AV} {K : AO → Nat → AH → Prop} (hT : TxS S L) : ∀ (n : Nat) (r : Int → Int) (st : PS) (g : AH), Sts S L st g → (st.2.1 = 0 → g 141 = r ∧ rowB r) → (st.2.1 = 0 → L - st.1 < n) → 1 ≤ n → (∀ g', RFr g g' → Sts S L (shpN S f n r st).2 g' → ((shpN S f n r st).2.2.1 = 0 → g' 141 = (shpN S f n r st).1 ∧ rowB (shpN S f n r st).1) → K (.inl none) 159 g') → AW mX9_readsFleet 8 0 0 K 159 106 [(2, 140), (0, f), v2] [] g
  | 0, r, st, g, hs, hr, hn, h1, kk => absurd h1 (by decide)
  | n + 1, r, st, g, hs, hr, hn, h1, kk => by
    have e : shpN S f (n + 1) r st = cif (wdS S st (wO 39)) (shpN S f n (shpR S r f st) (shpE S r f st)) (r, st) := rfl
    refine a_al0 (by decide) dX9_readsFleet_106 ?_
    refine aw_ldcS (i := 39) dX9_readsFleet_107 rfl ⟨rfl, rfl⟩ 2039 rfl ?_
    refine aw_callV 5 0 0 dX9_readsFleet_109 yw_X9_isWord ml_X9_172 in_X9_isWord se_X9_isWord (ci := 8) rfl at_140 (as := [_]) rfl rfl ⟨by decide, by decide, by decide, Nat.le_of_ble_eq_true rfl⟩ ?_
    refine ac_isWordX (i := 39) hT hs rfl (by decide) (fun q => ?_) (fun q => ?_)
    · rw [e, cif_pos q] at kk
      obtain ⟨r1, r2⟩ := hr q.1
      have hn2 := hn q.1
      have ha := wd_adv hT hs.2.2.2.2 q (by decide)
      have hna := next_adv hT hs.2.2.2.2 q (by decide)
      refine am_ci ?_
      refine aw_if_eq_n 123 dX9_readsFleet_112 (by decide) (by decide) ?_
      refine a_al0 (by decide) dX9_readsFleet_115 ?_
      refine a_il1 dX9_readsFleet_116 ?_
      refine aw_callV 7 0 0 dX9_readsFleet_117 yw_X9_readsShip ml_X9_176 in_X9_readsShip se_X9_readsShip (ci := 8) rfl at_140 (as := [_]) rfl rfl ⟨by decide, by decide, by decide, Nat.le_of_ble_eq_true rfl⟩ ?_
      refine ac_readsShip hT hs r1 r2.1 r2.2 (fun g' fr hs' hrow => ?_)
      refine am_cv ?_
      refine aw_goto 106 dX9_readsFleet_120 (by decide) ?_
      refine rf106 hT n _ _ g' hs' (fun c => ⟨hrow c, rowB_shp hT hs.2.2.2.2 r2 c⟩) (fun c => ?_) (by omega) (fun g2 fr2 => kk g2 (RFr_trans fr fr2))
      have h12 := shpM_12 hT hs.2.2.2.2 (shpE_c hT hs.2.2.2.2 c)
      have e3 : shp3 S r st = nextS S st := by
        unfold shp3 mustS
        rw [if_neg (by decide), if_neg h12]
      have o := onS_shpE (r := r) (f := f) hT hs.2.2.2.2
      rw [e3] at o
      have := o.1
      omega
    · rw [e, cif_neg q] at kk
      refine am_ci ?_
      refine aw_if_eq_y 123 dX9_readsFleet_112 (by decide) (by decide) ?_
      refine aw_vret dX9_readsFleet_123 rfl ?_
      exact kk g (fun _ _ _ _ => rfl) hs hr
noncomputable def flt3 (S : Int → Int) (r : Int → Int) (st : PS) : PS := mustS S 1 (if r 2 = 4 then failS S (-6) st else st)
noncomputable def fltM (S : Int → Int) (r N : Int → Int) (st : PS) : PS := cif (∃ k, 0 ≤ k ∧ k < r 2 ∧ nmQ S (nameS S (flt3 S r st)).1 N (8 * k)) (failS S (-4) (nameS S (flt3 S r st))) (nameS S (flt3 S r st))
noncomputable def flt8 (S : Int → Int) (r N : Int → Int) (st : PS) : PS := endS S (nextS S (fltM S r N st))
noncomputable def fltG (S : Int → Int) (r N : Int → Int) (st : PS) : (Int → Int) × PS := shpN S (r 2) 700 (upr r 2 (r 2 + 1)) (flt8 S r N st)
noncomputable def fltE (S : Int → Int) (r N : Int → Int) (st : PS) : PS := (fltG S r N st).2
noncomputable def fltN (S : Int → Int) (r N : Int → Int) (st : PS) : Int → Int := nmRow N (8 * r 2 - 17) (nmv S (fltM S r N st).1)
/-- the row, the fleets' names and what is read may be others -/
def FFr (h g : AH) : Prop := ∀ k x, k ≠ 141 → k ≠ 148 → ¬ (k = 140 ∧ 10 ≤ x ∧ x ≤ 15) → g k x = h k x
theorem FFr_of {h g : AH} (a : RFr h g) : FFr h g := fun k x b _ c => a k x b c
theorem FFr_trans {h g f : AH} (a : FFr h g) (b : FFr g f) : FFr h f := fun k x c d e => by rw [b k x c d e, a k x c d e]
theorem flt8_W {S : Int → Int} {r N : Int → Int} {st : PS} (h : ¬ (fltM S r N st).2.1 = 0) : flt8 S r N st = fltM S r N st := by
  unfold flt8
  rw [nextS_W h, endS_W h]
theorem fltE_W {S : Int → Int} {r N : Int → Int} {st : PS} (h : ¬ (flt8 S r N st).2.1 = 0) : fltE S r N st = flt8 S r N st := by
  unfold fltE fltG
  show (cif (wdS S (flt8 S r N st) (wO 39)) (shpN S (r 2) 699 _ _) (_, flt8 S r N st)).2 = _
  rw [cif_neg (fun q => h q.1)]
theorem onS_fltM {S : Int → Int} {L : Int} {r N : Int → Int} {st : PS} (hT : TxS S L) (h : 0 ≤ st.1 ∧ st.1 ≤ L) : onS L st (flt3 S r st) ∧ onS L (flt3 S r st) (fltM S r N st) := by
  have a0 : onS L st (if r 2 = 4 then failS S (-6) st else st) := by
    split
    · exact onS_fail h.2
    · exact onS_refl h.2
  have a1 : onS L st (flt3 S r st) := onS_trans a0 (onS_must hT (onS_0 a0 h.1))
  have a2 : onS L (flt3 S r st) (nameS S (flt3 S r st)) := onS_name a1.2.1
  exact ⟨a1, onS_cif (onS_trans a2 (onS_fail a2.2.1)) a2⟩
theorem onS_shpN {S : Int → Int} {L f : Int} (hT : TxS S L) : ∀ (n : Nat) (r : Int → Int) (st : PS), 0 ≤ st.1 ∧ st.1 ≤ L → onS L st (shpN S f n r st).2
  | 0, r, st, h => onS_refl h.2
  | n + 1, r, st, h => by
    show onS L st (cif (wdS S st (wO 39)) (shpN S f n (shpR S r f st) (shpE S r f st)) (r, st)).2
    by_cases e : wdS S st (wO 39)
    · rw [cif_pos e]
      have a := onS_trans (onS_shpM (r := r) hT h).1 (onS_shpE (r := r) (f := f) hT h)
      exact onS_trans a (onS_shpN hT n _ _ (onS_0 a h.1))
    · rw [cif_neg e]
      exact onS_refl h.2
theorem fltM_4 {S : Int → Int} {L : Int} {r N : Int → Int} {st : PS} (hT : TxS S L) (hst : 0 ≤ st.1 ∧ st.1 ≤ L) (c : (fltM S r N st).2.1 = 0) : r 2 ≠ 4 := fun e => by
  have c2 := (onS_fltM (r := r) (N := N) hT hst).2.2.2 c
  unfold flt3 mustS at c2
  rw [if_neg (by decide), if_pos e, nextS_c] at c2
  exact absurd c2 (failS_n (by decide))
theorem onS_fltE {S : Int → Int} {L : Int} {r N : Int → Int} {st : PS} (hT : TxS S L) (h : 0 ≤ st.1 ∧ st.1 ≤ L) : onS L (flt3 S r st) (fltE S r N st) := by
  obtain ⟨a1, a2⟩ := onS_fltM (r := r) (N := N) hT h
  have m0 := onS_0 (onS_trans a1 a2) h.1
  have b1 := onS_next (s := fltM S r N st) hT m0
  have b2 : onS L (fltM S r N st) (flt8 S r N st) := onS_trans b1 (onS_end hT (onS_0 b1 m0.1))
  exact onS_trans a2 (onS_trans b2 (onS_shpN hT 700 _ _ (onS_0 b2 m0.1)))
theorem rf76 {S : Int → Int} {L : Int} {h : AH} {r N : Int → Int} {st : PS} {g : AH} {v2 : AV} {K : AO → Nat → AH → Prop} (hT : TxS S L) (hb : rowB r) (hf : 0 ≤ r 2 ∧ r 2 ≤ 3) (hc0 : (fltM S r N st).2.1 = 0) (pf : PFr h g) (hs : Sts S L (fltM S r N st) g) (hr : g 141 = r) (hN : g 148 = N) (kk : ∀ h', FFr h h' → Sts S L (fltE S r N st) h' → ((fltE S r N st).2.1 = 0 → h' 141 = (fltG S r N st).1 ∧ rowB (fltG S r N st).1 ∧ h' 148 = fltN S r N st) → K (.inl none) 159 h') : AW mX9_readsFleet 8 0 0 K 159 76 [(2, 140), (0, r 2), v2] [] g := by
  have m0 := hs.2.2.2.2
  refine a_al0 (by decide) dX9_readsFleet_76 ?_
  refine a_al0 (by decide) dX9_readsFleet_77 ?_
  refine aw_getR (r := 148) 17 rfl dX9_readsFleet_78 fl_X9_36 at_140 rfl rfl ?_
  refine aw_bipush dX9_readsFleet_81 (by decide) ?_
  refine a_il1 dX9_readsFleet_83 ?_
  refine aw_imulR (by omega) dX9_readsFleet_84 ?_
  refine aw_callV 1 0 0 dX9_readsFleet_85 yw_X9_putsName ml_X9_166 in_X9_putsName se_X9_putsName (ci := 8) rfl at_140 (as := [_, _]) rfl rfl ⟨by decide, by decide, by decide, Nat.le_of_ble_eq_true rfl⟩ ?_
  rw [show 8 * r 2 = (8 * r 2 - 17) + 17 by omega]
  refine ac_putsName hT hs ar_148 (by omega) (by decide) (by decide) (fun g1 hp => ?_)
  have hN1 := nmRow_putC hp hN
  have hs1 := Sts_put (by decide) hp hs
  have r1 : g1 141 = r := by funext x; rw [hp.1 _ _ (by omega), hr]
  have f1 : FFr h g1 := FFr_trans (FFr_of (RFr_of pf)) (fun k x a b c => hp.1 k x (by omega))
  refine am_cv ?_
  refine a_al0 (by decide) dX9_readsFleet_88 ?_
  refine aw_callV 3 0 0 dX9_readsFleet_89 yw_X9_next ml_X9_123 in_X9_next se_X9_next (ci := 8) rfl at_140 (as := []) rfl rfl ⟨by decide, by decide, by decide, Nat.le_of_ble_eq_true rfl⟩ ?_
  refine ac_nextS hT hs1 hc0 (fun g2 pf2 hs2 => ?_)
  refine am_cv ?_
  refine a_al0 (by decide) dX9_readsFleet_92 ?_
  refine aw_callV 5 0 0 dX9_readsFleet_93 yw_X9_mustEnd ml_X9_156 in_X9_mustEnd se_X9_mustEnd (ci := 8) rfl at_140 (as := []) rfl rfl ⟨by decide, by decide, by decide, Nat.le_of_ble_eq_true rfl⟩ ?_
  refine ac_mustEnd hT hs2 (fun g3 pf3 hs3 => ?_)
  have pf13 := PFr_trans pf2 pf3
  have r3 : g3 141 = r := by rw [PFr_row pf13, r1]
  have hN3 : g3 148 = fltN S r N st := by
    funext x
    rw [pf13 _ _ (by omega), hN1]
    rfl
  have e2 : g3 141 2 = r 2 := by rw [r3]
  have f3 : FFr h g3 := FFr_trans f1 (FFr_of (RFr_of pf13))
  refine am_cv ?_
  refine a_al0 (by decide) dX9_readsFleet_96 ?_
  refine aw_getR (r := 141) 0 rfl dX9_readsFleet_97 fl_X9_7 at_140 rfl rfl ?_
  try simp (disch := omega) only [up_at, up_ne]
  refine aw_iconst dX9_readsFleet_100 (by decide) ?_
  refine aw_dup2 dX9_readsFleet_101 rfl rfl ?_
  refine aw_iald dX9_readsFleet_102 ar_141 (by omega) ?_
  try simp (disch := omega) only [up_at, up_ne]
  refine aw_iconst dX9_readsFleet_103 (by decide) ?_
  refine aw_iaddR (by omega) dX9_readsFleet_104 ?_
  refine aw_iast dX9_readsFleet_105 ar_141 (by omega) ?_
  rw [e2]
  refine rf106 hT 700 (upr r 2 (r 2 + 1)) (flt8 S r N st) _ (Sts_up hs3) (fun c => ⟨by rw [up_row, r3], ?_⟩) (fun c => ?_) (by decide) (fun g' fr hs' hrow => ?_)
  · obtain ⟨x, y, z⟩ := hb
    exact ⟨by rw [upr_ne (by decide)]; exact x, by rw [upr_ne (by decide)]; exact y, by rw [upr_ne (by decide)]; exact z⟩
  · have := hs3.2.2.2.2.1
    have := hT.1
    show L - (endS S (nextS S (fltM S r N st))).1 < _
    omega
  · refine kk g' (FFr_trans f3 (fun k x a b c => by rw [fr k x a c, up_ne (by omega)])) hs' (fun c => ⟨(hrow c).1, (hrow c).2, ?_⟩)
    rw [← hN3]
    funext x
    rw [fr _ _ (by decide) (by omega), up_ne (by omega)]
theorem ac_readsFleet {S : Int → Int} {L : Int} {h : AH} {r N : Int → Int} {st : PS} {K : AO → Nat → AH → Prop} (hT : TxS S L) (hs : Sts S L st h) (hr : h 141 = r) (hN : h 148 = N) (hb : rowB r) (h2 : 0 ≤ r 2 ∧ r 2 ≤ 4) (kk : ∀ h', FFr h h' → Sts S L (fltE S r N st) h' → ((fltE S r N st).2.1 = 0 → h' 141 = (fltG S r N st).1 ∧ rowB (fltG S r N st).1 ∧ h' 148 = fltN S r N st) → K (.inl none) 159 h') : AC mX9_readsFleet 8 0 0 159 [(2, 140)] h K := by
  have hst := hs.2.2.2.2
  have hM := onS_fltM (r := r) (N := N) hT hst
  have J68 : ∀ g v2, am_n2 v2 = true → PFr h g → Sts S L (fltM S r N st) g → AW mX9_readsFleet 8 0 0 K 159 68 [(2, 140), (0, r 2), v2] [] g := fun g v2 hv pf hs1 => by
    have c1 := hs1.2.2.1
    refine a_al0 (by decide) dX9_readsFleet_68 ?_
    refine aw_get 14 dX9_readsFleet_69 fl_X9_120 at_140 rfl ?_
    refine aw_if_eq 76 dX9_readsFleet_72 (by decide) (fun c72 => ?_) (fun c72 => ?_)
    · have c0 : (fltM S r N st).2.1 = 0 := by omega
      have := fltM_4 hT hst c0
      exact rf76 hT hb (by omega) c0 pf hs1 (by rw [PFr_row pf, hr]) (by rw [← hN]; funext x; rw [pf _ _ (by omega)]) kk
    · have c0 : ¬ (fltM S r N st).2.1 = 0 := by omega
      have c8 : ¬ (flt8 S r N st).2.1 = 0 := by rw [flt8_W c0]; exact c0
      refine aw_vret dX9_readsFleet_75 rfl ?_
      refine kk g (FFr_of (RFr_of pf)) ?_ (fun c => ?_)
      · rw [fltE_W c8, flt8_W c0]; exact hs1
      · rw [fltE_W c8] at c; exact absurd c c8
  have J29 : ∀ g0, PFr h g0 → Sts S L (nameS S (flt3 S r st)) g0 → AW mX9_readsFleet 8 0 0 K 159 29 [(2, 140), (0, r 2), (0, 0)] [] g0 := fun g0 pf0 hs0 => by
    obtain ⟨nm, hnm⟩ : ∃ nm, nm = nameS S (flt3 S r st) := ⟨_, rfl⟩
    rw [← hnm] at hs0
    have hMe : fltM S r N st = cif (∃ k, 0 ≤ k ∧ k < r 2 ∧ nmQ S nm.1 N (8 * k)) (failS S (-4) nm) nm := by rw [hnm]; rfl
    refine aw_loop (fun q : Int × AH => 0 ≤ q.1 ∧ q.1 ≤ r 2 ∧ PFr h q.2 ∧ Sts S L (cif (∃ k, 0 ≤ k ∧ k < q.1 ∧ nmQ S nm.1 N (8 * k)) (failS S (-4) nm) nm) q.2) (fun q => (r 2 - q.1).toNat) (fun q => AW mX9_readsFleet 8 0 0 K 159 29 [(2, 140), (0, r 2), (0, q.1)] [] q.2) (fun q hq ih => ?_) (0, g0) ⟨by dsimp only; omega, h2.1, pf0, ?_⟩
    · obtain ⟨k, g⟩ := q
      obtain ⟨k0, k1, pf, hs1⟩ := hq
      dsimp only at k0 k1 pf hs1 ih ⊢
      have c1 := hs1.2.2.1
      have hNg : g 148 = N := by rw [← hN]; funext x; rw [pf _ _ (by omega)]
      have nxt : ∀ g' st', PFr g g' → Sts S L st' g' → k < r 2 → st' = cif (∃ j, 0 ≤ j ∧ j < k + 1 ∧ nmQ S nm.1 N (8 * j)) (failS S (-4) nm) nm → AW mX9_readsFleet 8 0 0 K 159 29 [(2, 140), (0, r 2), (0, k + 1)] [] g' := fun g' st' pf' hs' kr e => by
        rw [e] at hs'
        exact ih (k + 1, g') ⟨by dsimp only; omega, by dsimp only; omega, PFr_trans pf pf', hs'⟩ (by dsimp only; omega)
      refine a_il2 dX9_readsFleet_29 ?_
      refine a_il1 dX9_readsFleet_30 ?_
      refine aw_icmp_ge 68 dX9_readsFleet_31 (by decide) (fun c31 => ?_) (fun c31 => ?_)
      · have ek : k = r 2 := by omega
        rw [ek, ← hMe] at hs1
        exact J68 g _ rfl pf hs1
      · have kr : k < r 2 := by omega
        refine a_al0 (by decide) dX9_readsFleet_34 ?_
        refine aw_get 14 dX9_readsFleet_35 fl_X9_120 at_140 rfl ?_
        refine aw_if_ne 62 dX9_readsFleet_38 (by decide) (fun c38 => ?_) (fun c38 => ?_)
        · have cn : ¬ (cif (∃ j, 0 ≤ j ∧ j < k ∧ nmQ S nm.1 N (8 * j)) (failS S (-4) nm) nm).2.1 = 0 := by omega
          refine a_iiR2 (by omega) rfl rfl dX9_readsFleet_62 ?_
          refine aw_goto 29 dX9_readsFleet_65 (by decide) ?_
          refine nxt g _ (PFr_refl g) hs1 kr ?_
          by_cases q : nm.2.1 = 0
          · have y : ∃ j, 0 ≤ j ∧ j < k ∧ nmQ S nm.1 N (8 * j) := by
              by_cases y : ∃ j, 0 ≤ j ∧ j < k ∧ nmQ S nm.1 N (8 * j)
              · exact y
              · rw [cif_neg y] at cn; exact absurd q cn
            obtain ⟨j, a, b, c⟩ := y
            rw [cif_pos ⟨j, a, b, c⟩, cif_pos ⟨j, a, by omega, c⟩]
          · rw [cifS_W q, cifS_W q]
        · have c0 : (cif (∃ j, 0 ≤ j ∧ j < k ∧ nmQ S nm.1 N (8 * j)) (failS S (-4) nm) nm).2.1 = 0 := by omega
          have y : ¬ ∃ j, 0 ≤ j ∧ j < k ∧ nmQ S nm.1 N (8 * j) := fun y => by
            rw [cif_pos y] at c0
            exact failS_n (by decide) c0
          rw [cif_neg y] at hs1
          refine a_al0 (by decide) dX9_readsFleet_41 ?_
          refine a_al0 (by decide) dX9_readsFleet_42 ?_
          refine aw_getR (r := 148) 17 rfl dX9_readsFleet_43 fl_X9_36 at_140 rfl rfl ?_
          refine aw_bipush dX9_readsFleet_46 (by decide) ?_
          refine a_il2 dX9_readsFleet_48 ?_
          refine aw_imulR (by omega) dX9_readsFleet_49 ?_
          refine aw_callV 1 0 0 dX9_readsFleet_50 yw_X9_isName ml_X9_162 in_X9_isName se_X9_isName (ci := 8) rfl at_140 (as := [_, _]) rfl rfl ⟨by decide, by decide, by decide, Nat.le_of_ble_eq_true rfl⟩ ?_
          refine ac_isName hT hs1 ar_148 (by omega) (by decide) (fun z => ?_) (fun z => ?_)
          · rw [hNg] at z
            refine am_ci ?_
            refine aw_if_eq_n 62 dX9_readsFleet_53 (by decide) (by decide) ?_
            refine a_al0 (by decide) dX9_readsFleet_56 ?_
            refine aw_bipush dX9_readsFleet_57 (by decide) ?_
            refine aw_callV 1 0 0 dX9_readsFleet_59 yw_X9_fails ml_X9_126 in_X9_fails se_X9_fails (ci := 8) rfl at_140 (as := [_]) rfl rfl ⟨by decide, by decide, by decide, Nat.le_of_ble_eq_true rfl⟩ ?_
            refine ac_fails hs1 (by decide) (fun g' pf' hs' => ?_)
            refine am_cv ?_
            refine a_iiR2 (by omega) rfl rfl dX9_readsFleet_62 ?_
            refine aw_goto 29 dX9_readsFleet_65 (by decide) ?_
            refine nxt g' _ pf' hs' kr ?_
            rw [cif_pos ⟨k, k0, by omega, z⟩]
          · rw [hNg] at z
            refine am_ci ?_
            refine aw_if_eq_y 62 dX9_readsFleet_53 (by decide) (by decide) ?_
            refine a_iiR2 (by omega) rfl rfl dX9_readsFleet_62 ?_
            refine aw_goto 29 dX9_readsFleet_65 (by decide) ?_
            refine nxt g _ (PFr_refl g) hs1 kr ?_
            rw [cif_neg]
            intro ⟨j, a, b, c⟩
            by_cases e : j = k
            · rw [e] at c; exact z c
            · exact y ⟨j, a, by omega, c⟩
    · rw [cif_neg (fun ⟨k, a, b, _⟩ => by dsimp only at b; omega)]
      exact hs0
  have J18 : ∀ g st1, PFr h g → Sts S L st1 g → st1 = (if r 2 = 4 then failS S (-6) st else st) → AW mX9_readsFleet 8 0 0 K 159 18 [(2, 140), (0, r 2), (9, 0)] [] g := fun g st1 pf hs1 e => by
    refine a_al0 (by decide) dX9_readsFleet_18 ?_
    refine aw_iconst dX9_readsFleet_19 (by decide) ?_
    refine aw_callV 4 0 0 dX9_readsFleet_20 yw_X9_must ml_X9_143 in_X9_must se_X9_must (ci := 8) rfl at_140 (as := [_]) rfl rfl ⟨by decide, by decide, by decide, Nat.le_of_ble_eq_true rfl⟩ ?_
    refine ac_must hT hs1 (fun g2 pf2 hs2 => ?_)
    refine am_cv ?_
    refine a_al0 (by decide) dX9_readsFleet_23 ?_
    refine aw_callV 2 0 0 dX9_readsFleet_24 yw_X9_mustName ml_X9_159 in_X9_mustName se_X9_mustName (ci := 8) rfl at_140 (as := []) rfl rfl ⟨by decide, by decide, by decide, Nat.le_of_ble_eq_true rfl⟩ ?_
    refine ac_mustName hT hs2 (fun g3 pf3 hs3 => ?_)
    rw [e] at hs3
    refine am_cv ?_
    refine aw_iconst dX9_readsFleet_27 (by decide) ?_
    refine a_is2 rfl rfl dX9_readsFleet_28 ?_
    exact J29 g3 (PFr_trans pf (PFr_trans pf2 pf3)) hs3
  have e3 : h 141 2 = r 2 := by rw [hr]
  refine ac_of (ls := [(2, 140), (9, 0), (9, 0)]) pn_X9 rfl (Nat.le_of_ble_eq_true rfl) rfl ?_
  refine a_al0 (by decide) dX9_readsFleet_0 ?_
  refine aw_getR (r := 141) 0 rfl dX9_readsFleet_1 fl_X9_7 at_140 rfl rfl ?_
  refine aw_iconst dX9_readsFleet_4 (by decide) ?_
  refine aw_iald dX9_readsFleet_5 ar_141 (by omega) ?_
  rw [e3]
  refine a_is1 rfl rfl dX9_readsFleet_6 ?_
  refine a_il1 dX9_readsFleet_7 ?_
  refine aw_iconst dX9_readsFleet_8 (by decide) ?_
  refine aw_icmp_ne 18 dX9_readsFleet_9 (by decide) (fun c9 => ?_) (fun c9 => ?_)
  · skip
    refine J18 h st (PFr_refl h) hs ?_
    rw [if_neg (by omega)]
  · refine a_al0 (by decide) dX9_readsFleet_12 ?_
    refine aw_bipush dX9_readsFleet_13 (by decide) ?_
    refine aw_callV 1 0 0 dX9_readsFleet_15 yw_X9_fails ml_X9_126 in_X9_fails se_X9_fails (ci := 8) rfl at_140 (as := [_]) rfl rfl ⟨by decide, by decide, by decide, Nat.le_of_ble_eq_true rfl⟩ ?_
    refine ac_fails hs (by decide) (fun g pf hs1 => ?_)
    refine am_cv ?_
    refine J18 g _ pf hs1 ?_
    rw [if_pos (by omega)]
