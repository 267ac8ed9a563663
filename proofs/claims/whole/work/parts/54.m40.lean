/-! reading: orders, written -/
theorem wd_bP {S : Int → Int} {L p : Int} (hT : TxS S L) (hp : 0 ≤ p ∧ p ≤ L) (hk : kP S p = 0) : aP S p + 1 ≤ bP S p := by
  obtain ⟨a, b⟩ := kP_0 hk
  have h1 := rnF_sp _ (isLe_L hT) 700 (aP S p) (aP_rg hT hp).2.1 (by have := hT.1; have := aP_rg hT hp; omega)
  rw [← b] at h1
  by_cases e : bP S p = aP S p
  · rw [e, a] at h1
    exact absurd h1.2.2.1 (by decide)
  · omega
theorem nameS_1 (S : Int → Int) (st : PS) : (nameS S st).1 = st.1 := by
  unfold nameS
  split
  · rfl
  · exact failS_1 _ _ _
theorem wr4_c {S : Int → Int} {r : Int → Int} {f nd : Int} {st : PS} (c : (wr4 S r f nd st).2.1 = 0) : wrI S r f st ≠ -1 ∧ wr2 S r f st = st ∧ ¬ i_and (i_shr nd (wrI S r f st)) 1 = 1 ∧ wr4 S r f nd st = nextS S st ∧ st.2.1 = 0 ∧ nameS S st = st := by
  have e1 : ¬ i_and (i_shr nd (wrI S r f st)) 1 = 1 := fun x => by
    unfold wr4 mustS at c
    rw [if_neg (by decide), if_pos x, nextS_c] at c
    exact failS_n (by decide) c
  have e4 : wr4 S r f nd st = nextS S (wr2 S r f st) := by
    unfold wr4 mustS
    rw [if_neg (by decide), if_neg e1]
  rw [e4, nextS_c] at c
  have e2 : wrI S r f st ≠ -1 := fun x => by
    unfold wr2 at c
    rw [if_pos x] at c
    exact failS_n (by decide) c
  have e3 : wr2 S r f st = nameS S st := if_neg e2
  have e5 : nameS S st = st := by
    rw [e3] at c
    unfold nameS at c ⊢
    split
    · rfl
    · rename_i q
      rw [if_neg q] at c
      exact absurd c (failS_n (by decide))
  rw [e3, e5] at c
  exact ⟨e2, by rw [e3, e5], e1, by rw [e4, e3, e5], c, e5⟩
theorem onS_lt {S : Int → Int} {L : Int} {st : PS} (hT : TxS S L) (h : 0 ≤ st.1 ∧ st.1 ≤ L) : st.1 ≤ (ltS S st).1 ∧ ((ltS S st).2.1 = 0 → st.2.1 = 0) := by
  have o1 := onS_must (b := 1) hT (s := st) h
  have o2 : onS L st (failS S (-2) st) := onS_fail h.2
  have o3 := onS_must (b := 1) hT (s := failS S (-2) st) (onS_0 o2 h.1)
  have o5 := onS_must (b := 1) hT (s := (st.1, -3, aP S st.1 + ltX S st.1)) h
  unfold ltS
  split
  · split
    · exact ⟨o1.1, o1.2.2⟩
    · split
      · exact ⟨o5.1, fun c => absurd (show (-3 : Int) = 0 from o5.2.2 c) (by decide)⟩
      · exact ⟨o1.1, o1.2.2⟩
  · have := onS_trans o2 o3
    exact ⟨this.1, this.2.2⟩
theorem wr76 {S : Int → Int} {L f : Int} {r : Int → Int} {K : AO → Nat → AH → Prop} (hT : TxS S L) (hn : 0 ≤ r 3 ∧ r 3 ≤ 12) : ∀ (m : Nat) (nd n : Int) (T : Int → Int) (st : PS) (v4 : AV) (g : AH), am_n2 v4 = true → g 141 = r → Sts S L st g → (st.2.1 = 0 → g 155 = T) → (st.2.1 = 0 → L - st.1 < m) → 1 ≤ m → (0 ≤ n ∧ n + m ≤ 5000) → (∀ g' nd' v4', am_n2 v4' = true → LFr g g' → Sts S L (wrN S r f m nd n T st).2.2 g' → ((wrN S r f m nd n T st).2.2.2.1 = 0 → g' 155 = (wrN S r f m nd n T st).2.1) → AW mX9_write 6 0 0 K 159 185 [(2, 140), (0, f), (0, nd'), (0, (wrN S r f m nd n T st).1), v4', (9, 0)] [] g') → AW mX9_write 6 0 0 K 159 76 [(2, 140), (0, f), (0, nd), (0, n), v4, (9, 0)] [] g
  | 0, nd, n, T, st, v4, g, hv, hr, hs, hR, hm, h1, h2, kk => absurd h1 (by decide)
  | m + 1, nd, n, T, st, v4, g, hv, hr, hs, hR, hm, h1, h2, kk => by
    have e : wrN S r f (m + 1) nd n T st = cif (st.2.1 = 0 ∧ kP S st.1 = 0) (cif ((wr4 S r f nd st).2.1 = 0) (wrN S r f m (i_or nd (i_shl 1 (wrI S r f st))) (n + 1) (ltR S (wr4 S r f nd st).1 (wrI S r f st) T) (wr6 S r f nd st)) (n, T, wr4 S r f nd st)) (n, T, st) := rfl
    have hs0 := hs
    obtain ⟨x1, ⟨a1, a2, a3, a4⟩, c1, c2, c3⟩ := hs0
    have quit : ¬ (st.2.1 = 0 ∧ kP S st.1 = 0) → AW mX9_write 6 0 0 K 159 185 [(2, 140), (0, f), (0, nd), (0, n), v4, (9, 0)] [] g := fun q => by
      rw [e, cif_neg q] at kk
      exact kk g nd v4 hv (fun _ _ _ _ => rfl) hs hR
    refine a_al0 (by decide) dX9_write_76 ?_
    refine aw_get 14 dX9_write_77 fl_X9_120 at_140 rfl ?_
    refine aw_if_ne 185 dX9_write_80 (by decide) (fun c80 => ?_) (fun c80 => ?_)
    · skip
      exact quit (fun q => by omega)
    · refine a_al0 (by decide) dX9_write_83 ?_
      refine aw_get 12 dX9_write_84 fl_X9_104 at_140 rfl ?_
      refine aw_if_ne 185 dX9_write_87 (by decide) (fun c87 => ?_) (fun c87 => ?_)
      · skip
        exact quit (fun q => by omega)
      · have hc : st.2.1 = 0 := by omega
        have hk : kP S st.1 = 0 := by omega
        have hbp := wd_bP hT c3 hk
        have hap := aP_rg hT c3
        have hbr := bP_rg hT c3
        have hR0 := hR hc
        have hm0 := hm hc
        rw [e, cif_pos ⟨hc, hk⟩] at kk
        obtain ⟨I, hI⟩ : ∃ I, I = wrI S r f st := ⟨_, rfl⟩
        have J147 : ∀ g3 st3, LFr g g3 → g3 141 = r → g3 155 = T → (I = -1 ∨ (0 ≤ I ∧ I ≤ 11)) → Sts S L st3 g3 → st3 = (if i_and (i_shr nd I) 1 = 1 then failS S (-4) (wr2 S r f st) else wr2 S r f st) → AW mX9_write 6 0 0 K 159 147 [(2, 140), (0, f), (0, nd), (0, n), (0, I), (9, 0)] [] g3 := fun g3 st3 f3 hr3 hR3 hI2 hs3 e3 => by
          refine a_al0 (by decide) dX9_write_147 ?_
          refine aw_iconst dX9_write_148 (by decide) ?_
          refine aw_callV 4 0 0 dX9_write_149 yw_X9_must ml_X9_143 in_X9_must se_X9_must (ci := 8) rfl at_140 (as := [_]) rfl rfl ⟨by decide, by decide, by decide, Nat.le_of_ble_eq_true rfl⟩ ?_
          refine ac_must hT hs3 (fun g4 pf4 hs4 => ?_)
          have e4 : mustS S 1 st3 = wr4 S r f nd st := by
            rw [e3, hI]
            rfl
          rw [e4] at hs4
          have c4 := hs4.2.2.1
          have f4 : LFr g g4 := LFr_trans f3 (LFr_of pf4)
          have hR4 : g4 155 = T := by rw [← hR3]; funext x; rw [pf4 _ _ (by omega)]
          have hr4 : g4 141 = r := by rw [PFr_row pf4, hr3]
          refine am_cv ?_
          refine a_al0 (by decide) dX9_write_152 ?_
          refine aw_get 14 dX9_write_153 fl_X9_120 at_140 rfl ?_
          try simp (disch := omega) only [up_at, up_ne]
          refine aw_if_eq 162 dX9_write_156 (by decide) (fun c156 => ?_) (fun c156 => ?_)
          · have c0 : (wr4 S r f nd st).2.1 = 0 := by omega
            rw [cif_pos c0] at kk
            obtain ⟨w1, w2, w3, w4, w5, w6⟩ := wr4_c c0
            have hI3 : 0 ≤ I ∧ I ≤ 11 := hI2.resolve_left (by rw [hI]; exact w1)
            have p4 : (wr4 S r f nd st).1 = bP S st.1 := by
              rw [w4]
              unfold nextS
              rw [if_pos hc]
            refine a_il2 dX9_write_162 ?_
            refine aw_iconst dX9_write_163 (by decide) ?_
            refine a_il4 dX9_write_164 ?_
            refine aw_ishl dX9_write_166 ?_
            refine aw_ior dX9_write_167 ?_
            refine a_is2 rfl rfl dX9_write_168 ?_
            refine a_iiR3 (by omega) rfl rfl dX9_write_169 ?_
            refine a_al0 (by decide) dX9_write_172 ?_
            refine a_il4 dX9_write_173 ?_
            refine aw_callV 5 0 0 dX9_write_175 yw_X9_readsLetters ml_X9_340 in_X9_readsLetters se_X9_readsLetters (ci := 8) rfl at_140 (as := [_]) rfl rfl ⟨by decide, by decide, by decide, Nat.le_of_ble_eq_true rfl⟩ ?_
            refine ac_readsLetters hT hI3 hs4 c0 hR4 (fun g5 f5 hs5 hR5 => ?_)
            refine am_cv ?_
            refine a_al0 (by decide) dX9_write_178 ?_
            refine aw_callV 5 0 0 dX9_write_179 yw_X9_mustEnd ml_X9_156 in_X9_mustEnd se_X9_mustEnd (ci := 8) rfl at_140 (as := []) rfl rfl ⟨by decide, by decide, by decide, Nat.le_of_ble_eq_true rfl⟩ ?_
            refine ac_mustEnd hT hs5 (fun g6 pf6 hs6 => ?_)
            have f6 : LFr g g6 := LFr_trans f4 (LFr_trans f5 (LFr_of pf6))
            have o5 := onS_lt hT (st := wr4 S r f nd st) hs4.2.2.2.2
            have o6 := onS_end hT (s := ltS S (wr4 S r f nd st)) hs5.2.2.2.2
            refine am_cv ?_
            refine aw_goto 76 dX9_write_182 (by decide) ?_
            rw [hI]
            rw [hI] at hR5
            refine wr76 hT hn m (i_or nd (i_shl 1 (wrI S r f st))) (n + 1) (ltR S (wr4 S r f nd st).1 (wrI S r f st) T) (wr6 S r f nd st) _ g6 rfl (by rw [PFr_row pf6, ← hr4]; funext x; rw [f5 _ _ (by decide) (by omega)]) hs6 (fun c => ?_) (fun c => ?_) (by omega) (by omega) (fun g' nd' v4' hv' fr' => kk g' nd' v4' hv' (LFr_trans f6 fr'))
            · rw [← hR5 (o6.2.2 c)]
              funext x
              rw [pf6 _ _ (by omega)]
            · have := o6.1
              have := o5.1
              show L - (endS S (ltS S (wr4 S r f nd st))).1 < _
              omega
          · have c0 : ¬ (wr4 S r f nd st).2.1 = 0 := by omega
            rw [cif_neg c0] at kk
            refine aw_goto 76 dX9_write_159 (by decide) ?_
            refine a_al0 (by decide) dX9_write_76 ?_
            refine aw_get 14 dX9_write_77 fl_X9_120 at_140 rfl ?_
            try simp (disch := omega) only [up_at, up_ne]
            refine aw_if_ne 185 dX9_write_80 (by decide) (fun c80 => ?_) (fun c80 => ?_)
            · skip
              exact kk g4 nd _ rfl f4 hs4 (fun c => absurd c c0)
            · exfalso; omega
        have J124 : ∀ g2, LFr g g2 → g2 141 = r → g2 155 = T → (I = -1 ∨ (0 ≤ I ∧ I ≤ 11)) → Sts S L (wr2 S r f st) g2 → (¬ I = -1 ∨ ¬ (wr2 S r f st).2.1 = 0) → AW mX9_write 6 0 0 K 159 124 [(2, 140), (0, f), (0, nd), (0, n), (0, I), (9, 0)] [] g2 := fun g2 f2 hr2 hR2 hI2 hs2 hw => by
          have c9 := hs2.2.2.1
          refine a_al0 (by decide) dX9_write_124 ?_
          refine aw_get 14 dX9_write_125 fl_X9_120 at_140 rfl ?_
          try simp (disch := omega) only [up_at, up_ne]
          refine aw_if_ne 147 dX9_write_128 (by decide) (fun c128 => ?_) (fun c128 => ?_)
          · have cn : ¬ (wr2 S r f st).2.1 = 0 := by omega
            refine J147 g2 _ f2 hr2 hR2 hI2 hs2 ?_
            rw [failS_W cn]
            split <;> rfl
          · refine a_il2 dX9_write_131 ?_
            refine a_il4 dX9_write_132 ?_
            refine aw_ishr dX9_write_134 ?_
            refine aw_iconst dX9_write_135 (by decide) ?_
            refine aw_iand dX9_write_136 ?_
            refine aw_iconst dX9_write_137 (by decide) ?_
            refine aw_icmp_ne 147 dX9_write_138 (by decide) (fun c138 => ?_) (fun c138 => ?_)
            · skip
              refine J147 g2 _ f2 hr2 hR2 hI2 hs2 ?_
              rw [if_neg (by assumption)]
            · refine a_al0 (by decide) dX9_write_141 ?_
              refine aw_bipush dX9_write_142 (by decide) ?_
              refine aw_callV 1 0 0 dX9_write_144 yw_X9_fails ml_X9_126 in_X9_fails se_X9_fails (ci := 8) rfl at_140 (as := [_]) rfl rfl ⟨by decide, by decide, by decide, Nat.le_of_ble_eq_true rfl⟩ ?_
              refine ac_fails hs2 (by decide) (fun g3 pf3 hs3 => ?_)
              refine am_cv ?_
              refine J147 g3 _ (LFr_trans f2 (LFr_of pf3)) (by rw [PFr_row pf3, hr2]) (by rw [← hR2]; funext x; rw [pf3 _ _ (by omega)]) hI2 hs3 ?_
              rw [if_pos (by assumption)]
        have J110 : ∀ g1, LFr g g1 → g1 141 = r → g1 155 = T → (I = -1 ∨ (0 ≤ I ∧ I ≤ 11)) → Sts S L (nameS S st) g1 → AW mX9_write 6 0 0 K 159 110 [(2, 140), (0, f), (0, nd), (0, n), v4, (9, 0)] [(0, I)] g1 := fun g1 f1 hr1 hR1 hI2 hs1 => by
          refine a_is4 rfl rfl dX9_write_110 ?_
          refine a_il4 dX9_write_112 ?_
          refine aw_iconst dX9_write_114 (by decide) ?_
          refine aw_icmp_ne 124 dX9_write_115 (by decide) (fun c115 => ?_) (fun c115 => ?_)
          · have hne : ¬ I = -1 := by assumption
            have e2 : wr2 S r f st = nameS S st := if_neg (by rw [← hI]; exact hne)
            exact J124 g1 f1 hr1 hR1 hI2 (by rw [e2]; exact hs1) (Or.inl hne)
          · have hne : I = -1 := by assumption
            have e2 : wr2 S r f st = failS S (-7) (nameS S st) := if_pos (by rw [← hI]; exact hne)
            refine a_al0 (by decide) dX9_write_118 ?_
            refine aw_bipush dX9_write_119 (by decide) ?_
            refine aw_callV 1 0 0 dX9_write_121 yw_X9_fails ml_X9_126 in_X9_fails se_X9_fails (ci := 8) rfl at_140 (as := [_]) rfl rfl ⟨by decide, by decide, by decide, Nat.le_of_ble_eq_true rfl⟩ ?_
            refine ac_fails hs1 (by decide) (fun g2 pf2 hs2 => ?_)
            refine am_cv ?_
            exact J124 g2 (LFr_trans f1 (LFr_of pf2)) (by rw [PFr_row pf2, hr1]) (by rw [← hR1]; funext x; rw [pf2 _ _ (by omega)]) hI2 (by rw [e2]; exact hs2) (Or.inr (by rw [e2]; exact failS_n (by decide)))
        refine a_al0 (by decide) dX9_write_90 ?_
        refine aw_callV 2 0 0 dX9_write_91 yw_X9_mustName ml_X9_159 in_X9_mustName se_X9_mustName (ci := 8) rfl at_140 (as := []) rfl rfl ⟨by decide, by decide, by decide, Nat.le_of_ble_eq_true rfl⟩ ?_
        refine ac_mustName hT hs (fun g1 pf1 hs1 => ?_)
        have d1 := hs1.2.2.1
        have r1 : g1 141 = r := by rw [PFr_row pf1, hr]
        have R1 : g1 155 = T := by rw [← hR0]; funext x; rw [pf1 _ _ (by omega)]
        refine am_cv ?_
        refine a_al0 (by decide) dX9_write_94 ?_
        refine aw_get 14 dX9_write_95 fl_X9_120 at_140 rfl ?_
        try simp (disch := omega) only [up_at, up_ne]
        refine aw_if_ne 109 dX9_write_98 (by decide) (fun c98 => ?_) (fun c98 => ?_)
        · have cn : ¬ (nameS S st).2.1 = 0 := by omega
          have eI : I = -1 := by rw [hI]; unfold wrI; rw [if_neg cn]
          refine aw_iconst dX9_write_109 (by decide) ?_
          rw [show ((0, -1) : AV) = (0, I) by rw [eI]]
          exact J110 g1 (LFr_of pf1) r1 R1 (Or.inl eI) hs1
        · have cn : (nameS S st).2.1 = 0 := by omega
          refine a_al0 (by decide) dX9_write_101 ?_
          refine a_il1 dX9_write_102 ?_
          refine aw_callV 4 0 0 dX9_write_103 yw_X9_namedOf ml_X9_337 in_X9_namedOf se_X9_namedOf (ci := 8) rfl at_140 (as := [_]) rfl rfl ⟨by decide, by decide, by decide, Nat.le_of_ble_eq_true rfl⟩ ?_
          refine ac_namedOf hT hs1 (by rw [r1]; exact hn) (fun x hx => ?_)
          rw [nameS_1, r1] at hx
          have eI : x = I := by rw [hI]; unfold wrI; rw [if_pos cn, fstX_eq hx]
          have hx2 : x = -1 ∨ (0 ≤ x ∧ x ≤ 11) := by
            rcases hx with ⟨q1, q2, _⟩ | ⟨q1, _⟩
            · exact Or.inr ⟨q1, by omega⟩
            · exact Or.inl q1
          refine am_ci ?_
          try simp (disch := omega) only [up_at, up_ne]
          refine aw_goto 110 dX9_write_106 (by decide) ?_
          rw [eI]
          rw [eI] at hx2
          exact J110 g1 (LFr_of pf1) r1 R1 hx2 hs1
/-- the orders of a fleet's ships are the letters -/
def OrdS (h : AH) (f : Int) (T : Int → Int) (h' : AH) : Prop := (∀ k x, ¬ (k = 141 ∧ ∃ i p, 0 ≤ i ∧ i < h 141 3 ∧ 0 ≤ p ∧ p < 6 ∧ h 141 (46 + 25 * i + 0) = f ∧ x = 46 + 25 * i + (11 + p)) → h' k x = h k x) ∧ ∀ i p, 0 ≤ i → i < h 141 3 → 0 ≤ p → p < 6 → h 141 (46 + 25 * i + 0) = f → h' 141 (46 + 25 * i + (11 + p)) = T (6 * i + p)
theorem wr212 {f n : Int} {T : Int → Int} {nd : Int} {v5 : AV} {h : AH} {K : AO → Nat → AH → Prop} (hn : 0 ≤ h 141 3 ∧ h 141 3 ≤ 12) (hR : h 155 = T) (hv5 : am_n2 v5 = true) (kk : ∀ h', OrdS h f T h' → K (.inl (some (0, n))) 159 h') : AW mX9_write 6 0 0 K 159 212 [(2, 140), (0, f), (0, nd), (0, n), (0, 0), v5] [] h := by
  refine aw_loop (fun q : Int × AV × AH => 0 ≤ q.1 ∧ q.1 ≤ h 141 3 ∧ am_n2 q.2.1 = true ∧ (∀ k x, ¬ (k = 141 ∧ ∃ i p, 0 ≤ i ∧ i < q.1 ∧ 0 ≤ p ∧ p < 6 ∧ h 141 (46 + 25 * i + 0) = f ∧ x = 46 + 25 * i + (11 + p)) → q.2.2 k x = h k x) ∧ ∀ i p, 0 ≤ i → i < q.1 → 0 ≤ p → p < 6 → h 141 (46 + 25 * i + 0) = f → q.2.2 141 (46 + 25 * i + (11 + p)) = T (6 * i + p)) (fun q => (h 141 3 - q.1).toNat) (fun q => AW mX9_write 6 0 0 K 159 212 [(2, 140), (0, f), (0, nd), (0, n), (0, q.1), q.2.1] [] q.2.2) (fun q hq ih => ?_) (0, v5, h) ⟨by dsimp only; omega, by dsimp only; omega, hv5, fun _ _ _ => rfl, fun i p a b => by dsimp only at b; omega⟩
  obtain ⟨i, v, g⟩ := q
  obtain ⟨i0, i1, hv, fr, hj⟩ := hq
  dsimp only at i0 i1 hv fr hj ih ⊢
  have g3 : g 141 3 = h 141 3 := fr _ _ (fun ⟨_, i, p, q⟩ => by omega)
  refine a_il4 dX9_write_212 ?_
  refine a_al0 (by decide) dX9_write_214 ?_
  refine aw_getR (r := 141) 0 rfl dX9_write_215 fl_X9_7 at_140 rfl rfl ?_
  refine aw_iconst dX9_write_218 (by decide) ?_
  refine aw_iald dX9_write_219 ar_141 (by omega) ?_
  refine aw_icmp_ge 280 dX9_write_220 (by decide) (fun c220 => ?_) (fun c220 => ?_)
  · have ei : i = h 141 3 := by omega
    refine a_il3 dX9_write_280 ?_
    refine aw_iret dX9_write_281 rfl ?_
    rw [ei] at fr hj
    exact kk g ⟨fr, hj⟩
  · have i2 : i < h 141 3 := by omega
    refine aw_iconst dX9_write_223 (by decide) ?_
    refine a_is5 rfl rfl dX9_write_224 ?_
    refine aw_loop (fun q : Int × AH => 0 ≤ q.1 ∧ q.1 ≤ 6 ∧ (∀ k x, ¬ (k = 141 ∧ h 141 (46 + 25 * i + 0) = f ∧ 46 + 25 * i + 11 ≤ x ∧ x < 46 + 25 * i + (11 + q.1)) → q.2 k x = g k x) ∧ ∀ p, 0 ≤ p → p < q.1 → h 141 (46 + 25 * i + 0) = f → q.2 141 (46 + 25 * i + (11 + p)) = T (6 * i + p)) (fun q => (6 - q.1).toNat) (fun q => AW mX9_write 6 0 0 K 159 226 [(2, 140), (0, f), (0, nd), (0, n), (0, i), (0, q.1)] [] q.2) (fun q hq ih2 => ?_) (0, g) ⟨by dsimp only; omega, by dsimp only; omega, fun _ _ _ => rfl, fun p a b => by dsimp only at b; omega⟩
    obtain ⟨p, g2⟩ := q
    obtain ⟨p0, p1, fr2, hj2⟩ := hq
    dsimp only at p0 p1 fr2 hj2 ih2 ⊢
    have gf : g2 141 (46 + 25 * i + 0) = h 141 (46 + 25 * i + 0) := by rw [fr2 _ _ (by omega), fr _ _ (fun ⟨_, i', p', q⟩ => by omega)]
    refine a_il5 dX9_write_226 ?_
    refine aw_bipush dX9_write_228 (by decide) ?_
    refine aw_icmp_ge 274 dX9_write_230 (by decide) (fun c230 => ?_) (fun c230 => ?_)
    · have ep : p = 6 := by omega
      refine a_iiR4 (by omega) rfl rfl dX9_write_274 ?_
      refine aw_goto 212 dX9_write_277 (by decide) ?_
      refine ih (i + 1, (0, p), g2) ⟨by dsimp only; omega, by dsimp only; omega, rfl, fun k x c => ?_, fun i' p' a b c d w => ?_⟩ (by dsimp only; omega)
      · dsimp only at c ⊢
        rw [fr2 k x (fun q => c ⟨q.1, i, x - (46 + 25 * i + 11), i0, by omega, by omega, by omega, q.2.1, by omega⟩)]
        exact fr k x (fun ⟨q1, i', p', q2, q3, q4⟩ => c ⟨q1, i', p', q2, by omega, q4⟩)
      · dsimp only at b ⊢
        by_cases e : i' = i
        · rw [e]
          rw [e] at w
          exact hj2 p' c (by omega) w
        · rw [fr2 _ _ (by omega)]
          exact hj i' p' a (by omega) c d w
    · have p2 : p < 6 := by omega
      refine a_al0 (by decide) dX9_write_233 ?_
      refine a_il4 dX9_write_234 ?_
      refine aw_iconst dX9_write_236 (by decide) ?_
      refine aw_callV 1 0 0 dX9_write_237 yw_X9_of ml_X9_213 in_X9_of se_X9_of (ci := 8) rfl at_140 (as := [_, _]) rfl rfl ⟨by decide, by decide, by decide, Nat.le_of_ble_eq_true rfl⟩ ?_
      refine ac_of_ (by omega) (by decide) ?_
      rw [gf]
      refine am_ci ?_
      refine a_il1 dX9_write_240 ?_
      refine aw_icmp_ne 268 dX9_write_241 (by decide) (fun c241 => ?_) (fun c241 => ?_)
      · have cn : ¬ h 141 (46 + 25 * i + 0) = f := by assumption
        refine a_iiR5 (by omega) rfl rfl dX9_write_268 ?_
        refine aw_goto 226 dX9_write_271 (by decide) ?_
        refine ih2 (p + 1, g2) ⟨by dsimp only; omega, by dsimp only; omega, fun k x c => fr2 k x (fun q => cn q.2.1), fun p' a b c => absurd c cn⟩ (by dsimp only; omega)
      · have cn : h 141 (46 + 25 * i + 0) = f := by assumption
        have gT : g2 155 (6 * i + p) = T (6 * i + p) := by
          rw [fr2 _ _ (by omega), fr _ _ (by omega), hR]
        refine a_al0 (by decide) dX9_write_244 ?_
        refine a_il4 dX9_write_245 ?_
        refine aw_bipush dX9_write_247 (by decide) ?_
        refine a_il5 dX9_write_249 ?_
        refine aw_iaddR (by omega) dX9_write_251 ?_
        refine a_al0 (by decide) dX9_write_252 ?_
        refine aw_getR (r := 155) 25 rfl dX9_write_253 fl_X9_57 at_140 rfl rfl ?_
        refine aw_bipush dX9_write_256 (by decide) ?_
        refine a_il4 dX9_write_258 ?_
        refine aw_imulR (by omega) dX9_write_260 ?_
        refine a_il5 dX9_write_261 ?_
        refine aw_iaddR (by omega) dX9_write_263 ?_
        refine aw_iald dX9_write_264 ar_155 (by omega) ?_
        refine aw_callV 1 0 0 dX9_write_265 yw_X9_sets ml_X9_228 in_X9_sets se_X9_sets (ci := 8) rfl at_140 (as := [_, _, _]) rfl rfl ⟨by decide, by decide, by decide, Nat.le_of_ble_eq_true rfl⟩ ?_
        rw [gT]
        refine ac_sets (by omega) (by omega) ?_
        refine am_cv ?_
        refine a_iiR5 (by omega) rfl rfl dX9_write_268 ?_
        refine aw_goto 226 dX9_write_271 (by decide) ?_
        refine ih2 (p + 1, up g2 141 (46 + 25 * i + (11 + p)) (T (6 * i + p))) ⟨by dsimp only; omega, by dsimp only; omega, fun k x c => ?_, fun p' a b c => ?_⟩ (by dsimp only; omega)
        · dsimp only at c ⊢
          rw [up_ne (fun q => c ⟨q.1, cn, by omega, by omega⟩), fr2 k x (fun q => c ⟨q.1, q.2.1, q.2.2.1, by omega⟩)]
        · dsimp only at b ⊢
          by_cases e : p' = p
          · rw [e, up_at]
          · rw [up_ne (by omega)]
            exact hj2 p' a (by omega) c
def WrFr (h g : AH) : Prop := ∀ k x, k ≠ 155 → ¬ (k = 140 ∧ (x = 7 ∨ (9 ≤ x ∧ x ≤ 16))) → g k x = h k x
def letR (T : Int → Int) : Int → Int := fun y => if 0 ≤ y ∧ y < 72 then 1 else T y
noncomputable def WR (S : Int → Int) (r : Int → Int) (f : Int) (T : Int → Int) : Int × (Int → Int) × PS := wrN S r f 700 0 0 (letR T) (0, 0, 0)
noncomputable def WRe (S : Int → Int) (r : Int → Int) (f : Int) (T : Int → Int) : PS := endAll S (WR S r f T).2.2
theorem ac_write {S : Int → Int} {L f : Int} {h : AH} {r T : Int → Int} {K : AO → Nat → AH → Prop} (hT : TxS S L) (hx : Tx S L h) (hk : 0 ≤ h 140 6 ∧ h 140 6 ≤ 8) (hr : h 141 = r) (hR : h 155 = T) (hn : 0 ≤ r 3 ∧ r 3 ≤ 12) (hf : 0 ≤ r 2 ∧ r 2 ≤ 4)
  (k1 : ¬ (0 ≤ f ∧ f < r 2) → K (.inl (some (0, 0))) 159 (up h 140 7 1))
  (k2 : 0 ≤ f ∧ f < r 2 → r (34 + 3 * f + 1) = 1 → K (.inl (some (0, 0))) 159 (up h 140 7 2))
  (kE : 0 ≤ f ∧ f < r 2 → ¬ r (34 + 3 * f + 1) = 1 → ∀ h', WrFr h h' → h' 140 7 = 0 → h' 140 9 = 0 → h' 140 16 = (WRe S r f T).2.2 → ¬ (WRe S r f T).2.1 = 0 → K (.inl (some (0, (WRe S r f T).2.1))) 159 h')
  (kS : 0 ≤ f ∧ f < r 2 → ¬ r (34 + 3 * f + 1) = 1 → (WRe S r f T).2.1 = 0 → ∀ h1 h2 h', WrFr h h1 → h1 140 7 = 0 → h1 140 9 = 0 → h1 140 16 = -1 → Kept h1 141 h2 → OrdS h2 f (WR S r f T).2.1 h' → K (.inl (some (0, (WR S r f T).1))) 159 h') : AC mX9_write 6 0 0 159 [(2, 140), (0, f)] h K := by
  have hL := hT.1
  have h3 : h 141 3 = r 3 := by rw [hr]
  have h2 : h 141 2 = r 2 := by rw [hr]
  have hst : h 141 (34 + 3 * f + 1) = r (34 + 3 * f + 1) := by rw [hr]
  refine ac_of (ls := [(2, 140), (0, f), (9, 0), (9, 0), (9, 0), (9, 0)]) pn_X9 rfl (Nat.le_of_ble_eq_true rfl) rfl ?_
  refine a_al0 (by decide) dX9_write_0 ?_
  refine a_al0 (by decide) dX9_write_1 ?_
  refine a_il1 dX9_write_2 ?_
  refine aw_callV 2 0 0 dX9_write_3 yw_X9_isFleet ml_X9_275 in_X9_isFleet se_X9_isFleet (ci := 8) rfl at_140 (as := [_]) rfl rfl ⟨by decide, by decide, by decide, Nat.le_of_ble_eq_true rfl⟩ ?_
  refine ac_isFleet (by omega) (fun q => ?_) (fun q => ?_)
  · rw [h2] at q
    refine am_ci ?_
    refine aw_if_ne_y 13 dX9_write_6 (by decide) (by decide) ?_
    refine a_al0 (by decide) dX9_write_13 ?_
    refine aw_getR (r := 141) 0 rfl dX9_write_14 fl_X9_7 at_140 rfl rfl ?_
    refine aw_bipush dX9_write_17 (by decide) ?_
    refine aw_iconst dX9_write_19 (by decide) ?_
    refine a_il1 dX9_write_20 ?_
    refine aw_imulR (by omega) dX9_write_21 ?_
    refine aw_iaddR (by omega) dX9_write_22 ?_
    refine aw_iconst dX9_write_23 (by decide) ?_
    refine aw_iaddR (by omega) dX9_write_24 ?_
    refine aw_iald dX9_write_25 ar_141 (by omega) ?_
    refine aw_iconst dX9_write_26 (by decide) ?_
    refine aw_icmp_ne 34 dX9_write_27 (by decide) (fun c27 => ?_) (fun c27 => ?_)
    · refine aw_iconst dX9_write_34 (by decide) ?_
      refine aw_put 7 dX9_write_35 fp_X9_66 at_140 rfl ?_
      refine a_al0 (by decide) dX9_write_38 ?_
      refine aw_get 7 dX9_write_39 fl_X9_66 at_140 rfl ?_
      try simp (disch := omega) only [up_at, up_ne]
      refine aw_if_le_y 47 dX9_write_42 (by decide) (by decide) ?_
      refine aw_iconst dX9_write_47 (by decide) ?_
      refine a_is2 rfl rfl dX9_write_48 ?_
      have ns : ¬ r (34 + 3 * f + 1) = 1 := by omega
      obtain ⟨g0, hg0⟩ : ∃ g0, g0 = up h 140 7 0 := ⟨_, rfl⟩
      rw [← hg0]
      have J68 : AW mX9_write 6 0 0 K 159 68 [(2, 140), (0, f), (0, 72), (9, 0), (9, 0), (9, 0)] [] (fillH g0 155 72 1) := by
        have hx0 : Tx S L (fillH g0 155 72 1) := ⟨by
          unfold fillH
          rw [if_neg (by omega), hg0, up_ne (by omega)]
          exact hx.1, fun k a b => by
          unfold fillH
          rw [if_neg (by omega), hg0, up_ne (by omega)]
          exact hx.2 k a b⟩
        refine aw_iconst dX9_write_68 (by decide) ?_
        refine a_is2 rfl rfl dX9_write_69 ?_
        refine aw_iconst dX9_write_70 (by decide) ?_
        refine a_is3 rfl rfl dX9_write_71 ?_
        refine a_al0 (by decide) dX9_write_72 ?_
        refine aw_callV 4 0 0 dX9_write_73 yw_X9_starts ml_X9_193 in_X9_starts se_X9_starts (ci := 8) rfl at_140 (as := []) rfl rfl ⟨by decide, by decide, by decide, Nat.le_of_ble_eq_true rfl⟩ ?_
        refine ac_starts hT hx0 (fun g1 pf1 hs1 => ?_)
        have row1 : g1 141 = r := by
          rw [PFr_row pf1, ← hr]
          funext x
          unfold fillH
          rw [if_neg (by omega), hg0, up_ne (by omega)]
        have T1 : g1 155 = letR T := by
          funext x
          rw [pf1 _ _ (by omega)]
          unfold fillH letR
          by_cases z : 0 ≤ x ∧ x < 72
          · rw [if_pos ⟨rfl, z.1, z.2⟩, if_pos z]
          · rw [if_neg (fun y => z y.2), if_neg z, hg0, up_ne (by omega), hR]
        have f1 : WrFr h g1 := fun k x a b => by
          rw [pf1 _ _ (by omega)]
          unfold fillH
          rw [if_neg (fun y => a y.1), hg0, up_ne (by omega)]
        have t1 : g1 140 7 = 0 := by
          rw [pf1 _ _ (by omega)]
          unfold fillH
          rw [if_neg (by omega), hg0, up_at]
        refine am_cv ?_
        refine wr76 hT hn 700 0 0 (letR T) (0, 0, 0) (9, 0) g1 rfl row1 hs1 (fun _ => T1) (fun _ => by show L - (0 : Int) < _; omega) (by decide) (by decide) (fun g2 nd v4 hv4 f2 hs2 hR2 => ?_)
        have eW : wrN S r f 700 0 0 (letR T) (0, 0, 0) = WR S r f T := rfl
        rw [eW] at hs2 hR2 ⊢
        refine a_al0 (by decide) dX9_write_185 ?_
        refine aw_callV 2 0 0 dX9_write_186 yw_X9_ends ml_X9_210 in_X9_ends se_X9_ends (ci := 8) rfl at_140 (as := []) rfl rfl ⟨by decide, by decide, by decide, Nat.le_of_ble_eq_true rfl⟩ ?_
        refine ac_ends hT hs2 (fun g3 f3 e14 e9 e16 => ?_)
        have eE : endAll S (WR S r f T).2.2 = WRe S r f T := rfl
        rw [eE] at e14 e16
        have fr3 : WrFr h g3 := fun k x a b => by rw [f3 k x (by omega), f2 k x a (by omega), f1 k x a b]
        have t3 : g3 140 7 = 0 := by rw [f3 _ _ (by omega), f2 _ _ (by decide) (by omega), t1]
        refine am_cv ?_
        refine a_al0 (by decide) dX9_write_189 ?_
        refine aw_get 14 dX9_write_190 fl_X9_120 at_140 rfl ?_
        try simp (disch := omega) only [up_at, up_ne]
        refine aw_if_eq 201 dX9_write_193 (by decide) (fun c193 => ?_) (fun c193 => ?_)
        · have c0 : (WRe S r f T).2.1 = 0 := by omega
          rw [if_pos c0] at e16
          refine a_al0 (by decide) dX9_write_201 ?_
          refine a_al0 (by decide) dX9_write_202 ?_
          refine aw_getR (r := 141) 0 rfl dX9_write_203 fl_X9_7 at_140 rfl rfl ?_
          try simp (disch := omega) only [up_at, up_ne]
          refine aw_callV 2 0 0 dX9_write_206 yw_X9_keeps ml_X9_80 in_X9_keeps se_X9_keeps (ci := 8) rfl at_140 (as := [_]) rfl rfl ⟨by decide, by decide, by decide, Nat.le_of_ble_eq_true rfl⟩ ?_
          refine ac_keeps ar_141 (by decide) (by decide) (by rw [fr3 _ _ (by decide) (by omega)]; exact hk) (fun g4 hK => ?_)
          have c1 : (WR S r f T).2.2.2.1 = 0 := by
            have : (endAll S (WR S r f T).2.2).2.1 = 0 := c0
            unfold endAll at this
            split at this
            · exact this
            · exact failS_c this
          refine am_cv ?_
          refine aw_iconst dX9_write_209 (by decide) ?_
          refine a_is4 rfl rfl dX9_write_210 ?_
          refine wr212 ?_ ?_ rfl (fun h' ho => kS q ns c0 g3 g4 h' fr3 t3 e9 e16 hK ho)
          · rw [hK.1 _ _ (by decide) (by omega), fr3 _ _ (by decide) (by omega), h3]; exact hn
          · funext x
            rw [hK.1 _ _ (by decide) (by omega), f3 _ _ (by omega), hR2 c1]
        · have c0 : ¬ (WRe S r f T).2.1 = 0 := by omega
          rw [if_neg c0] at e16
          refine a_al0 (by decide) dX9_write_196 ?_
          refine aw_get 14 dX9_write_197 fl_X9_120 at_140 rfl ?_
          try simp (disch := omega) only [up_at, up_ne]
          refine aw_iret dX9_write_200 rfl ?_
          rw [e14]
          exact kE q ns g3 fr3 t3 e9 e16 c0
      have H := aw_loop (fun i : Int => 0 ≤ i ∧ i ≤ 72) (fun i => (72 - i).toNat) (fun i => AW mX9_write 6 0 0 K 159 49 [(2, 140), (0, f), (0, i), (9, 0), (9, 0), (9, 0)] [] (fillH g0 155 i 1)) (fun i hi ih => ?_) 0 ⟨by omega, by omega⟩
      · rw [fillH_0] at H
        exact H
      · refine a_il2 dX9_write_49 ?_
        refine aw_bipush dX9_write_50 (by decide) ?_
        refine aw_icmp_ge 68 dX9_write_52 (by decide) (fun c52 => ?_) (fun c52 => ?_)
        · skip
          rw [show i = 72 by omega]
          exact J68
        · refine a_al0 (by decide) dX9_write_55 ?_
          refine aw_getR (r := 155) 25 rfl dX9_write_56 fl_X9_57 at_140 rfl rfl ?_
          try simp (disch := omega) only [up_at, up_ne]
          refine a_il2 dX9_write_59 ?_
          refine aw_iconst dX9_write_60 (by decide) ?_
          refine aw_iast dX9_write_61 ar_155 (by omega) ?_
          refine a_iiR2 (by omega) rfl rfl dX9_write_62 ?_
          refine aw_goto 49 dX9_write_65 (by decide) ?_
          rw [fillH_s g0 hi.1]
          exact ih (i + 1) ⟨by omega, by omega⟩ (by omega)
    · refine aw_iconst dX9_write_30 (by decide) ?_
      refine aw_goto 35 dX9_write_31 (by decide) ?_
      refine aw_put 7 dX9_write_35 fp_X9_66 at_140 rfl ?_
      refine a_al0 (by decide) dX9_write_38 ?_
      refine aw_get 7 dX9_write_39 fl_X9_66 at_140 rfl ?_
      try simp (disch := omega) only [up_at, up_ne]
      refine aw_if_le_n 47 dX9_write_42 (by decide) (by decide) ?_
      refine aw_iconst dX9_write_45 (by decide) ?_
      refine aw_iret dX9_write_46 rfl ?_
      exact k2 q (by omega)
  · rw [h2] at q
    refine am_ci ?_
    refine aw_if_ne_n 13 dX9_write_6 (by decide) (by decide) ?_
    refine aw_iconst dX9_write_9 (by decide) ?_
    refine aw_goto 35 dX9_write_10 (by decide) ?_
    refine aw_put 7 dX9_write_35 fp_X9_66 at_140 rfl ?_
    refine a_al0 (by decide) dX9_write_38 ?_
    refine aw_get 7 dX9_write_39 fl_X9_66 at_140 rfl ?_
    try simp (disch := omega) only [up_at, up_ne]
    refine aw_if_le_n 47 dX9_write_42 (by decide) (by decide) ?_
    refine aw_iconst dX9_write_45 (by decide) ?_
    refine aw_iret dX9_write_46 rfl ?_
    exact k1 q
