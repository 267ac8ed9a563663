/-! reading: a whole ship, from its word on -/
theorem nmRow_put {S : Int → Int} {p s : Int} {g g' : AH} {r : Int → Int} (hp : Put S p 141 (s + 17) g g') (hr : g 141 = r) : g' 141 = nmRow r s (nmv S p) := by
  funext x
  unfold nmRow
  by_cases e : s + 17 ≤ x ∧ x < s + 25
  · rw [if_pos e]
    have := hp.2 (x - (s + 17)) (by omega) (by omega)
    rw [← this]
    congr 1
    omega
  · rw [if_neg e, hp.1 141 x (by omega), hr]
theorem Sts_put {S : Int → Int} {L p r x : Int} {st : PS} {g g' : AH} (hne : r ≠ 140 ∧ r ≠ 147) (hp : Put S p r x g g') (hs : Sts S L st g) : Sts S L st g' := by
  obtain ⟨⟨x1, x2⟩, ⟨a1, a2, a3, a4⟩, c1, c2, c3⟩ := hs
  have f := hp.1
  refine ⟨⟨?_, fun k a b => ?_⟩, ⟨?_, ?_, ?_, ?_⟩, ?_, fun q => ?_, c3⟩
  · rw [f _ _ (by omega)]; exact x1
  · rw [f _ _ (by omega)]; exact x2 k a b
  · rw [f _ _ (by omega)]; exact a1
  · rw [f _ _ (by omega)]; exact a2
  · rw [f _ _ (by omega)]; exact a3
  · rw [f _ _ (by omega)]; exact a4
  · rw [f _ _ (by omega)]; exact c1
  · rw [f _ _ (by omega)]; exact c2 q
theorem rp178 {S : Int → Int} {L f n s : Int} {v7 v8 : AV} {h : AH} {r r1 : Int → Int} {st : PS} {g : AH} {K : AO → Nat → AH → Prop} (hT : TxS S L) (hst : 0 ≤ st.1 ∧ st.1 ≤ L) (hn3 : r 3 = n) (hs0 : s = 46 + 25 * n) (hn : 0 ≤ n ∧ n ≤ 11) (h3 : r1 3 = n) (hv7 : am_n2 v7 = true) (hv : am_n2 v8 = true) (hr1 : r1 = upr (nmRow r s (nmv S (shpM S r st).1)) s f) (kk : ∀ h', RFr h h' → Sts S L (shpE S r f st) h' → ((shpE S r f st).2.1 = 0 → h' 141 = shpR S r f st) → K (.inl none) 159 h') (hs : RS S L h r1 (cif (∃ k, 0 ≤ k ∧ k < r 3 ∧ rAt r (shpc S r st) (shpw S r st) k) (failS S (-5) (standS S 0 7 (shp6 S r st))) (standS S 0 7 (shp6 S r st))) g) : AW mX9_readsShip 7 0 0 K 159 178 [(2, 140), (0, f), (0, n), (0, s), (0, shpc S r st), (0, shpw S r st), (0, shpd S r st), v7, v8] [] g := by
  refine a_al0 (by decide) dX9_readsShip_178 ?_
  refine aw_iconst dX9_readsShip_179 (by decide) ?_
  refine aw_callV 4 0 0 dX9_readsShip_180 yw_X9_must ml_X9_143 in_X9_must se_X9_must (ci := 8) rfl at_140 (as := [_]) rfl rfl ⟨by decide, by decide, by decide, Nat.le_of_ble_eq_true rfl⟩ ?_
  refine ac_must hT hs.2.1 (fun g2 pf2 hs2 => ?_)
  have hR : RS S L h r1 (shp8 S r st) g2 := RS_go hs pf2 hs2 (onS_must hT hs.2.1.2.2.2.2).2.2
  have c1 := hR.2.1.2.2.1
  refine am_cv ?_
  refine a_al0 (by decide) dX9_readsShip_183 ?_
  refine aw_get 14 dX9_readsShip_184 fl_X9_120 at_140 rfl ?_
  try simp (disch := omega) only [up_at, up_ne]
  refine aw_if_eq 191 dX9_readsShip_187 (by decide) (fun c187 => ?_) (fun c187 => ?_)
  · have c0 : (shp8 S r st).2.1 = 0 := by omega
    refine rp191 (r1 := r1) hT hs0 hn h3 c0 hv7 hv hR (fun h' fr hs' hrow => kk h' fr ?_ (fun c => ?_))
    · unfold shpE shpO shpD
      rw [hn3, ← hs0, ← hr1]
      exact hs'
    · unfold shpE shpO shpD at c
      rw [hn3, ← hs0, ← hr1] at c
      unfold shpR shpO shpD
      rw [hn3, ← hs0, ← hr1]
      exact hrow c
  · have c0 : ¬ (shp8 S r st).2.1 = 0 := by omega
    refine aw_vret dX9_readsShip_190 rfl ?_
    refine kk g2 hR.1 ?_ (fun c => ?_)
    · rw [shpE_W c0]; exact hR.2.1
    · rw [shpE_W c0] at c; exact absurd c c0
theorem rp83 {S : Int → Int} {L f n : Int} {h : AH} {r : Int → Int} {st : PS} {g : AH} {v3 : AV} {K : AO → Nat → AH → Prop} (hT : TxS S L) (hst : 0 ≤ st.1 ∧ st.1 ≤ L) (hn3 : r 3 = n) (hn : 0 ≤ n ∧ n ≤ 11) (h01 : (4 ≤ r 0 ∧ r 0 ≤ 30) ∧ (4 ≤ r 1 ∧ r 1 ≤ 30)) (hv3 : am_n2 v3 = true) (hc0 : (shpM S r st).2.1 = 0) (kk : ∀ h', RFr h h' → Sts S L (shpE S r f st) h' → ((shpE S r f st).2.1 = 0 → h' 141 = shpR S r f st) → K (.inl none) 159 h') (hs : RS S L h r (shpM S r st) g) : AW mX9_readsShip 7 0 0 K 159 83 [(2, 140), (0, f), (0, n), v3, (9, 0), (9, 0), (9, 0), (9, 0), (9, 0)] [] g := by
  obtain ⟨s, hs0⟩ : ∃ s, s = 46 + 25 * n := ⟨_, rfl⟩
  have m0 := hs.2.1.2.2.2.2
  refine aw_bipush dX9_readsShip_83 (by decide) ?_
  refine aw_bipush dX9_readsShip_85 (by decide) ?_
  refine a_il2 dX9_readsShip_87 ?_
  refine aw_imulR (by omega) dX9_readsShip_88 ?_
  refine aw_iaddR (by omega) dX9_readsShip_89 ?_
  refine a_is3 rfl rfl dX9_readsShip_90 ?_
  refine a_al0 (by decide) dX9_readsShip_91 ?_
  refine a_al0 (by decide) dX9_readsShip_92 ?_
  refine aw_getR (r := 141) 0 rfl dX9_readsShip_93 fl_X9_7 at_140 rfl rfl ?_
  refine a_il3 dX9_readsShip_96 ?_
  refine aw_bipush dX9_readsShip_97 (by decide) ?_
  refine aw_iaddR (by omega) dX9_readsShip_99 ?_
  refine aw_callV 1 0 0 dX9_readsShip_100 yw_X9_putsName ml_X9_166 in_X9_putsName se_X9_putsName (ci := 8) rfl at_140 (as := [_, _]) rfl rfl ⟨by decide, by decide, by decide, Nat.le_of_ble_eq_true rfl⟩ ?_
  rw [← hs0]
  refine ac_putsName hT hs.2.1 ar_141 (by omega) (by decide) (by decide) (fun g1 hp => ?_)
  have hrow1 := nmRow_put hp (hs.2.2 hc0)
  have hs1 := Sts_put (by decide) hp hs.2.1
  have fr1 : RFr h g1 := RFr_trans hs.1 (fun k x a b => hp.1 k x (by omega))
  refine am_cv ?_
  refine a_al0 (by decide) dX9_readsShip_103 ?_
  refine aw_callV 3 0 0 dX9_readsShip_104 yw_X9_next ml_X9_123 in_X9_next se_X9_next (ci := 8) rfl at_140 (as := []) rfl rfl ⟨by decide, by decide, by decide, Nat.le_of_ble_eq_true rfl⟩ ?_
  refine ac_nextS hT hs1 hc0 (fun g2 pf2 hs2 => ?_)
  have w0 : g2 141 0 = r 0 := by rw [PFr_row pf2, hrow1]; unfold nmRow; rw [if_neg (by omega)]
  refine am_cv ?_
  refine a_al0 (by decide) dX9_readsShip_107 ?_
  refine aw_getR (r := 141) 0 rfl dX9_readsShip_108 fl_X9_7 at_140 rfl rfl ?_
  try simp (disch := omega) only [up_at, up_ne]
  refine a_il3 dX9_readsShip_111 ?_
  refine a_il1 dX9_readsShip_112 ?_
  refine aw_iast dX9_readsShip_113 ar_141 (by omega) ?_
  refine a_al0 (by decide) dX9_readsShip_114 ?_
  refine aw_iconst dX9_readsShip_115 (by decide) ?_
  refine a_al0 (by decide) dX9_readsShip_116 ?_
  refine aw_getR (r := 141) 0 rfl dX9_readsShip_117 fl_X9_7 at_140 rfl rfl ?_
  try simp (disch := omega) only [up_at, up_ne]
  refine aw_iconst dX9_readsShip_120 (by decide) ?_
  refine aw_iald dX9_readsShip_121 ar_141 (by omega) ?_
  try simp (disch := omega) only [up_at, up_ne]
  refine aw_iconst dX9_readsShip_122 (by decide) ?_
  refine aw_isubR (by omega) dX9_readsShip_123 ?_
  refine aw_callV 4 0 0 dX9_readsShip_124 yw_X9_takes ml_X9_153 in_X9_takes se_X9_takes (ci := 8) rfl at_140 (as := [_, _]) rfl rfl ⟨by decide, by decide, by decide, Nat.le_of_ble_eq_true rfl⟩ ?_
  obtain ⟨r1, hr1⟩ : ∃ r1, r1 = upr (nmRow r s (nmv S (shpM S r st).1)) s f := ⟨_, rfl⟩
  have hrow2 : up g2 141 s f 141 = r1 := by rw [up_row, PFr_row pf2, hrow1, hr1]
  have fr2 : RFr h (up g2 141 s f) := RFr_up (RFr_trans fr1 (RFr_of pf2))
  have hs3 := Sts_up (x := s) (v := f) hs2
  have q3 : r1 3 = r 3 := by rw [hr1, upr_ne (by omega)]; unfold nmRow; rw [if_neg (by omega)]
  have e1 : up g2 141 s f 141 1 = r 1 := by rw [hrow2, hr1, upr_ne (by omega)]; unfold nmRow; rw [if_neg (by omega)]
  obtain ⟨g3, hg3⟩ : ∃ g3, g3 = up g2 141 s f := ⟨_, rfl⟩
  rw [← hg3] at hrow2 fr2 hs3 e1 ⊢
  rw [w0]
  refine ac_takes hT hs3 (fun g4 pf4 hs4 => ?_)
  have w1 : g4 141 1 = r 1 := by rw [pf4 _ _ (by omega), e1]
  refine am_ci ?_
  try simp (disch := omega) only [up_at, up_ne]
  refine a_is4 rfl rfl dX9_readsShip_127 ?_
  refine a_al0 (by decide) dX9_readsShip_129 ?_
  refine aw_iconst dX9_readsShip_130 (by decide) ?_
  refine a_al0 (by decide) dX9_readsShip_131 ?_
  refine aw_getR (r := 141) 0 rfl dX9_readsShip_132 fl_X9_7 at_140 rfl rfl ?_
  try simp (disch := omega) only [up_at, up_ne]
  refine aw_iconst dX9_readsShip_135 (by decide) ?_
  refine aw_iald dX9_readsShip_136 ar_141 (by omega) ?_
  try simp (disch := omega) only [up_at, up_ne]
  refine aw_iconst dX9_readsShip_137 (by decide) ?_
  refine aw_isubR (by omega) dX9_readsShip_138 ?_
  refine aw_callV 4 0 0 dX9_readsShip_139 yw_X9_takes ml_X9_153 in_X9_takes se_X9_takes (ci := 8) rfl at_140 (as := [_, _]) rfl rfl ⟨by decide, by decide, by decide, Nat.le_of_ble_eq_true rfl⟩ ?_
  rw [w1]
  refine ac_takes hT hs4 (fun g5 pf5 hs5 => ?_)
  refine am_ci ?_
  try simp (disch := omega) only [up_at, up_ne]
  refine a_is5 rfl rfl dX9_readsShip_142 ?_
  refine a_al0 (by decide) dX9_readsShip_144 ?_
  refine aw_iconst dX9_readsShip_145 (by decide) ?_
  refine aw_bipush dX9_readsShip_146 (by decide) ?_
  refine aw_callV 2 0 0 dX9_readsShip_148 yw_X9_stands ml_X9_147 in_X9_stands se_X9_stands (ci := 8) rfl at_140 (as := [_, _]) rfl rfl ⟨by decide, by decide, by decide, Nat.le_of_ble_eq_true rfl⟩ ?_
  refine ac_stands hs5 (fun g6 pf6 hs6 => ?_)
  have pf46 := PFr_trans pf4 (PFr_trans pf5 pf6)
  have hrow6 : g6 141 = r1 := by rw [PFr_row pf46, hrow2]
  have fr6 : RFr h g6 := RFr_trans fr2 (RFr_of pf46)
  have c1 := hs6.2.2.1
  have hR1 : ∀ k j, 0 ≤ k → k < n → 0 ≤ j → j ≤ 24 → r1 (46 + 25 * k + j) = r (46 + 25 * k + j) := fun k j a b c d => by
    rw [hr1, upr_ne (by omega)]
    unfold nmRow
    rw [if_neg (by omega)]
  have fin : ∀ g7 st7, RS S L h r1 st7 g7 → st7 = cif (∃ k, 0 ≤ k ∧ k < r 3 ∧ rAt r (shpc S r st) (shpw S r st) k) (failS S (-5) (standS S 0 7 (shp6 S r st))) (standS S 0 7 (shp6 S r st)) → AW mX9_readsShip 7 0 0 K 159 178 [(2, 140), (0, f), (0, n), (0, s), (0, shpc S r st), (0, shpw S r st), (0, shpd S r st), (9, 0), (9, 0)] [] g7 := fun g7 st7 hR e => by
    rw [e] at hR
    exact rp178 hT hst hn3 hs0 hn (by omega) rfl rfl hr1 kk hR
  refine am_ci ?_
  try simp (disch := omega) only [up_at, up_ne]
  refine a_is6 rfl rfl dX9_readsShip_151 ?_
  refine a_al0 (by decide) dX9_readsShip_153 ?_
  refine aw_get 14 dX9_readsShip_154 fl_X9_120 at_140 rfl ?_
  try simp (disch := omega) only [up_at, up_ne]
  refine aw_if_ne 178 dX9_readsShip_157 (by decide) (fun c157 => ?_) (fun c157 => ?_)
  · skip
    refine fin g6 _ ⟨fr6, hs6, fun _ => hrow6⟩ ?_
    have cn : ¬ (standS S 0 7 (shp6 S r st)).2.1 = 0 := by
      show ¬ (standS S 0 7 (takeS S 0 (r 1 - 1) (takeS S 0 (r 0 - 1) (nextS S (shpM S r st))))).2.1 = 0
      omega
    rw [cifS_W cn]
    rfl
  · refine a_al0 (by decide) dX9_readsShip_160 ?_
    refine a_il4 dX9_readsShip_161 ?_
    refine a_il5 dX9_readsShip_163 ?_
    refine aw_callV 3 0 0 dX9_readsShip_165 yw_X9_shipAt ml_X9_187 in_X9_shipAt se_X9_shipAt (ci := 8) rfl at_140 (as := [_, _]) rfl rfl ⟨by decide, by decide, by decide, Nat.le_of_ble_eq_true rfl⟩ ?_
    refine ac_shipAt (by rw [hrow6]; omega) (fun x hx => ?_)
    have hx2 := isFst_ex hx
    have hEx : (∃ k, 0 ≤ k ∧ k < r 3 ∧ rAt r (shpc S r st) (shpw S r st) k) ↔ ¬ x = -1 := by
      rw [← hx2, hrow6, q3]
      constructor
      · intro ⟨k, a, b, c⟩
        refine ⟨k, a, b, ?_⟩
        unfold mAt
        rw [hrow6, hR1 k 10 a (by omega) (by decide) (by decide), hR1 k 1 a (by omega) (by decide) (by decide), hR1 k 2 a (by omega) (by decide) (by decide)]
        exact c
      · intro ⟨k, a, b, c⟩
        refine ⟨k, a, b, ?_⟩
        unfold mAt at c
        rw [hrow6, hR1 k 10 a (by omega) (by decide) (by decide), hR1 k 1 a (by omega) (by decide) (by decide), hR1 k 2 a (by omega) (by decide) (by decide)] at c
        exact c
    refine am_ci ?_
    try simp (disch := omega) only [up_at, up_ne]
    refine aw_iconst dX9_readsShip_168 (by decide) ?_
    refine aw_icmp_eq 178 dX9_readsShip_169 (by decide) (fun c169 => ?_) (fun c169 => ?_)
    · skip
      refine fin g6 _ ⟨fr6, hs6, fun _ => hrow6⟩ ?_
      rw [cif_neg (fun y => hEx.mp y (by omega))]
      rfl
    · refine a_al0 (by decide) dX9_readsShip_172 ?_
      refine aw_bipush dX9_readsShip_173 (by decide) ?_
      refine aw_callV 1 0 0 dX9_readsShip_175 yw_X9_fails ml_X9_126 in_X9_fails se_X9_fails (ci := 8) rfl at_140 (as := [_]) rfl rfl ⟨by decide, by decide, by decide, Nat.le_of_ble_eq_true rfl⟩ ?_
      refine ac_fails hs6 (by decide) (fun g7 pf7 hs7 => ?_)
      refine am_cv ?_
      refine fin g7 _ ⟨RFr_trans fr6 (RFr_of pf7), hs7, fun _ => by rw [PFr_row pf7, hrow6]⟩ ?_
      rw [cif_pos (hEx.mpr (by omega))]
      rfl
theorem ac_readsShip {S : Int → Int} {L f : Int} {h : AH} {r : Int → Int} {st : PS} {K : AO → Nat → AH → Prop} (hT : TxS S L) (hs : Sts S L st h) (hr : h 141 = r) (h3 : 0 ≤ r 3 ∧ r 3 ≤ 12) (h01 : (4 ≤ r 0 ∧ r 0 ≤ 30) ∧ (4 ≤ r 1 ∧ r 1 ≤ 30)) (kk : ∀ h', RFr h h' → Sts S L (shpE S r f st) h' → ((shpE S r f st).2.1 = 0 → h' 141 = shpR S r f st) → K (.inl none) 159 h') : AC mX9_readsShip 7 0 0 159 [(2, 140), (0, f)] h K := by
  have hst := hs.2.2.2.2
  have hM := onS_shpM (r := r) hT hst
  have h12 : (shpM S r st).2.1 = 0 → r 3 ≤ 11 := fun c => by
    have c2 := hM.2.2.2 c
    by_cases e : r 3 = 12
    · unfold shp3 mustS at c2
      rw [if_neg (by decide), if_pos e, nextS_c] at c2
      exact absurd c2 (failS_n (by decide))
    · omega
  have J75 : ∀ g v3, am_n2 v3 = true → PFr h g → Sts S L (shpM S r st) g → AW mX9_readsShip 7 0 0 K 159 75 [(2, 140), (0, f), (0, r 3), v3, (9, 0), (9, 0), (9, 0), (9, 0), (9, 0)] [] g := fun g v3 hv3 pf hs1 => by
    have c1 := hs1.2.2.1
    refine a_al0 (by decide) dX9_readsShip_75 ?_
    refine aw_get 14 dX9_readsShip_76 fl_X9_120 at_140 rfl ?_
    refine aw_if_eq 83 dX9_readsShip_79 (by decide) (fun c79 => ?_) (fun c79 => ?_)
    · have c0 : (shpM S r st).2.1 = 0 := by omega
      exact rp83 hT hst rfl ⟨h3.1, h12 c0⟩ h01 hv3 c0 kk ⟨RFr_of pf, hs1, fun _ => by rw [PFr_row pf, hr]⟩
    · have c0 : ¬ (shpM S r st).2.1 = 0 := by omega
      have c8 : ¬ (shp8 S r st).2.1 = 0 := by rw [shp8_W c0]; exact c0
      refine aw_vret dX9_readsShip_82 rfl ?_
      refine kk g (RFr_of pf) ?_ (fun c => ?_)
      · rw [shpE_W c8, shp8_W c0]; exact hs1
      · rw [shpE_W c8] at c; exact absurd c c8
  have J30 : ∀ g0, PFr h g0 → Sts S L (nameS S (shp3 S r st)) g0 → AW mX9_readsShip 7 0 0 K 159 30 [(2, 140), (0, f), (0, r 3), (0, 0), (9, 0), (9, 0), (9, 0), (9, 0), (9, 0)] [] g0 := fun g0 pf0 hs0 => by
    obtain ⟨nm, hnm⟩ : ∃ nm, nm = nameS S (shp3 S r st) := ⟨_, rfl⟩
    rw [← hnm] at hs0
    have hMe : shpM S r st = cif (∃ k, 0 ≤ k ∧ k < r 3 ∧ nmQ S nm.1 r (46 + 25 * k + 17)) (failS S (-4) nm) nm := by rw [hnm]; rfl
    refine aw_loop (fun q : Int × AH => 0 ≤ q.1 ∧ q.1 ≤ r 3 ∧ PFr h q.2 ∧ Sts S L (cif (∃ k, 0 ≤ k ∧ k < q.1 ∧ nmQ S nm.1 r (46 + 25 * k + 17)) (failS S (-4) nm) nm) q.2) (fun q => (r 3 - q.1).toNat) (fun q => AW mX9_readsShip 7 0 0 K 159 30 [(2, 140), (0, f), (0, r 3), (0, q.1), (9, 0), (9, 0), (9, 0), (9, 0), (9, 0)] [] q.2) (fun q hq ih => ?_) (0, g0) ⟨by dsimp only; omega, h3.1, pf0, ?_⟩
    · obtain ⟨k, g⟩ := q
      obtain ⟨k0, k1, pf, hs1⟩ := hq
      dsimp only at k0 k1 pf hs1 ih ⊢
      have c1 := hs1.2.2.1
      have hrg : g 141 = r := by rw [PFr_row pf, hr]
      have nxt : ∀ g' st', PFr g g' → Sts S L st' g' → k < r 3 → st' = cif (∃ j, 0 ≤ j ∧ j < k + 1 ∧ nmQ S nm.1 r (46 + 25 * j + 17)) (failS S (-4) nm) nm → AW mX9_readsShip 7 0 0 K 159 30 [(2, 140), (0, f), (0, r 3), (0, k + 1), (9, 0), (9, 0), (9, 0), (9, 0), (9, 0)] [] g' := fun g' st' pf' hs' kr e => by
        rw [e] at hs'
        exact ih (k + 1, g') ⟨by dsimp only; omega, by dsimp only; omega, PFr_trans pf pf', hs'⟩ (by dsimp only; omega)
      refine a_il3 dX9_readsShip_30 ?_
      refine a_il2 dX9_readsShip_31 ?_
      refine aw_icmp_ge 75 dX9_readsShip_32 (by decide) (fun c32 => ?_) (fun c32 => ?_)
      · have ek : k = r 3 := by omega
        rw [ek, ← hMe] at hs1
        exact J75 g _ rfl pf hs1
      · have kr : k < r 3 := by omega
        refine a_al0 (by decide) dX9_readsShip_35 ?_
        refine aw_get 14 dX9_readsShip_36 fl_X9_120 at_140 rfl ?_
        refine aw_if_ne 69 dX9_readsShip_39 (by decide) (fun c39 => ?_) (fun c39 => ?_)
        · have cn : ¬ (cif (∃ j, 0 ≤ j ∧ j < k ∧ nmQ S nm.1 r (46 + 25 * j + 17)) (failS S (-4) nm) nm).2.1 = 0 := by omega
          refine a_iiR3 (by omega) rfl rfl dX9_readsShip_69 ?_
          refine aw_goto 30 dX9_readsShip_72 (by decide) ?_
          refine nxt g _ (PFr_refl g) hs1 kr ?_
          by_cases q : nm.2.1 = 0
          · have y : ∃ j, 0 ≤ j ∧ j < k ∧ nmQ S nm.1 r (46 + 25 * j + 17) := by
              by_cases y : ∃ j, 0 ≤ j ∧ j < k ∧ nmQ S nm.1 r (46 + 25 * j + 17)
              · exact y
              · rw [cif_neg y] at cn; exact absurd q cn
            obtain ⟨j, a, b, c⟩ := y
            rw [cif_pos ⟨j, a, b, c⟩, cif_pos ⟨j, a, by omega, c⟩]
          · rw [cifS_W q, cifS_W q]
        · have c0 : (cif (∃ j, 0 ≤ j ∧ j < k ∧ nmQ S nm.1 r (46 + 25 * j + 17)) (failS S (-4) nm) nm).2.1 = 0 := by omega
          have y : ¬ ∃ j, 0 ≤ j ∧ j < k ∧ nmQ S nm.1 r (46 + 25 * j + 17) := fun y => by
            rw [cif_pos y] at c0
            exact failS_n (by decide) c0
          rw [cif_neg y] at hs1
          refine a_al0 (by decide) dX9_readsShip_42 ?_
          refine a_al0 (by decide) dX9_readsShip_43 ?_
          refine aw_getR (r := 141) 0 rfl dX9_readsShip_44 fl_X9_7 at_140 rfl rfl ?_
          refine aw_bipush dX9_readsShip_47 (by decide) ?_
          refine aw_bipush dX9_readsShip_49 (by decide) ?_
          refine a_il3 dX9_readsShip_51 ?_
          refine aw_imulR (by omega) dX9_readsShip_52 ?_
          refine aw_iaddR (by omega) dX9_readsShip_53 ?_
          refine aw_bipush dX9_readsShip_54 (by decide) ?_
          refine aw_iaddR (by omega) dX9_readsShip_56 ?_
          refine aw_callV 1 0 0 dX9_readsShip_57 yw_X9_isName ml_X9_162 in_X9_isName se_X9_isName (ci := 8) rfl at_140 (as := [_, _]) rfl rfl ⟨by decide, by decide, by decide, Nat.le_of_ble_eq_true rfl⟩ ?_
          refine ac_isName hT hs1 ar_141 (by omega) (by decide) (fun z => ?_) (fun z => ?_)
          · rw [hrg] at z
            refine am_ci ?_
            refine aw_if_eq_n 69 dX9_readsShip_60 (by decide) (by decide) ?_
            refine a_al0 (by decide) dX9_readsShip_63 ?_
            refine aw_bipush dX9_readsShip_64 (by decide) ?_
            refine aw_callV 1 0 0 dX9_readsShip_66 yw_X9_fails ml_X9_126 in_X9_fails se_X9_fails (ci := 8) rfl at_140 (as := [_]) rfl rfl ⟨by decide, by decide, by decide, Nat.le_of_ble_eq_true rfl⟩ ?_
            refine ac_fails hs1 (by decide) (fun g' pf' hs' => ?_)
            refine am_cv ?_
            refine a_iiR3 (by omega) rfl rfl dX9_readsShip_69 ?_
            refine aw_goto 30 dX9_readsShip_72 (by decide) ?_
            refine nxt g' _ pf' hs' kr ?_
            rw [cif_pos ⟨k, k0, by omega, z⟩]
          · rw [hrg] at z
            refine am_ci ?_
            refine aw_if_eq_y 69 dX9_readsShip_60 (by decide) (by decide) ?_
            refine a_iiR3 (by omega) rfl rfl dX9_readsShip_69 ?_
            refine aw_goto 30 dX9_readsShip_72 (by decide) ?_
            refine nxt g _ (PFr_refl g) hs1 kr ?_
            rw [cif_neg]
            intro ⟨j, a, b, c⟩
            by_cases e : j = k
            · rw [e] at c; exact z c
            · exact y ⟨j, a, by omega, c⟩
    · rw [cif_neg (fun ⟨k, a, b, _⟩ => by dsimp only at b; omega)]
      exact hs0
  have J19 : ∀ g st1, PFr h g → Sts S L st1 g → st1 = (if r 3 = 12 then failS S (-6) st else st) → AW mX9_readsShip 7 0 0 K 159 19 [(2, 140), (0, f), (0, r 3), (9, 0), (9, 0), (9, 0), (9, 0), (9, 0), (9, 0)] [] g := fun g st1 pf hs1 e => by
    refine a_al0 (by decide) dX9_readsShip_19 ?_
    refine aw_iconst dX9_readsShip_20 (by decide) ?_
    refine aw_callV 4 0 0 dX9_readsShip_21 yw_X9_must ml_X9_143 in_X9_must se_X9_must (ci := 8) rfl at_140 (as := [_]) rfl rfl ⟨by decide, by decide, by decide, Nat.le_of_ble_eq_true rfl⟩ ?_
    refine ac_must hT hs1 (fun g2 pf2 hs2 => ?_)
    refine am_cv ?_
    refine a_al0 (by decide) dX9_readsShip_24 ?_
    refine aw_callV 2 0 0 dX9_readsShip_25 yw_X9_mustName ml_X9_159 in_X9_mustName se_X9_mustName (ci := 8) rfl at_140 (as := []) rfl rfl ⟨by decide, by decide, by decide, Nat.le_of_ble_eq_true rfl⟩ ?_
    refine ac_mustName hT hs2 (fun g3 pf3 hs3 => ?_)
    rw [e] at hs3
    refine am_cv ?_
    refine aw_iconst dX9_readsShip_28 (by decide) ?_
    refine a_is3 rfl rfl dX9_readsShip_29 ?_
    exact J30 g3 (PFr_trans pf (PFr_trans pf2 pf3)) hs3
  have e3 : h 141 3 = r 3 := by rw [hr]
  refine ac_of (ls := [(2, 140), (0, f), (9, 0), (9, 0), (9, 0), (9, 0), (9, 0), (9, 0), (9, 0)]) pn_X9 rfl (Nat.le_of_ble_eq_true rfl) rfl ?_
  refine a_al0 (by decide) dX9_readsShip_0 ?_
  refine aw_getR (r := 141) 0 rfl dX9_readsShip_1 fl_X9_7 at_140 rfl rfl ?_
  refine aw_iconst dX9_readsShip_4 (by decide) ?_
  refine aw_iald dX9_readsShip_5 ar_141 (by omega) ?_
  refine a_is2 rfl rfl dX9_readsShip_6 ?_
  refine a_il2 dX9_readsShip_7 ?_
  refine aw_bipush dX9_readsShip_8 (by decide) ?_
  rw [e3]
  refine aw_icmp_ne 19 dX9_readsShip_10 (by decide) (fun c10 => ?_) (fun c10 => ?_)
  · skip
    refine J19 h st (PFr_refl h) hs ?_
    rw [if_neg (by omega)]
  · refine a_al0 (by decide) dX9_readsShip_13 ?_
    refine aw_bipush dX9_readsShip_14 (by decide) ?_
    refine aw_callV 1 0 0 dX9_readsShip_16 yw_X9_fails ml_X9_126 in_X9_fails se_X9_fails (ci := 8) rfl at_140 (as := [_]) rfl rfl ⟨by decide, by decide, by decide, Nat.le_of_ble_eq_true rfl⟩ ?_
    refine ac_fails hs (by decide) (fun g pf hs1 => ?_)
    refine am_cv ?_
    refine J19 g _ pf hs1 ?_
    rw [if_pos (by omega)]
