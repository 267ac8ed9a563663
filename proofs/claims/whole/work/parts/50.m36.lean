/-! reading: a whole ship, from its word on -/
theorem nmRow_put {S : Int → Int} {p s : Int} {g g' : AH} {r : Int → Int} (hp : Put S p 141 (s + 17) g g') (hr : g 141 = r) : g' 141 = nmRow r s (nmv S p) := by
  funext x
  unfold nmRow
  by_cases e : s + 17 ≤ x ∧ x < s + 25
  · rw [if_pos e]
    have := hp.2 (x - (s + 17)) (by omega) (by omega)
    rw [← this]
    congr 1
    omega
  · rw [if_neg e, hp.1 141 x (by omega), hr]
theorem Sts_put {S : Int → Int} {L p r x : Int} {st : PS} {g g' : AH} (hne : r ≠ 140 ∧ r ≠ 147) (hp : Put S p r x g g') (hs : Sts S L st g) : Sts S L st g' := by
  obtain ⟨⟨x1, x2⟩, ⟨a1, a2, a3, a4⟩, c1, c2, c3⟩ := hs
  have f := hp.1
  refine ⟨⟨?_, fun k a b => ?_⟩, ⟨?_, ?_, ?_, ?_⟩, ?_, fun q => ?_, c3⟩
  · rw [f _ _ (by omega)]; exact x1
  · rw [f _ _ (by omega)]; exact x2 k a b
  · rw [f _ _ (by omega)]; exact a1
  · rw [f _ _ (by omega)]; exact a2
  · rw [f _ _ (by omega)]; exact a3
  · rw [f _ _ (by omega)]; exact a4
  · rw [f _ _ (by omega)]; exact c1
  · rw [f _ _ (by omega)]; exact c2 q
theorem rp178 {S : Int → Int} {L f n s : Int} {v7 v8 : AV} {h : AH} {r r1 : Int → Int} {st : PS} {g : AH} {K : AO → Nat → AH → Prop} (hT : TxS S L) (hst : 0 ≤ st.1 ∧ st.1 ≤ L) (hn3 : r 3 = n) (hs0 : s = 46 + 25 * n) (hn : 0 ≤ n ∧ n ≤ 11) (h3 : r1 3 = n) (hv7 : am_n2 v7 = true) (hv : am_n2 v8 = true) (hr1 : r1 = upr (nmRow r s (nmv S (shpM S r st).1)) s f) (kk : ∀ h', RFr h h' → Sts S L (shpE S r f st) h' → ((shpE S r f st).2.1 = 0 → h' 141 = shpR S r f st) → K (.inl none) 159 h') (hs : RS S L h r1 (cif (∃ k, 0 ≤ k ∧ k < r 3 ∧ rAt r (shpc S r st) (shpw S r st) k) (failS S (-5) (standS S 0 7 (shp6 S r st))) (standS S 0 7 (shp6 S r st))) g) : AW mX9_readsShip 7 0 0 K 159 178 [(2, 140), (0, f), (0, n), (0, s), (0, shpc S r st), (0, shpw S r st), (0, shpd S r st), v7, v8] [] g := by
  refine a_al0 (by decide) dX9_readsShip_178 ?_
  refine aw_iconst dX9_readsShip_179 (by decide) ?_
  refine aw_callV 4 0 0 dX9_readsShip_180 yw_X9_must ml_X9_143 in_X9_must se_X9_must (ci := 8) rfl at_140 (as := [_]) rfl rfl ⟨by decide, by decide, by decide, Nat.le_of_ble_eq_true rfl⟩ ?_
  refine ac_must hT hs.2.1 (fun g2 pf2 hs2 => ?_)
  have hR : RS S L h r1 (shp8 S r st) g2 := RS_go hs pf2 hs2 (onS_must hT hs.2.1.2.2.2.2).2.2
  have c1 := hR.2.1.2.2.1
  refine am_cv ?_
  refine a_al0 (by decide) dX9_readsShip_183 ?_
  refine aw_get 14 dX9_readsShip_184 fl_X9_120 at_140 rfl ?_
  try simp (disch := omega) only [up_at, up_ne]
  refine aw_if_eq 191 dX9_readsShip_187 (by decide) (fun c187 => ?_) (fun c187 => ?_)
  · have c0 : (shp8 S r st).2.1 = 0 := by omega
    refine rp191 (r1 := r1) hT hs0 hn h3 c0 hv7 hv hR (fun h' fr hs' hrow => kk h' fr ?_ (fun c => ?_))
    · unfold shpE shpO shpD
      rw [hn3, ← hs0, ← hr1]
      exact hs'
    · unfold shpE shpO shpD at c
      rw [hn3, ← hs0, ← hr1] at c
      unfold shpR shpO shpD
      rw [hn3, ← hs0, ← hr1]
      exact hrow c
  · have c0 : ¬ (shp8 S r st).2.1 = 0 := by omega
    refine aw_vret dX9_readsShip_190 rfl ?_
    refine kk g2 hR.1 ?_ (fun c => ?_)
    · rw [shpE_W c0]; exact hR.2.1
    · rw [shpE_W c0] at c; exact absurd c c0
theorem rp83 {S : Int → Int} {L f n : Int} {h : AH} {r : Int → Int} {st : PS} {g : AH} {v3 : AV} {K : AO → Nat → AH → Prop} (hT : TxS S L) (hst : 0 ≤ st.1 ∧ st.1 ≤ L) (hn3 : r 3 = n) (hn : 0 ≤ n ∧ n ≤ 11) (h01 : (4 ≤ r 0 ∧ r 0 ≤ 30) ∧ (4 ≤ r 1 ∧ r 1 ≤ 30)) (hv3 : am_n2 v3 = true) (hc0 : (shpM S r st).2.1 = 0) (kk : ∀ h', RFr h h' → Sts S L (shpE S r f st) h' → ((shpE S r f st).2.1 = 0 → h' 141 = shpR S r f st) → K (.inl none) 159 h') (hs : RS S L h r (shpM S r st) g) : AW mX9_readsShip 7 0 0 K 159 83 [(2, 140), (0, f), (0, n), v3, (9, 0), (9, 0), (9, 0), (9, 0), (9, 0)] [] g := by
  obtain ⟨s, hs0⟩ : ∃ s, s = 46 + 25 * n := ⟨_, rfl⟩
  have m0 := hs.2.1.2.2.2.2
  refine aw_bipush dX9_readsShip_83 (by decide) ?_
  refine aw_bipush dX9_readsShip_85 (by decide) ?_
  refine a_il2 dX9_readsShip_87 ?_
  refine aw_imulR (by omega) dX9_readsShip_88 ?_
  refine aw_iaddR (by omega) dX9_readsShip_89 ?_
  refine a_is3 rfl rfl dX9_readsShip_90 ?_
  refine a_al0 (by decide) dX9_readsShip_91 ?_
  refine a_al0 (by decide) dX9_readsShip_92 ?_
  refine aw_getR (r := 141) 0 rfl dX9_readsShip_93 fl_X9_7 at_140 rfl rfl ?_
  refine a_il3 dX9_readsShip_96 ?_
  refine aw_bipush dX9_readsShip_97 (by decide) ?_
  refine aw_iaddR (by omega) dX9_readsShip_99 ?_
  refine aw_callV 1 0 0 dX9_readsShip_100 yw_X9_putsName ml_X9_166 in_X9_putsName se_X9_putsName (ci := 8) rfl at_140 (as := [_, _]) rfl rfl ⟨by decide, by decide, by decide, Nat.le_of_ble_eq_true rfl⟩ ?_
  rw [← hs0]
  refine ac_putsName hT hs.2.1 ar_141 (by omega) (by decide) (by decide) (fun g1 hp => ?_)
  have hrow1 := nmRow_put hp (hs.2.2 hc0)
  have hs1 := Sts_put (by decide) hp hs.2.1
  have fr1 : RFr h g1 := RFr_trans hs.1 (fun k x a b => hp.1 k x (by omega))
  refine am_cv ?_
  refine a_al0 (by decide) dX9_readsShip_103 ?_
  refine aw_callV 3 0 0 dX9_readsShip_104 yw_X9_next ml_X9_123 in_X9_next se_X9_next (ci := 8) rfl at_140 (as := []) rfl rfl ⟨by decide, by decide, by decide, Nat.le_of_ble_eq_true rfl⟩ ?_
  refine ac_nextS hT hs1 hc0 (fun g2 pf2 hs2 => ?_)
  refine am_cv ?_
  refine a_al0 (by decide) dX9_readsShip_107 ?_
  refine aw_getR (r := 141) 0 rfl dX9_readsShip_108 fl_X9_7 at_140 rfl rfl ?_
  try simp (disch := omega) only [up_at, up_ne]
  refine a_il3 dX9_readsShip_111 ?_
  refine a_il1 dX9_readsShip_112 ?_
  refine aw_iast dX9_readsShip_113 ar_141 (by omega) ?_
  refine a_al0 (by decide) dX9_readsShip_114 ?_
  refine aw_iconst dX9_readsShip_115 (by decide) ?_
  refine a_al0 (by decide) dX9_readsShip_116 ?_
  refine aw_getR (r := 141) 0 rfl dX9_readsShip_117 fl_X9_7 at_140 rfl rfl ?_
  try simp (disch := omega) only [up_at, up_ne]
  refine aw_iconst dX9_readsShip_120 (by decide) ?_
  refine aw_iald dX9_readsShip_121 ar_141 (by omega) ?_
  try simp (disch := omega) only [up_at, up_ne]
  refine aw_iconst dX9_readsShip_122 (by decide) ?_
  refine aw_isubR (by omega) dX9_readsShip_123 ?_
  refine aw_callV 4 0 0 dX9_readsShip_124 yw_X9_takes ml_X9_153 in_X9_takes se_X9_takes (ci := 8) rfl at_140 (as := [_, _]) rfl rfl ⟨by decide, by decide, by decide, Nat.le_of_ble_eq_true rfl⟩ ?_
  obtain ⟨r1, hr1⟩ : ∃ r1, r1 = upr (nmRow r s (nmv S (shpM S r st).1)) s f := ⟨_, rfl⟩
  have hrow2 : up g2 141 s f 141 = r1 := by rw [up_row, PFr_row pf2, hrow1, hr1]
  have fr2 : RFr h (up g2 141 s f) := RFr_up (RFr_trans fr1 (RFr_of pf2))
  have hs3 := Sts_up (x := s) (v := f) hs2
  have q0 : r1 0 = r 0 := by rw [hr1, upr_ne (by omega)]; unfold nmRow; rw [if_neg (by omega)]
  have q1 : r1 1 = r 1 := by rw [hr1, upr_ne (by omega)]; unfold nmRow; rw [if_neg (by omega)]
  have q3 : r1 3 = r 3 := by rw [hr1, upr_ne (by omega)]; unfold nmRow; rw [if_neg (by omega)]
  have e0 : up g2 141 s f 141 0 = r 0 := by rw [hrow2, q0]
  have e1 : up g2 141 s f 141 1 = r 1 := by rw [hrow2, q1]
  obtain ⟨g3, hg3⟩ : ∃ g3, g3 = up g2 141 s f := ⟨_, rfl⟩
  rw [← hg3] at hrow2 fr2 hs3 e0 e1 ⊢
  sorry
