/-! reading: a whole ship -/
def nmRow (r : Int → Int) (s : Int) (nm : Int → Int) : Int → Int := fun x => if s + 17 ≤ x ∧ x < s + 25 then nm (x - (s + 17)) else r x
def shpC (r : Int → Int) (s c w d : Int) : Int → Int := upr (upr (upr (upr (upr (upr (upr (upr (upr r (s + 1) c) (s + 2) w) (s + 3) d) (s + 4) 20) (s + 5) 3) (s + 6) 5) (s + 7) 1) (s + 9) 4) (s + 10) (-1)
def ordR (r : Int → Int) (s p : Int) : Int → Int := fun x => if s + 11 ≤ x ∧ x < s + 11 + p then 1 else r x
def shpD (r : Int → Int) (s f : Int) (nm : Int → Int) (c w d : Int) : Int → Int := ordR (shpC (upr (nmRow r s nm) s f) s c w d) s 6
theorem ordR_0 (r : Int → Int) (s : Int) : ordR r s 0 = r := by
  funext x
  unfold ordR
  rw [if_neg (by omega)]
theorem ordR_s (r : Int → Int) {s p : Int} (hp : 0 ≤ p) : upr (ordR r s p) (s + 11 + p) 1 = ordR r s (p + 1) := by
  funext x
  unfold upr ordR
  by_cases e : x = s + 11 + p
  · rw [if_pos e, if_pos (by omega)]
  · rw [if_neg e]
    by_cases q : s + 11 ≤ x ∧ x < s + 11 + p
    · rw [if_pos q, if_pos (by omega)]
    · rw [if_neg q, if_neg (by omega)]
theorem rp413 {S : Int → Int} {L f n s v4 v5 v6 told : Int} {v8 : AV} {h : AH} {r : Int → Int} {st : PS} {g : AH} {K : AO → Nat → AH → Prop} (hT : TxS S L) (hs : RS S L h r st g) (h3 : 0 ≤ r 3 ∧ r 3 ≤ 12) (kk : ∀ h', RFr h h' → Sts S L (endS S st) h' → ((endS S st).2.1 = 0 → h' 141 = upr r 3 (r 3 + 1)) → K (.inl none) 159 h') : AW mX9_readsShip 7 0 0 K 159 413 [(2, 140), (0, f), (0, n), (0, s), (0, v4), (0, v5), (0, v6), (0, told), v8] [] g := by
  refine a_al0 (by decide) dX9_readsShip_413 ?_
  refine aw_callV 5 0 0 dX9_readsShip_414 yw_X9_mustEnd ml_X9_156 in_X9_mustEnd se_X9_mustEnd (ci := 8) rfl at_140 (as := []) rfl rfl ⟨by decide, by decide, by decide, Nat.le_of_ble_eq_true rfl⟩ ?_
  refine ac_mustEnd hT hs.2.1 (fun g2 pf2 hs2 => ?_)
  have hR := RS_go hs pf2 hs2 (onS_end hT hs.2.1.2.2.2.2).2.2
  refine am_cv ?_
  refine a_al0 (by decide) dX9_readsShip_417 ?_
  refine aw_getR (r := 141) 0 rfl dX9_readsShip_418 fl_X9_7 at_140 rfl rfl ?_
  try simp (disch := omega) only [up_at, up_ne]
  refine aw_iconst dX9_readsShip_421 (by decide) ?_
  refine aw_dup2 dX9_readsShip_422 rfl rfl ?_
  refine aw_iald dX9_readsShip_423 ar_141 (by omega) ?_
  try simp (disch := omega) only [up_at, up_ne]
  refine aw_iconst dX9_readsShip_424 (by decide) ?_
  refine aw_iadd dX9_readsShip_425 ?_
  refine aw_iast dX9_readsShip_426 ar_141 (by omega) ?_
  refine aw_vret dX9_readsShip_427 rfl ?_
  refine kk _ (RFr_up hR.1) (Sts_up hR.2.1) (fun c => ?_)
  rw [up_row, hR.2.2 c, wr_id (by omega) (by omega)]
theorem rp283 {S : Int → Int} {L f n s v4 v5 v6 : Int} {v8 : AV} {h : AH} {r1 : Int → Int} {st : PS} {K : AO → Nat → AH → Prop} (hT : TxS S L) (hs0 : s = 46 + 25 * n) (hn : 0 ≤ n ∧ n ≤ 11) (h3 : r1 3 = n) (hc : st.2.1 = 0) (hv : am_n2 v8 = true) (kk : ∀ h', RFr h h' → Sts S L (endS S (optN S s 700 (ordR r1 s 6) 0 st).2) h' → ((endS S (optN S s 700 (ordR r1 s 6) 0 st).2).2.1 = 0 → h' 141 = upr (optN S s 700 (ordR r1 s 6) 0 st).1 3 (n + 1)) → K (.inl none) 159 h') : ∀ (m : Nat) (p : Int) (g : AH), p + m = 6 → 0 ≤ p → RS S L h (ordR r1 s p) st g → AW mX9_readsShip 7 0 0 K 159 283 [(2, 140), (0, f), (0, n), (0, s), (0, v4), (0, v5), (0, v6), (0, p), v8] [] g
  | 0, p, g, hp, p0, hs => by
    have hL := hT.1
    refine a_il7 dX9_readsShip_283 ?_
    refine aw_bipush dX9_readsShip_285 (by decide) ?_
    refine aw_icmp_ge 309 dX9_readsShip_287 (by decide) (fun c287 => ?_) (fun c287 => ?_)
    · rw [show p = 6 by omega] at hs
      refine aw_iconst dX9_readsShip_309 (by decide) ?_
      refine a_is7 rfl rfl dX9_readsShip_310 ?_
      refine a_al0 (by decide) dX9_readsShip_312 ?_
      refine aw_callV 6 0 0 dX9_readsShip_313 yw_X9_option ml_X9_190 in_X9_option se_X9_option (ci := 8) rfl at_140 (as := []) rfl rfl ⟨by decide, by decide, by decide, Nat.le_of_ble_eq_true rfl⟩ ?_
      refine ac_option hT hs.2.1 ?_
      refine am_ci ?_
      refine a_is8 rfl rfl dX9_readsShip_316 ?_
      refine rp312 hT hs0 hn 700 (ordR r1 s 6) 0 st v8 g hs hv (fun _ => by have := hs.2.1.2.2.2.2; omega) (by decide) (fun g' told' v8' hs' hv' => ?_)
      have e3 : (optN S s 700 (ordR r1 s 6) 0 st).1 3 = n := by
        have J : ∀ (m : Nat) (r : Int → Int) (told : Int) (st : PS), (optN S s m r told st).1 3 = r 3 := fun m => by
          induction m with
          | zero => intro r told st; rfl
          | succ m ih =>
            intro r told st
            show (cif (optW S st = -1) (r, st) (optN S s m _ _ _)).1 3 = r 3
            by_cases q : optW S st = -1
            · rw [cif_pos q]
            · rw [cif_neg q, ih, upr_ne]
              have := (optW_c (S := S) (st := st)).resolve_left q
              omega
        rw [J]
        unfold ordR
        rw [if_neg (by omega)]
        exact h3
      refine rp413 hT hs' (by omega) ?_
      rw [e3]
      exact kk
    · exfalso; omega
  | m + 1, p, g, hp, p0, hs => by
    refine a_il7 dX9_readsShip_283 ?_
    refine aw_bipush dX9_readsShip_285 (by decide) ?_
    refine aw_icmp_ge 309 dX9_readsShip_287 (by decide) (fun c287 => ?_) (fun c287 => ?_)
    · exfalso; omega
    · refine a_al0 (by decide) dX9_readsShip_290 ?_
      refine aw_getR (r := 141) 0 rfl dX9_readsShip_291 fl_X9_7 at_140 rfl rfl ?_
      refine a_il3 dX9_readsShip_294 ?_
      refine aw_bipush dX9_readsShip_295 (by decide) ?_
      refine aw_iaddR (by omega) dX9_readsShip_297 ?_
      refine a_il7 dX9_readsShip_298 ?_
      refine aw_iaddR (by omega) dX9_readsShip_300 ?_
      refine aw_iconst dX9_readsShip_301 (by decide) ?_
      refine aw_iast dX9_readsShip_302 ar_141 (by omega) ?_
      refine a_iiR7 (by omega) rfl rfl dX9_readsShip_303 ?_
      refine aw_goto 283 dX9_readsShip_306 (by decide) ?_
      have hR := RS_up (x := s + 11 + p) (v := 1) hs
      rw [ordR_s r1 p0] at hR
      exact rp283 hT hs0 hn h3 hc hv kk m (p + 1) _ (by omega) (by omega) hR
theorem rp191 {S : Int → Int} {L f n s v4 v5 v6 : Int} {v7 v8 : AV} {h : AH} {r1 : Int → Int} {st : PS} {g : AH} {K : AO → Nat → AH → Prop} (hT : TxS S L) (hs0 : s = 46 + 25 * n) (hn : 0 ≤ n ∧ n ≤ 11) (h3 : r1 3 = n) (hc : st.2.1 = 0) (hv7 : am_n2 v7 = true) (hv : am_n2 v8 = true) (hs : RS S L h r1 st g) (kk : ∀ h', RFr h h' → Sts S L (endS S (optN S s 700 (ordR (shpC r1 s v4 v5 v6) s 6) 0 st).2) h' → ((endS S (optN S s 700 (ordR (shpC r1 s v4 v5 v6) s 6) 0 st).2).2.1 = 0 → h' 141 = upr (optN S s 700 (ordR (shpC r1 s v4 v5 v6) s 6) 0 st).1 3 (n + 1)) → K (.inl none) 159 h') : AW mX9_readsShip 7 0 0 K 159 191 [(2, 140), (0, f), (0, n), (0, s), (0, v4), (0, v5), (0, v6), v7, v8] [] g := by
  have hR := RS_up (x := s + 10) (v := -1) (RS_up (x := s + 9) (v := 4) (RS_up (x := s + 7) (v := 1) (RS_up (x := s + 6) (v := 5) (RS_up (x := s + 5) (v := 3) (RS_up (x := s + 4) (v := 20) (RS_up (x := s + 3) (v := v6) (RS_up (x := s + 2) (v := v5) (RS_up (x := s + 1) (v := v4) hs))))))))
  refine a_al0 (by decide) dX9_readsShip_191 ?_
  refine aw_getR (r := 141) 0 rfl dX9_readsShip_192 fl_X9_7 at_140 rfl rfl ?_
  refine a_il3 dX9_readsShip_195 ?_
  refine aw_iconst dX9_readsShip_196 (by decide) ?_
  refine aw_iaddR (by omega) dX9_readsShip_197 ?_
  refine a_il4 dX9_readsShip_198 ?_
  refine aw_iast dX9_readsShip_200 ar_141 (by omega) ?_
  refine a_al0 (by decide) dX9_readsShip_201 ?_
  refine aw_getR (r := 141) 0 rfl dX9_readsShip_202 fl_X9_7 at_140 rfl rfl ?_
  try simp (disch := omega) only [up_at, up_ne]
  refine a_il3 dX9_readsShip_205 ?_
  refine aw_iconst dX9_readsShip_206 (by decide) ?_
  refine aw_iaddR (by omega) dX9_readsShip_207 ?_
  refine a_il5 dX9_readsShip_208 ?_
  refine aw_iast dX9_readsShip_210 ar_141 (by omega) ?_
  refine a_al0 (by decide) dX9_readsShip_211 ?_
  refine aw_getR (r := 141) 0 rfl dX9_readsShip_212 fl_X9_7 at_140 rfl rfl ?_
  try simp (disch := omega) only [up_at, up_ne]
  refine a_il3 dX9_readsShip_215 ?_
  refine aw_iconst dX9_readsShip_216 (by decide) ?_
  refine aw_iaddR (by omega) dX9_readsShip_217 ?_
  refine a_il6 dX9_readsShip_218 ?_
  refine aw_iast dX9_readsShip_220 ar_141 (by omega) ?_
  refine a_al0 (by decide) dX9_readsShip_221 ?_
  refine aw_getR (r := 141) 0 rfl dX9_readsShip_222 fl_X9_7 at_140 rfl rfl ?_
  try simp (disch := omega) only [up_at, up_ne]
  refine a_il3 dX9_readsShip_225 ?_
  refine aw_iconst dX9_readsShip_226 (by decide) ?_
  refine aw_iaddR (by omega) dX9_readsShip_227 ?_
  refine aw_bipush dX9_readsShip_228 (by decide) ?_
  refine aw_iast dX9_readsShip_230 ar_141 (by omega) ?_
  refine a_al0 (by decide) dX9_readsShip_231 ?_
  refine aw_getR (r := 141) 0 rfl dX9_readsShip_232 fl_X9_7 at_140 rfl rfl ?_
  try simp (disch := omega) only [up_at, up_ne]
  refine a_il3 dX9_readsShip_235 ?_
  refine aw_iconst dX9_readsShip_236 (by decide) ?_
  refine aw_iaddR (by omega) dX9_readsShip_237 ?_
  refine aw_iconst dX9_readsShip_238 (by decide) ?_
  refine aw_iast dX9_readsShip_239 ar_141 (by omega) ?_
  refine a_al0 (by decide) dX9_readsShip_240 ?_
  refine aw_getR (r := 141) 0 rfl dX9_readsShip_241 fl_X9_7 at_140 rfl rfl ?_
  try simp (disch := omega) only [up_at, up_ne]
  refine a_il3 dX9_readsShip_244 ?_
  refine aw_bipush dX9_readsShip_245 (by decide) ?_
  refine aw_iaddR (by omega) dX9_readsShip_247 ?_
  refine aw_iconst dX9_readsShip_248 (by decide) ?_
  refine aw_iast dX9_readsShip_249 ar_141 (by omega) ?_
  refine a_al0 (by decide) dX9_readsShip_250 ?_
  refine aw_getR (r := 141) 0 rfl dX9_readsShip_251 fl_X9_7 at_140 rfl rfl ?_
  try simp (disch := omega) only [up_at, up_ne]
  refine a_il3 dX9_readsShip_254 ?_
  refine aw_bipush dX9_readsShip_255 (by decide) ?_
  refine aw_iaddR (by omega) dX9_readsShip_257 ?_
  refine aw_iconst dX9_readsShip_258 (by decide) ?_
  refine aw_iast dX9_readsShip_259 ar_141 (by omega) ?_
  refine a_al0 (by decide) dX9_readsShip_260 ?_
  refine aw_getR (r := 141) 0 rfl dX9_readsShip_261 fl_X9_7 at_140 rfl rfl ?_
  try simp (disch := omega) only [up_at, up_ne]
  refine a_il3 dX9_readsShip_264 ?_
  refine aw_bipush dX9_readsShip_265 (by decide) ?_
  refine aw_iaddR (by omega) dX9_readsShip_267 ?_
  refine aw_iconst dX9_readsShip_268 (by decide) ?_
  refine aw_iast dX9_readsShip_269 ar_141 (by omega) ?_
  refine a_al0 (by decide) dX9_readsShip_270 ?_
  refine aw_getR (r := 141) 0 rfl dX9_readsShip_271 fl_X9_7 at_140 rfl rfl ?_
  try simp (disch := omega) only [up_at, up_ne]
  refine a_il3 dX9_readsShip_274 ?_
  refine aw_bipush dX9_readsShip_275 (by decide) ?_
  refine aw_iaddR (by omega) dX9_readsShip_277 ?_
  refine aw_iconst dX9_readsShip_278 (by decide) ?_
  refine aw_iast dX9_readsShip_279 ar_141 (by omega) ?_
  refine aw_iconst dX9_readsShip_280 (by decide) ?_
  refine a_is7 rfl rfl dX9_readsShip_281 ?_
  refine rp283 (r1 := shpC r1 s v4 v5 v6) hT hs0 hn ?_ hc hv kk 6 0 _ (by omega) (by omega) ?_
  · unfold shpC
    rw [upr_ne (by omega), upr_ne (by omega), upr_ne (by omega), upr_ne (by omega), upr_ne (by omega), upr_ne (by omega), upr_ne (by omega), upr_ne (by omega), upr_ne (by omega)]
    exact h3
  · rw [ordR_0]
    exact hR
def rAt (r : Int → Int) (c w k : Int) : Prop := r (46 + 25 * k + 10) = -1 ∧ r (46 + 25 * k + 1) = c ∧ r (46 + 25 * k + 2) = w
noncomputable def shp3 (S : Int → Int) (r : Int → Int) (st : PS) : PS := mustS S 1 (if r 3 = 12 then failS S (-6) st else st)
noncomputable def shpM (S : Int → Int) (r : Int → Int) (st : PS) : PS := cif (∃ k, 0 ≤ k ∧ k < r 3 ∧ nmQ S (nameS S (shp3 S r st)).1 r (46 + 25 * k + 17)) (failS S (-4) (nameS S (shp3 S r st))) (nameS S (shp3 S r st))
noncomputable def shp5 (S : Int → Int) (r : Int → Int) (st : PS) : PS := takeS S 0 (r 0 - 1) (nextS S (shpM S r st))
noncomputable def shp6 (S : Int → Int) (r : Int → Int) (st : PS) : PS := takeS S 0 (r 1 - 1) (shp5 S r st)
noncomputable def shpc (S : Int → Int) (r : Int → Int) (st : PS) : Int := standV S 0 (r 0 - 1) (nextS S (shpM S r st))
noncomputable def shpw (S : Int → Int) (r : Int → Int) (st : PS) : Int := standV S 0 (r 1 - 1) (shp5 S r st)
noncomputable def shpd (S : Int → Int) (r : Int → Int) (st : PS) : Int := standV S 0 7 (shp6 S r st)
noncomputable def shp8 (S : Int → Int) (r : Int → Int) (st : PS) : PS := mustS S 1 (cif (∃ k, 0 ≤ k ∧ k < r 3 ∧ rAt r (shpc S r st) (shpw S r st) k) (failS S (-5) (standS S 0 7 (shp6 S r st))) (standS S 0 7 (shp6 S r st)))
noncomputable def shpO (S : Int → Int) (r : Int → Int) (f : Int) (st : PS) : (Int → Int) × PS := optN S (46 + 25 * r 3) 700 (shpD r (46 + 25 * r 3) f (nmv S (shpM S r st).1) (shpc S r st) (shpw S r st) (shpd S r st)) 0 (shp8 S r st)
noncomputable def shpE (S : Int → Int) (r : Int → Int) (f : Int) (st : PS) : PS := endS S (shpO S r f st).2
noncomputable def shpR (S : Int → Int) (r : Int → Int) (f : Int) (st : PS) : Int → Int := upr (shpO S r f st).1 3 (r 3 + 1)
theorem shp8_W {S : Int → Int} {r : Int → Int} {st : PS} (h : ¬ (shpM S r st).2.1 = 0) : shp8 S r st = shpM S r st := by
  have e4 : nextS S (shpM S r st) = shpM S r st := nextS_W h
  have e5 : shp5 S r st = shpM S r st := by unfold shp5; rw [e4, takeS_W h]
  have e6 : shp6 S r st = shpM S r st := by unfold shp6; rw [e5, takeS_W h]
  unfold shp8
  rw [e6, standS_W h, cifS_W h, mustS_W h]
theorem shpE_W {S : Int → Int} {r : Int → Int} {f : Int} {st : PS} (h : ¬ (shp8 S r st).2.1 = 0) : shpE S r f st = shp8 S r st := by
  unfold shpE shpO
  rw [optN_W h, endS_W h]
theorem onS_shpM {S : Int → Int} {L : Int} {r : Int → Int} {st : PS} (hT : TxS S L) (h : 0 ≤ st.1 ∧ st.1 ≤ L) : onS L st (shp3 S r st) ∧ onS L (shp3 S r st) (shpM S r st) := by
  have a0 : onS L st (if r 3 = 12 then failS S (-6) st else st) := by
    split
    · exact onS_fail h.2
    · exact onS_refl h.2
  have a1 : onS L st (shp3 S r st) := onS_trans a0 (onS_must hT (onS_0 a0 h.1))
  have a2 : onS L (shp3 S r st) (nameS S (shp3 S r st)) := onS_name a1.2.1
  exact ⟨a1, onS_cif (onS_trans a2 (onS_fail a2.2.1)) a2⟩
theorem onS_shp8 {S : Int → Int} {L : Int} {r : Int → Int} {st : PS} (hT : TxS S L) (h : 0 ≤ st.1 ∧ st.1 ≤ L) : onS L (shpM S r st) (shp8 S r st) := by
  obtain ⟨a1, a2⟩ := onS_shpM (r := r) hT h
  have m0 := onS_0 (onS_trans a1 a2) h.1
  have b1 := onS_next (s := shpM S r st) hT m0
  have b2 : onS L (shpM S r st) (shp5 S r st) := onS_trans b1 (onS_take hT (onS_0 b1 m0.1))
  have b3 : onS L (shpM S r st) (shp6 S r st) := onS_trans b2 (onS_take hT (onS_0 b2 m0.1))
  have b4 : onS L (shpM S r st) (standS S 0 7 (shp6 S r st)) := onS_trans b3 (onS_stand b3.2.1)
  have b5 := onS_cif (P := ∃ k, 0 ≤ k ∧ k < r 3 ∧ rAt r (shpc S r st) (shpw S r st) k) (onS_trans b4 (onS_fail (S := S) (code := -5) b4.2.1)) b4
  exact onS_trans b5 (onS_must hT (onS_0 b5 m0.1))
theorem onS_shpE {S : Int → Int} {L f : Int} {r : Int → Int} {st : PS} (hT : TxS S L) (h : 0 ≤ st.1 ∧ st.1 ≤ L) : onS L (shp3 S r st) (shpE S r f st) := by
  obtain ⟨a1, a2⟩ := onS_shpM (r := r) hT h
  have m0 := onS_0 (onS_trans a1 a2) h.1
  have b := onS_shp8 (r := r) hT h
  have c := onS_optN (s := 46 + 25 * r 3) hT 700 (shpD r (46 + 25 * r 3) f (nmv S (shpM S r st).1) (shpc S r st) (shpw S r st) (shpd S r st)) 0 (shp8 S r st) (onS_0 b m0.1)
  have d := onS_trans b c
  exact onS_trans a2 (onS_trans d (onS_end hT (onS_0 d m0.1)))
