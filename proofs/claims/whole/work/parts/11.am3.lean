def am_at (n : Nat) (b : Int) (ci : Nat) : Prop := 0 ≤ b ∧ b < n ∧ ci < 100 ∧ (am_SH b.toNat).1 = ci
def am_ar (n : Nat) (b : Int) (kd len : Nat) : Prop := 0 ≤ b ∧ b < n ∧ 100 ≤ kd ∧ am_SH b.toNat = (kd, len)
theorem am_F {z : AMZ} {s t : State} {H : Heap} {locs : List Loc} (hS : va_S (am_A z) s.heap H locs) (ht : t.heap = H) : va_F (am_A z) s t := by
  subst ht
  exact ⟨hS.1, hS.2.1⟩
theorem am_obj {z : AMZ} {h : AH} {H : Heap} {n : Nat} {b : Int} {ci : Nat} (hW : am_Wd z n h H) (hb : am_at n b ci) : ∃ r : vw_C, vwCl[ci]? = some r ∧ t_OB (z.2.2.1 + b.toNat) (z.1.1 ci) r.2.2 (z.1.2 ci) H (fun j => av z (am_FT ci j, h b j)) := by
  obtain ⟨h0, h1, h2, h3⟩ := hb
  have hc := hW.1 b.toNat (by omega)
  unfold am_cell at hc
  rw [h3, if_pos h2] at hc
  rw [Int.toNat_of_nonneg h0] at hc
  exact hc
theorem am_arr {z : AMZ} {h : AH} {H : Heap} {n : Nat} {b : Int} {kd len : Nat} (hW : am_Wd z n h H) (hb : am_ar n b kd len) : H[z.2.2.1 + b.toNat]? = some (arrV (z.2.1 kd) len (fun j => av z (kd % 10, h b j))) := by
  obtain ⟨h0, h1, h2, h3⟩ := hb
  have hc := hW.1 b.toNat (by omega)
  unfold am_cell at hc
  rw [h3] at hc
  rw [if_neg (by show ¬ kd < 100; omega), Int.toNat_of_nonneg h0] at hc
  exact hc
theorem am_cell_other {z : AMZ} {h h' : AH} {H H' : Heap} {k' : Nat} (hh : ∀ j, h' k' j = h k' j) (hq : H'[z.2.2.1 + k']? = H[z.2.2.1 + k']?) (hc : am_cell z h H k') : am_cell z h' H' k' := by
  unfold am_cell at hc ⊢
  split at hc
  · rename_i q
    rw [if_pos q]
    obtain ⟨r, h1, cell, q1, q2, q3, q4⟩ := hc
    exact ⟨r, h1, cell, by rw [hq]; exact q1, q2, q3, fun j hj => by have h9 := q4 j hj; dsimp only at h9 ⊢; rw [hh]; exact h9⟩
  · rename_i q
    rw [if_neg q, hq, hc]
    congr 2
    funext j
    rw [hh]
theorem am_sz_same {z : AMZ} {n : Nat} {H H' : Heap} (h : am_sz z n H) (e : H'.size = H.size) : am_sz z n H' := by
  unfold am_sz at h ⊢
  rw [e]
  exact h
theorem am_Wd_arr {z : AMZ} {h : AH} {H H' : Heap} {n : Nat} {b j v : Int} {kd len : Nat} (hW : am_Wd z n h H) (hb : am_ar n b kd len) (hj : 0 ≤ j) (he : H'[z.2.2.1 + b.toNat]? = some (arrV (z.2.1 kd) len (updV (fun j => av z (kd % 10, h b j)) j.toNat (av z (kd % 10, v))))) (hz : H'.size = H.size) (ho : ∀ q, q ≠ z.2.2.1 + b.toNat → H'[q]? = H[q]?) : am_Wd z n (up h b j v) H' := by
  refine ⟨fun k' hk' => ?_, am_sz_same hW.2.1 hz, hW.2.2⟩
  obtain ⟨h0, h1, h2, h3⟩ := hb
  by_cases hkb : k' = b.toNat
  · subst hkb
    unfold am_cell
    rw [h3]
    rw [if_neg (by show ¬ kd < 100; omega), he]
    congr 2
    funext j'
    rw [Int.toNat_of_nonneg h0]
    unfold updV up
    by_cases hjj : j' = j.toNat
    · subst hjj
      rw [if_pos rfl, if_pos ⟨rfl, by omega⟩]
    · rw [if_neg hjj, if_neg (by rintro ⟨-, e⟩; omega)]
  · exact am_cell_other (fun j' => up_ne (by rintro ⟨e, -⟩; omega)) (ho _ (by omega)) (hW.1 k' hk')
theorem am_Wd_obj {z : AMZ} {h : AH} {H H' : Heap} {n : Nat} {b f v : Int} {ci : Nat} {r : vw_C} (hW : am_Wd z n h H) (hb : am_at n b ci) (hf : 0 ≤ f) (hr : vwCl[ci]? = some r) (he : t_OB (z.2.2.1 + b.toNat) (z.1.1 ci) r.2.2 (z.1.2 ci) H' (updV (fun j => av z (am_FT ci j, h b j)) f.toNat (av z (am_FT ci f.toNat, v)))) (hz : H'.size = H.size) (ho : ∀ q, q ≠ z.2.2.1 + b.toNat → H'[q]? = H[q]?) : am_Wd z n (up h b f v) H' := by
  refine ⟨fun k' hk' => ?_, am_sz_same hW.2.1 hz, hW.2.2⟩
  obtain ⟨h0, h1, h2, h3⟩ := hb
  by_cases hkb : k' = b.toNat
  · subst hkb
    unfold am_cell
    rw [h3, if_pos h2]
    refine ⟨r, hr, he.to fun j' _ => ?_⟩
    rw [Int.toNat_of_nonneg h0]
    unfold updV up
    by_cases hjj : j' = f.toNat
    · subst hjj
      rw [if_pos rfl, if_pos ⟨rfl, by omega⟩]
    · rw [if_neg hjj, if_neg (by rintro ⟨-, e⟩; omega)]
  · exact am_cell_other (fun j' => up_ne (by rintro ⟨e, -⟩; omega)) (ho _ (by omega)) (hW.1 k' hk')
theorem am_RV_2 {k f : Nat} {r : Int} (h : am_RV k f = some r) : am_T k f = 2 := by
  unfold am_RV at h
  split at h
  · assumption
  · cases h
theorem am_inv_up {n : Nat} {h : AH} {k j v : Int} (hI : am_inv n h) (hk : 0 ≤ k) (hj : 0 ≤ j) (hv : am_ok (am_T k.toNat j.toNat, v)) (h2 : am_T k.toNat j.toNat ≠ 2 ∨ n < 159) : am_inv n (up h k j v) := by
  refine ⟨fun k' j' => ?_, fun hn k' f r hr => ?_⟩
  · by_cases q : (k' : Int) = k ∧ (j' : Int) = j
    · obtain ⟨rfl, rfl⟩ := q
      rw [up_at]
      simpa using hv
    · rw [up_ne q]
      exact hI.1 k' j'
  · rw [up_ne]
    · exact hI.2 hn k' f r hr
    · rintro ⟨rfl, rfl⟩
      have := am_RV_2 hr
      simp only [Int.toNat_natCast] at h2
      omega
theorem am_T_at {n : Nat} {b : Int} {ci : Nat} (hb : am_at n b ci) (f : Nat) : am_T b.toNat f = am_FT ci f := by
  obtain ⟨-, -, h2, h3⟩ := hb
  unfold am_T
  rw [h3, if_pos h2]
theorem am_T_ar {n : Nat} {b : Int} {kd len : Nat} (hb : am_ar n b kd len) (f : Nat) : am_T b.toNat f = kd % 10 := by
  obtain ⟨-, -, h2, h3⟩ := hb
  unfold am_T
  rw [h3, if_neg (by show ¬ kd < 100; omega)]
theorem am_okh {n : Nat} {h : AH} (hI : am_inv n h) {b j : Int} (hb : 0 ≤ b) (hj : 0 ≤ j) : am_ok (am_T b.toNat j.toNat, h b j) := by
  have := hI.1 b.toNat j.toNat
  rwa [Int.toNat_of_nonneg hb, Int.toNat_of_nonneg hj] at this
theorem aw_get {M : AMM} {d mc ms : Nat} {K : AO → Nat → AH → Prop} {n pc : Nat} {ls st : List AV} {h : AH} {b : Int} {idx ci tg : Nat} (f : Int) (hdg : decode M.2.1 pc = .ok (.getfield idx, 3)) (hw : am_fl M.1.cls idx ci f) (hb : am_at n b ci) (ht : am_FT ci f.toNat = tg) (k : AW M d mc ms K n (pc + 3) ls ((tg, h b f) :: st) h) : AW M d mc ms K n pc ls ((2, b) :: st) h := by
  intro z p l e R s m args below meth c H locs cells slots MC MS la X
  obtain ⟨C, G, hS, hW, hI, hls, hst, hL, b1, b2, b3, b4⟩ := X
  obtain ⟨h0f, Cn, T, N, ⟨hc, hin, -⟩, hf, hlk⟩ := hw
  obtain ⟨r, h1, cell, q1, q2, q3, q4⟩ := am_obj hW hb
  have hr : r = (Cn, T, N) := Option.some.inj (h1.symm.trans hc)
  subst hr
  obtain ⟨hSl, hfc, kC, hkC, hkind⟩ := G.1.1 ci _ hc
  obtain ⟨cf, kf, fi, fd, hi, hsl⟩ := hSl f.toNat hf
  have hts := C.2.2.2.2.1
  have hfst := (u_facts hfc hkC (u_lays hts hin hf) hi).1
  have hok : am_ok (tg, h b f) := by rw [← ht, ← am_T_at hb]; exact am_okh hI hb.1 h0f
  have hgo : W p l e R s m args below meth c H locs cells slots (vx_MQ below (am_Q z K) (am_X z K) args s MC MS (am_A z)) (F0 m (pc + 3) la (av z (tg, h b f) :: st.map (av z))) := k z p l e R s m args below meth c H locs cells slots MC MS la ⟨C, G, hS, hW, hI, hls, am_oksc hok (am_okst hst), hL, b1, b2, b3, b4⟩
  show W p l e R s m args below meth c H locs cells slots (vx_MQ below (am_Q z K) (am_X z K) args s MC MS (am_A z)) (F0 m pc la (av z (2, b) :: st.map (av z)))
  rw [av_ref z hb.1 (by have := hb.2.1; have := hW.2.2; omega)]
  refine W.getf C.1 C.2.1 C.2.2.2.1 (hts _ hlk) hi hfst q1 (by rw [q3]; exact fun h => by cases h) (v := av z (tg, h b f)) ?_ rfl rfl hdg hgo
  rw [hsl, q4 _ hf]
  show some (av z (am_FT ci f.toNat, h b (f.toNat : Int))) = _
  rw [ht, Int.toNat_of_nonneg h0f]
theorem aw_getR {M : AMM} {d mc ms : Nat} {K : AO → Nat → AH → Prop} {n pc : Nat} {ls st : List AV} {h : AH} {b r : Int} {idx ci : Nat} (f : Int) (hn : n = 159) (hdg : decode M.2.1 pc = .ok (.getfield idx, 3)) (hw : am_fl M.1.cls idx ci f) (hb : am_at n b ci) (ht : am_FT ci f.toNat = 2) (hr : am_RV b.toNat f.toNat = some r) (k : AW M d mc ms K n (pc + 3) ls ((2, r) :: st) h) : AW M d mc ms K n pc ls ((2, b) :: st) h := by
  have k0 : AW M d mc ms K n (pc + 3) ls ((2, h b f) :: st) h := by
    intro z p l e R s m args below meth c H locs cells slots MC MS la X
    obtain ⟨C, G, hS, hW, hI, hls, hst, hL, b1, b2, b3, b4⟩ := X
    have he : h b f = r := by
      have := hI.2 hn b.toNat f.toNat r hr
      rwa [Int.toNat_of_nonneg hb.1, Int.toNat_of_nonneg hw.1] at this
    rw [he] at hst ⊢
    exact k z p l e R s m args below meth c H locs cells slots MC MS la ⟨C, G, hS, hW, hI, hls, hst, hL, b1, b2, b3, b4⟩
  exact aw_get f hdg hw hb ht k0
theorem aw_put {M : AMM} {d mc ms : Nat} {K : AO → Nat → AH → Prop} {n pc : Nat} {ls st : List AV} {h : AH} {b v : Int} {idx ci : Nat} (f : Int) (hdg : decode M.2.1 pc = .ok (.putfield idx, 3)) (hw : am_flp M.1.cls idx ci f .int) (hb : am_at n b ci) (ht : am_FT ci f.toNat = 0) (k : AW M d mc ms K n (pc + 3) ls st (up h b f v)) : AW M d mc ms K n pc ls ((0, v) :: (2, b) :: st) h := by
  intro z p l e R s m args below meth c H locs cells slots MC MS la X
  obtain ⟨C, G, hS, hW, hI, hls, hst, hL, b1, b2, b3, b4⟩ := X
  obtain ⟨h0f, Cn, T, N, ⟨hc, hin, ty0, hty, hnm, htg⟩, hf, hlk, hfin, hd⟩ := hw
  have hts := C.2.2.2.2.1
  have hap := va_apart (own := M.1.cls) hts hin ty0 hty hnm G.1 hc
  obtain ⟨r, h1, cell, q1, q2, q3, q4⟩ := am_obj hW hb
  have hr : r = (Cn, T, N) := Option.some.inj (h1.symm.trans hc)
  subst hr
  obtain ⟨hSl, hfc, kC, hkC, hkind⟩ := G.1.1 ci _ hc
  obtain ⟨cf, kf, fi, fd, hi, hsl⟩ := hSl f.toNat hf
  have hlay := hts _ (hin _ (u_in_lay hf))
  unfold u_lay at hlay
  rw [if_neg (by rw [hfin]; decide)] at hlay
  have hfst := (u_facts hfc hkC (u_lays hts hin hf) hi).1
  have h6 : k2_Sd s fd (z.1.1 ci) (.int (Int32.ofInt v)) := u_store hfc hkC hkind hlay hi hd rfl rfl
  show W p l e R s m args below meth c H locs cells slots (vx_MQ below (am_Q z K) (am_X z K) args s MC MS (am_A z)) (F0 m pc la (.int (Int32.ofInt v) :: av z (2, b) :: st.map (av z)))
  rw [av_ref z hb.1 (by have := hb.2.1; have := hW.2.2; omega)]
  refine W.putK (v := .int (Int32.ofInt v)) C.1 C.2.1 (f := fd) ⟨C.2.2.2.1, hts _ hlk, ⟨_, _, _, hi⟩, hfst⟩ (by rw [q2]; exact h6) q1 q3 (by rw [hsl]; exact k2_hasslot (q4 _ hf)) rfl rfl hdg fun H' e1 e2 e3 => ?_
  rw [hsl] at e1 ⊢
  have hok := am_oksh hst
  refine k z p l e R s m args below meth c H' (locs ++ [⟨z.2.2.1 + b.toNat, _⟩]) cells slots MC MS la ⟨C, G, hS.put e2 e3 (Nat.le_add_right _ _), ?_, am_inv_up hI hb.1 h0f (by rw [am_T_at hb, ht]; exact hok) (Or.inl (by rw [am_T_at hb, ht]; decide)), hls, am_okst (am_okst hst), hL, b1, b2, b3, b4⟩
  refine am_Wd_obj hW hb h0f h1 ⟨_, e1, q2, q3, ?_⟩ e2 e3
  rw [ht]
  exact t_set q4 hap hf _
theorem aw_putl {M : AMM} {d mc ms : Nat} {K : AO → Nat → AH → Prop} {n pc : Nat} {ls st : List AV} {h : AH} {b v : Int} {idx ci : Nat} (f : Int) (hdg : decode M.2.1 pc = .ok (.putfield idx, 3)) (hw : am_flp M.1.cls idx ci f .long) (hb : am_at n b ci) (ht : am_FT ci f.toNat = 1) (k : AW M d mc ms K n (pc + 3) ls st (up h b f v)) : AW M d mc ms K n pc ls ((1, v) :: (2, b) :: st) h := by
  intro z p l e R s m args below meth c H locs cells slots MC MS la X
  obtain ⟨C, G, hS, hW, hI, hls, hst, hL, b1, b2, b3, b4⟩ := X
  obtain ⟨h0f, Cn, T, N, ⟨hc, hin, ty0, hty, hnm, htg⟩, hf, hlk, hfin, hd⟩ := hw
  have hts := C.2.2.2.2.1
  have hap := va_apart (own := M.1.cls) hts hin ty0 hty hnm G.1 hc
  obtain ⟨r, h1, cell, q1, q2, q3, q4⟩ := am_obj hW hb
  have hr : r = (Cn, T, N) := Option.some.inj (h1.symm.trans hc)
  subst hr
  obtain ⟨hSl, hfc, kC, hkC, hkind⟩ := G.1.1 ci _ hc
  obtain ⟨cf, kf, fi, fd, hi, hsl⟩ := hSl f.toNat hf
  have hlay := hts _ (hin _ (u_in_lay hf))
  unfold u_lay at hlay
  rw [if_neg (by rw [hfin]; decide)] at hlay
  have hfst := (u_facts hfc hkC (u_lays hts hin hf) hi).1
  have h6 : k2_Sd s fd (z.1.1 ci) (.long (Int64.ofInt v)) := u_store hfc hkC hkind hlay hi hd rfl rfl
  show W p l e R s m args below meth c H locs cells slots (vx_MQ below (am_Q z K) (am_X z K) args s MC MS (am_A z)) (F0 m pc la (.long (Int64.ofInt v) :: av z (2, b) :: st.map (av z)))
  rw [av_ref z hb.1 (by have := hb.2.1; have := hW.2.2; omega)]
  refine W.putK (v := .long (Int64.ofInt v)) C.1 C.2.1 (f := fd) ⟨C.2.2.2.1, hts _ hlk, ⟨_, _, _, hi⟩, hfst⟩ (by rw [q2]; exact h6) q1 q3 (by rw [hsl]; exact k2_hasslot (q4 _ hf)) rfl rfl hdg fun H' e1 e2 e3 => ?_
  rw [hsl] at e1 ⊢
  have hok := am_oksh hst
  refine k z p l e R s m args below meth c H' (locs ++ [⟨z.2.2.1 + b.toNat, _⟩]) cells slots MC MS la ⟨C, G, hS.put e2 e3 (Nat.le_add_right _ _), ?_, am_inv_up hI hb.1 h0f (by rw [am_T_at hb, ht]; exact hok) (Or.inl (by rw [am_T_at hb, ht]; decide)), hls, am_okst (am_okst hst), hL, b1, b2, b3, b4⟩
  refine am_Wd_obj hW hb h0f h1 ⟨_, e1, q2, q3, ?_⟩ e2 e3
  rw [ht]
  exact t_set q4 hap hf _
theorem aw_putF {M : AMM} {d mc ms : Nat} {K : AO → Nat → AH → Prop} {n pc : Nat} {ls st : List AV} {h : AH} {b v : Int} {idx ci : Nat} {ty : FieldType} (f : Int) (hn : n < 159) (hv0 : 0 ≤ v) (hv1 : v < 1000) (hdg : decode M.2.1 pc = .ok (.putfield idx, 3)) (hw : am_flf M.1.cls idx ci f ty) (hfit : ∀ a : Nat, narrow ty (.ref a) = .ref a ∧ fits ty (.ref a) = true) (hin2 : M.1.name = "<init>") (hb : am_at n b ci) (ht : am_FT ci f.toNat = 2) (k : AW M d mc ms K n (pc + 3) ls st (up h b f v)) : AW M d mc ms K n pc ls ((2, v) :: (2, b) :: st) h := by
  intro z p l e R s m args below meth c H locs cells slots MC MS la X
  obtain ⟨C, G, hS, hW, hI, hls, hst, hL, b1, b2, b3, b4⟩ := X
  obtain ⟨h0f, Cn, T, N, ⟨hc, hin, ty0, hty, hnm, htg⟩, hf, hlk, hfin, hd, hown2, hdecl⟩ := hw
  have hts := C.2.2.2.2.1
  have hap := va_apart (own := M.1.cls) hts hin ty0 hty hnm G.1 hc
  obtain ⟨r, h1, cell, q1, q2, q3, q4⟩ := am_obj hW hb
  have hr : r = (Cn, T, N) := Option.some.inj (h1.symm.trans hc)
  subst hr
  obtain ⟨hSl, hfc, kC, hkC, hkind⟩ := G.1.1 ci _ hc
  obtain ⟨cf, kf, fi, fd, hi, hsl⟩ := hSl f.toNat hf
  have hlay := hts _ (hin _ (u_in_lay hf))
  unfold u_lay at hlay
  rw [if_pos hfin] at hlay
  have hfst := (u_facts hfc hkC (u_lays hts hin hf) hi).1
  have hcf : m.cls = cf := by
    obtain ⟨_, _, c', _, _, _, -, -, hf', -, -, -, hown3, -⟩ := Cond.laysFinal_spec hlay
    have e1 : c' = cf := by have := hi.symm.trans hf'; simp at this; exact this.1.symm
    rw [hdecl] at hown3
    rw [← e1]; exact Option.some.inj (C.2.2.2.1.symm.trans hown3)
  have h6 := u_fits (v := .ref (z.2.2.1 + v.toNat)) hfc hkC hkind (Or.inr hlay) hi hd (hfit _).1 (hfit _).2
  show W p l e R s m args below meth c H locs cells slots (vx_MQ below (am_Q z K) (am_X z K) args s MC MS (am_A z)) (F0 m pc la (av z (2, v) :: av z (2, b) :: st.map (av z)))
  rw [av_ref z hb.1 (by have := hb.2.1; have := hW.2.2; omega), av_ref z hv0 hv1]
  refine W.putFinK C.1 C.2.1 C.2.2.2.1 (hts _ hlk) hi hfst hcf (C.2.2.2.2.2.2.2.2.2.2.2.trans hin2) (by rw [q2]; exact h6) q1 q3 (by rw [hsl]; exact k2_hasslot (q4 _ hf)) rfl rfl hdg fun H' e1 e2 e3 => ?_
  rw [hsl] at e1 ⊢
  have hok := am_oksh hst
  refine k z p l e R s m args below meth c H' (locs ++ [⟨z.2.2.1 + b.toNat, _⟩]) cells slots MC MS la ⟨C, G, hS.put e2 e3 (Nat.le_add_right _ _), ?_, am_inv_up hI hb.1 h0f (by rw [am_T_at hb, ht]; exact hok) (Or.inr hn), hls, am_okst (am_okst hst), hL, b1, b2, b3, b4⟩
  refine am_Wd_obj hW hb h0f h1 ⟨_, e1, q2, q3, ?_⟩ e2 e3
  rw [ht, av_ref z hv0 hv1]
  exact t_set q4 hap hf _
theorem am_inb {j : Int} {n : Nat} (h0 : 0 ≤ j) (h1 : j < n) (h2 : j < 2147483648) : ¬ (Int32.ofInt j < 0 ∨ n ≤ (Int32.ofInt j).toNatClampNeg) := by
  rw [am_0, am_lt ⟨by omega, h2⟩ (by decide), Int32.toNatClampNeg_ofInt_of_le (by omega) (by omega)]
  omega
theorem am_nat {j : Int} (h0 : 0 ≤ j) (h2 : j < 2147483648) : (Int32.ofInt j).toNatClampNeg = j.toNat := Int32.toNatClampNeg_ofInt_of_le (by omega) (by omega)
theorem am_tyat {z : AMZ} {s : State} (G : am_G z s) {t : Nat} {cA : ClassId} {ty : FieldType} (h : (am_tys z)[t]? = some (cA, ty)) (n : Nat) (f : Nat → Value) : s.isArrayOf (arrV cA n f) ty := (G.1.2 t _ h).1 n f
theorem aw_iald {M : AMM} {d mc ms : Nat} {K : AO → Nat → AH → Prop} {n pc : Nat} {ls st : List AV} {h : AH} {b i : Int} {len : Nat} (hdg : decode M.2.1 pc = .ok (.iaload, 1)) (hb : am_ar n b 100 len) (hi : 0 ≤ i ∧ i < len) (k : AW M d mc ms K n (pc + 1) ls ((0, h b i) :: st) h) : AW M d mc ms K n pc ls ((0, i) :: (2, b) :: st) h := by
  intro z p l e R s m args below meth c H locs cells slots MC MS la X
  obtain ⟨C, G, hS, hW, hI, hls, hst, hL, b1, b2, b3, b4⟩ := X
  have hc := am_arr hW hb
  have ri := (am_oksh hst).1 rfl
  dsimp only at ri
  have hok : am_ok (0, h b i) := by have := am_okh hI hb.1 hi.1; rwa [am_T_ar hb] at this
  have hgo : W p l e R s m args below meth c H locs cells slots (vx_MQ below (am_Q z K) (am_X z K) args s MC MS (am_A z)) (F0 m (pc + 1) la (av z (0, h b i) :: st.map (av z))) := k z p l e R s m args below meth c H locs cells slots MC MS la ⟨C, G, hS, hW, hI, hls, am_oksc hok (am_okst (am_okst hst)), hL, b1, b2, b3, b4⟩
  show W p l e R s m args below meth c H locs cells slots (vx_MQ below (am_Q z K) (am_X z K) args s MC MS (am_A z)) (F0 m pc la (.int (Int32.ofInt i) :: av z (2, b) :: st.map (av z)))
  rw [av_ref z hb.1 (by have := hb.2.1; have := hW.2.2; omega)]
  refine W.iald C.1 C.2.1 hc (am_tyat G (t := 0) rfl _ _) (fun q => by cases q) (by rw [arrV_size]; exact am_inb hi.1 hi.2 ri.2) (v := av z (0, h b i)) ?_ rfl rfl hdg hgo
  rw [am_nat hi.1 ri.2, arrV_read _ _ (by omega), Int.toNat_of_nonneg hi.1]
theorem aw_zald {M : AMM} {d mc ms : Nat} {K : AO → Nat → AH → Prop} {n pc : Nat} {ls st : List AV} {h : AH} {b i : Int} {len : Nat} (hdg : decode M.2.1 pc = .ok (.baload, 1)) (hb : am_ar n b 110 len) (hi : 0 ≤ i ∧ i < len) (k : AW M d mc ms K n (pc + 1) ls ((0, h b i) :: st) h) : AW M d mc ms K n pc ls ((0, i) :: (2, b) :: st) h := by
  intro z p l e R s m args below meth c H locs cells slots MC MS la X
  obtain ⟨C, G, hS, hW, hI, hls, hst, hL, b1, b2, b3, b4⟩ := X
  have hc := am_arr hW hb
  have ri := (am_oksh hst).1 rfl
  dsimp only at ri
  have hok : am_ok (0, h b i) := by have := am_okh hI hb.1 hi.1; rwa [am_T_ar hb] at this
  have hgo : W p l e R s m args below meth c H locs cells slots (vx_MQ below (am_Q z K) (am_X z K) args s MC MS (am_A z)) (F0 m (pc + 1) la (av z (0, h b i) :: st.map (av z))) := k z p l e R s m args below meth c H locs cells slots MC MS la ⟨C, G, hS, hW, hI, hls, am_oksc hok (am_okst (am_okst hst)), hL, b1, b2, b3, b4⟩
  show W p l e R s m args below meth c H locs cells slots (vx_MQ below (am_Q z K) (am_X z K) args s MC MS (am_A z)) (F0 m pc la (.int (Int32.ofInt i) :: av z (2, b) :: st.map (av z)))
  rw [av_ref z hb.1 (by have := hb.2.1; have := hW.2.2; omega)]
  refine W.zald C.1 C.2.1 hc (am_tyat G (t := 1) rfl _ _) (fun q => by cases q) (by rw [arrV_size]; exact am_inb hi.1 hi.2 ri.2) (v := av z (0, h b i)) ?_ rfl rfl hdg hgo
  rw [am_nat hi.1 ri.2, arrV_read _ _ (by omega), Int.toNat_of_nonneg hi.1]
theorem aw_lald {M : AMM} {d mc ms : Nat} {K : AO → Nat → AH → Prop} {n pc : Nat} {ls st : List AV} {h : AH} {b i : Int} {len : Nat} (hdg : decode M.2.1 pc = .ok (.laload, 1)) (hb : am_ar n b 101 len) (hi : 0 ≤ i ∧ i < len) (k : AW M d mc ms K n (pc + 1) ls ((1, h b i) :: st) h) : AW M d mc ms K n pc ls ((0, i) :: (2, b) :: st) h := by
  intro z p l e R s m args below meth c H locs cells slots MC MS la X
  obtain ⟨C, G, hS, hW, hI, hls, hst, hL, b1, b2, b3, b4⟩ := X
  have hc := am_arr hW hb
  have ri := (am_oksh hst).1 rfl
  dsimp only at ri
  have hok : am_ok (1, h b i) := by have := am_okh hI hb.1 hi.1; rwa [am_T_ar hb] at this
  have hgo : W p l e R s m args below meth c H locs cells slots (vx_MQ below (am_Q z K) (am_X z K) args s MC MS (am_A z)) (F0 m (pc + 1) la (av z (1, h b i) :: st.map (av z))) := k z p l e R s m args below meth c H locs cells slots MC MS la ⟨C, G, hS, hW, hI, hls, am_oksc hok (am_okst (am_okst hst)), hL, b1, b2, b3, b4⟩
  show W p l e R s m args below meth c H locs cells slots (vx_MQ below (am_Q z K) (am_X z K) args s MC MS (am_A z)) (F0 m pc la (.int (Int32.ofInt i) :: av z (2, b) :: st.map (av z)))
  rw [av_ref z hb.1 (by have := hb.2.1; have := hW.2.2; omega)]
  refine W.lald C.1 C.2.1 hc (am_tyat G (t := 2) rfl _ _) (fun q => by cases q) (by rw [arrV_size]; exact am_inb hi.1 hi.2 ri.2) (v := av z (1, h b i)) ?_ rfl rfl hdg hgo
  rw [am_nat hi.1 ri.2, arrV_read _ _ (by omega), Int.toNat_of_nonneg hi.1]
theorem aw_dald {M : AMM} {d mc ms : Nat} {K : AO → Nat → AH → Prop} {n pc : Nat} {ls st : List AV} {h : AH} {b i : Int} {len : Nat} (hdg : decode M.2.1 pc = .ok (.daload, 1)) (hb : am_ar n b 104 len) (hi : 0 ≤ i ∧ i < len) (k : AW M d mc ms K n (pc + 1) ls ((4, h b i) :: st) h) : AW M d mc ms K n pc ls ((0, i) :: (2, b) :: st) h := by
  intro z p l e R s m args below meth c H locs cells slots MC MS la X
  obtain ⟨C, G, hS, hW, hI, hls, hst, hL, b1, b2, b3, b4⟩ := X
  have hc := am_arr hW hb
  have ri := (am_oksh hst).1 rfl
  dsimp only at ri
  have hok : am_ok (4, h b i) := by have := am_okh hI hb.1 hi.1; rwa [am_T_ar hb] at this
  have hgo : W p l e R s m args below meth c H locs cells slots (vx_MQ below (am_Q z K) (am_X z K) args s MC MS (am_A z)) (F0 m (pc + 1) la (av z (4, h b i) :: st.map (av z))) := k z p l e R s m args below meth c H locs cells slots MC MS la ⟨C, G, hS, hW, hI, hls, am_oksc hok (am_okst (am_okst hst)), hL, b1, b2, b3, b4⟩
  show W p l e R s m args below meth c H locs cells slots (vx_MQ below (am_Q z K) (am_X z K) args s MC MS (am_A z)) (F0 m pc la (.int (Int32.ofInt i) :: av z (2, b) :: st.map (av z)))
  rw [av_ref z hb.1 (by have := hb.2.1; have := hW.2.2; omega)]
  refine W.dald C.1 C.2.1 hc (am_tyat G (t := 3) rfl _ _) (fun q => by cases q) (by rw [arrV_size]; exact am_inb hi.1 hi.2 ri.2) (v := av z (4, h b i)) ?_ rfl rfl hdg hgo
  rw [am_nat hi.1 ri.2, arrV_read _ _ (by omega), Int.toNat_of_nonneg hi.1]
theorem aw_aald {M : AMM} {d mc ms : Nat} {K : AO → Nat → AH → Prop} {n pc : Nat} {ls st : List AV} {h : AH} {b i r : Int} {len : Nat} (hn : n = 159) (hdg : decode M.2.1 pc = .ok (.aaload, 1)) (hb : am_ar n b 102 len) (hi : 0 ≤ i ∧ i < len) (hr : am_RV b.toNat i.toNat = some r) (k : AW M d mc ms K n (pc + 1) ls ((2, r) :: st) h) : AW M d mc ms K n pc ls ((0, i) :: (2, b) :: st) h := by
  intro z p l e R s m args below meth c H locs cells slots MC MS la X
  obtain ⟨C, G, hS, hW, hI, hls, hst, hL, b1, b2, b3, b4⟩ := X
  have hc := am_arr hW hb
  have ri := (am_oksh hst).1 rfl
  dsimp only at ri
  have hgo : W p l e R s m args below meth c H locs cells slots (vx_MQ below (am_Q z K) (am_X z K) args s MC MS (am_A z)) (F0 m (pc + 1) la (av z (2, r) :: st.map (av z))) := k z p l e R s m args below meth c H locs cells slots MC MS la ⟨C, G, hS, hW, hI, hls, am_oksc (am_ok2 r) (am_okst (am_okst hst)), hL, b1, b2, b3, b4⟩
  show W p l e R s m args below meth c H locs cells slots (vx_MQ below (am_Q z K) (am_X z K) args s MC MS (am_A z)) (F0 m pc la (.int (Int32.ofInt i) :: av z (2, b) :: st.map (av z)))
  rw [av_ref z hb.1 (by have := hb.2.1; have := hW.2.2; omega)]
  refine W.aald C.1 C.2.1 hc (am_tyat G (t := 4) rfl _ _) rfl (fun q => by cases q) (by rw [arrV_size]; exact am_inb hi.1 hi.2 ri.2) (v := av z (2, r)) ?_ rfl rfl hdg hgo
  have e := hI.2 hn b.toNat i.toNat r hr
  rw [Int.toNat_of_nonneg hb.1] at e
  rw [am_nat hi.1 ri.2, arrV_read _ _ (by omega), e]
theorem aw_iast {M : AMM} {d mc ms : Nat} {K : AO → Nat → AH → Prop} {n pc : Nat} {ls st : List AV} {h : AH} {b i v : Int} {len : Nat} (hdg : decode M.2.1 pc = .ok (.iastore, 1)) (hb : am_ar n b 100 len) (hi : 0 ≤ i ∧ i < len) (k : AW M d mc ms K n (pc + 1) ls st (up h b i v)) : AW M d mc ms K n pc ls ((0, v) :: (0, i) :: (2, b) :: st) h := by
  intro z p l e R s m args below meth c H locs cells slots MC MS la X
  obtain ⟨C, G, hS, hW, hI, hls, hst, hL, b1, b2, b3, b4⟩ := X
  have hc := am_arr hW hb
  have ri := (am_oksh (am_okst hst)).1 rfl
  dsimp only at ri
  have hok := am_oksh hst
  show W p l e R s m args below meth c H locs cells slots (vx_MQ below (am_Q z K) (am_X z K) args s MC MS (am_A z)) (F0 m pc la (.int (Int32.ofInt v) :: .int (Int32.ofInt i) :: av z (2, b) :: st.map (av z)))
  rw [av_ref z hb.1 (by have := hb.2.1; have := hW.2.2; omega)]
  refine W.iast C.1 C.2.1 hc (am_tyat G (t := 0) rfl _ _) (fun q => by cases q) (by rw [arrV_size]; exact am_inb hi.1 hi.2 ri.2) rfl rfl hdg fun H' e1 e2 e3 => ?_
  rw [arrV_store, am_nat hi.1 ri.2] at e1
  exact k z p l e R s m args below meth c H' (locs ++ [⟨z.2.2.1 + b.toNat, _⟩]) cells slots MC MS la ⟨C, G, hS.put e2 e3 (Nat.le_add_right _ _), am_Wd_arr hW hb hi.1 e1 e2 e3, am_inv_up hI hb.1 hi.1 (by rw [am_T_ar hb]; exact hok) (Or.inl (by rw [am_T_ar hb]; decide)), hls, am_okst (am_okst (am_okst hst)), hL, b1, b2, b3, b4⟩
theorem aw_zast {M : AMM} {d mc ms : Nat} {K : AO → Nat → AH → Prop} {n pc : Nat} {ls st : List AV} {h : AH} {b i v : Int} {len : Nat} (hdg : decode M.2.1 pc = .ok (.bastore, 1)) (hb : am_ar n b 110 len) (hi : 0 ≤ i ∧ i < len) (hv : v = 0 ∨ v = 1) (k : AW M d mc ms K n (pc + 1) ls st (up h b i v)) : AW M d mc ms K n pc ls ((0, v) :: (0, i) :: (2, b) :: st) h := by
  intro z p l e R s m args below meth c H locs cells slots MC MS la X
  obtain ⟨C, G, hS, hW, hI, hls, hst, hL, b1, b2, b3, b4⟩ := X
  have hc := am_arr hW hb
  have ri := (am_oksh (am_okst hst)).1 rfl
  dsimp only at ri
  have hok := am_oksh hst
  show W p l e R s m args below meth c H locs cells slots (vx_MQ below (am_Q z K) (am_X z K) args s MC MS (am_A z)) (F0 m pc la (.int (Int32.ofInt v) :: .int (Int32.ofInt i) :: av z (2, b) :: st.map (av z)))
  rw [av_ref z hb.1 (by have := hb.2.1; have := hW.2.2; omega)]
  refine W.zast C.1 C.2.1 hc (am_tyat G (t := 1) rfl _ _) (fun q => by cases q) (by rw [arrV_size]; exact am_inb hi.1 hi.2 ri.2) rfl rfl hdg fun H' e1 e2 e3 => ?_
  have hnr : narrow .boolean (.int (Int32.ofInt v)) = .int (Int32.ofInt v) := by rcases hv with rfl | rfl <;> decide
  rw [hnr] at e1
  rw [arrV_store, am_nat hi.1 ri.2] at e1
  exact k z p l e R s m args below meth c H' (locs ++ [⟨z.2.2.1 + b.toNat, _⟩]) cells slots MC MS la ⟨C, G, hS.put e2 e3 (Nat.le_add_right _ _), am_Wd_arr hW hb hi.1 e1 e2 e3, am_inv_up hI hb.1 hi.1 (by rw [am_T_ar hb]; exact hok) (Or.inl (by rw [am_T_ar hb]; decide)), hls, am_okst (am_okst (am_okst hst)), hL, b1, b2, b3, b4⟩
theorem aw_last {M : AMM} {d mc ms : Nat} {K : AO → Nat → AH → Prop} {n pc : Nat} {ls st : List AV} {h : AH} {b i v : Int} {len : Nat} (hdg : decode M.2.1 pc = .ok (.lastore, 1)) (hb : am_ar n b 101 len) (hi : 0 ≤ i ∧ i < len) (k : AW M d mc ms K n (pc + 1) ls st (up h b i v)) : AW M d mc ms K n pc ls ((1, v) :: (0, i) :: (2, b) :: st) h := by
  intro z p l e R s m args below meth c H locs cells slots MC MS la X
  obtain ⟨C, G, hS, hW, hI, hls, hst, hL, b1, b2, b3, b4⟩ := X
  have hc := am_arr hW hb
  have ri := (am_oksh (am_okst hst)).1 rfl
  dsimp only at ri
  have hok := am_oksh hst
  show W p l e R s m args below meth c H locs cells slots (vx_MQ below (am_Q z K) (am_X z K) args s MC MS (am_A z)) (F0 m pc la (.long (Int64.ofInt v) :: .int (Int32.ofInt i) :: av z (2, b) :: st.map (av z)))
  rw [av_ref z hb.1 (by have := hb.2.1; have := hW.2.2; omega)]
  refine W.last C.1 C.2.1 hc (am_tyat G (t := 2) rfl _ _) (fun q => by cases q) (by rw [arrV_size]; exact am_inb hi.1 hi.2 ri.2) rfl rfl hdg fun H' e1 e2 e3 => ?_
  rw [arrV_store, am_nat hi.1 ri.2] at e1
  exact k z p l e R s m args below meth c H' (locs ++ [⟨z.2.2.1 + b.toNat, _⟩]) cells slots MC MS la ⟨C, G, hS.put e2 e3 (Nat.le_add_right _ _), am_Wd_arr hW hb hi.1 e1 e2 e3, am_inv_up hI hb.1 hi.1 (by rw [am_T_ar hb]; exact hok) (Or.inl (by rw [am_T_ar hb]; decide)), hls, am_okst (am_okst (am_okst hst)), hL, b1, b2, b3, b4⟩
theorem aw_dast {M : AMM} {d mc ms : Nat} {K : AO → Nat → AH → Prop} {n pc : Nat} {ls st : List AV} {h : AH} {b i v : Int} {len : Nat} (hdg : decode M.2.1 pc = .ok (.dastore, 1)) (hb : am_ar n b 104 len) (hi : 0 ≤ i ∧ i < len) (k : AW M d mc ms K n (pc + 1) ls st (up h b i v)) : AW M d mc ms K n pc ls ((4, v) :: (0, i) :: (2, b) :: st) h := by
  intro z p l e R s m args below meth c H locs cells slots MC MS la X
  obtain ⟨C, G, hS, hW, hI, hls, hst, hL, b1, b2, b3, b4⟩ := X
  have hc := am_arr hW hb
  have ri := (am_oksh (am_okst hst)).1 rfl
  dsimp only at ri
  have hok := am_oksh hst
  show W p l e R s m args below meth c H locs cells slots (vx_MQ below (am_Q z K) (am_X z K) args s MC MS (am_A z)) (F0 m pc la (.double (UInt64.ofNat v.toNat) :: .int (Int32.ofInt i) :: av z (2, b) :: st.map (av z)))
  rw [av_ref z hb.1 (by have := hb.2.1; have := hW.2.2; omega)]
  refine W.dast C.1 C.2.1 hc (am_tyat G (t := 3) rfl _ _) (fun q => by cases q) (by rw [arrV_size]; exact am_inb hi.1 hi.2 ri.2) rfl rfl hdg fun H' e1 e2 e3 => ?_
  rw [arrV_store, am_nat hi.1 ri.2] at e1
  exact k z p l e R s m args below meth c H' (locs ++ [⟨z.2.2.1 + b.toNat, _⟩]) cells slots MC MS la ⟨C, G, hS.put e2 e3 (Nat.le_add_right _ _), am_Wd_arr hW hb hi.1 e1 e2 e3, am_inv_up hI hb.1 hi.1 (by rw [am_T_ar hb]; exact hok) (Or.inl (by rw [am_T_ar hb]; decide)), hls, am_okst (am_okst (am_okst hst)), hL, b1, b2, b3, b4⟩
theorem aw_alen {M : AMM} {d mc ms : Nat} {K : AO → Nat → AH → Prop} {n pc : Nat} {ls st : List AV} {h : AH} {b : Int} {kd len : Nat} (hl : len < 2147483648) (hdg : decode M.2.1 pc = .ok (.arraylength, 1)) (hb : am_ar n b kd len) (hkd : kd = 100 ∨ kd = 110 ∨ kd = 101 ∨ kd = 102) (k : AW M d mc ms K n (pc + 1) ls ((0, len) :: st) h) : AW M d mc ms K n pc ls ((2, b) :: st) h := by
  intro z p l e R s m args below meth c H locs cells slots MC MS la X
  obtain ⟨C, G, hS, hW, hI, hls, hst, hL, b1, b2, b3, b4⟩ := X
  have hc := am_arr hW hb
  have hgo : W p l e R s m args below meth c H locs cells slots (vx_MQ below (am_Q z K) (am_X z K) args s MC MS (am_A z)) (F0 m (pc + 1) la (.int (Int32.ofInt len) :: st.map (av z))) := k z p l e R s m args below meth c H locs cells slots MC MS la ⟨C, G, hS, hW, hI, hls, am_oksc (am_ok0 (by omega) (by omega)) (am_okst hst), hL, b1, b2, b3, b4⟩
  show W p l e R s m args below meth c H locs cells slots (vx_MQ below (am_Q z K) (am_X z K) args s MC MS (am_A z)) (F0 m pc la (av z (2, b) :: st.map (av z)))
  rw [av_ref z hb.1 (by have := hb.2.1; have := hW.2.2; omega)]
  have hn : (arrV (z.2.1 kd) len (fun j => av z (kd % 10, h b j))).slots.size.toInt32 = Int32.ofInt len := by rw [arrV_size, Int32.ofInt_eq_ofNat]
  rcases hkd with rfl | rfl | rfl | rfl
  · exact W.alen C.1 C.2.1 hc (am_tyat G (t := 0) rfl _ _) hn rfl rfl hdg hgo
  · exact W.alen C.1 C.2.1 hc (am_tyat G (t := 1) rfl _ _) hn rfl rfl hdg hgo
  · exact W.alen C.1 C.2.1 hc (am_tyat G (t := 2) rfl _ _) hn rfl rfl hdg hgo
  · exact W.alen C.1 C.2.1 hc (am_tyat G (t := 4) rfl _ _) hn rfl rfl hdg hgo
theorem aw_gets {M : AMM} {d mc ms : Nat} {K : AO → Nat → AH → Prop} {n pc : Nat} {ls st : List AV} {h : AH} {idx i : Nat} {q : String × String × List Int} (hdg : decode M.2.1 pc = .ok (.getstatic idx, 3)) (hq : am_tb[i]? = some q) (hw : Cond.fieldLink M.1.cls idx q.1 q.2.1 "[I" ∈ am_WS) (x : Int) (hx : x = 1000 + i) (k : AW M d mc ms K n (pc + 3) ls ((2, x) :: st) h) : AW M d mc ms K n pc ls st h := by
  intro z p l e R s m args below meth c H locs cells slots MC MS la X
  obtain ⟨C, G, hS, hW, hI, hls, hst, hL, b1, b2, b3, b4⟩ := X
  obtain ⟨a, e1, e2, e3⟩ := G.2.2.1 i q hq
  have hgo : W p l e R s m args below meth c H locs cells slots (vx_MQ below (am_Q z K) (am_X z K) args s MC MS (am_A z)) (F0 m (pc + 3) la (av z (2, x) :: st.map (av z))) := k z p l e R s m args below meth c H locs cells slots MC MS la ⟨C, G, hS, hW, hI, hls, am_oksc (am_ok2 x) hst, hL, b1, b2, b3, b4⟩
  rw [av_out z (by omega), show x.toNat = 1000 + i by omega, e1] at hgo
  exact va_gets C.1 C.2.1 e2 hS C.2.2.2.1 (C.2.2.2.2.1 _ hw) (fun _ h => h) hdg hgo
theorem aw_tald {M : AMM} {d mc ms : Nat} {K : AO → Nat → AH → Prop} {n pc : Nat} {ls st : List AV} {h : AH} {i : Nat} {q : String × String × List Int} {x j v : Int} (hdg : decode M.2.1 pc = .ok (.iaload, 1)) (hq : am_tb[i]? = some q) (hx : x = 1000 + i) (hj : 0 ≤ j ∧ j < q.2.2.length) (hv : q.2.2.getD j.toNat 0 = v) (hvr : -2147483648 ≤ v ∧ v < 2147483648) (k : AW M d mc ms K n (pc + 1) ls ((0, v) :: st) h) : AW M d mc ms K n pc ls ((0, j) :: (2, x) :: st) h := by
  intro z p l e R s m args below meth c H locs cells slots MC MS la X
  obtain ⟨C, G, hS, hW, hI, hls, hst, hL, b1, b2, b3, b4⟩ := X
  obtain ⟨a, e1, e2, e3⟩ := G.2.2.1 i q hq
  have ri := (am_oksh hst).1 rfl
  dsimp only at ri
  have hgo : W p l e R s m args below meth c H locs cells slots (vx_MQ below (am_Q z K) (am_X z K) args s MC MS (am_A z)) (F0 m (pc + 1) la (av z (0, v) :: st.map (av z))) := k z p l e R s m args below meth c H locs cells slots MC MS la ⟨C, G, hS, hW, hI, hls, am_oksc (am_ok0 hvr.1 hvr.2) (am_okst (am_okst hst)), hL, b1, b2, b3, b4⟩
  show W p l e R s m args below meth c H locs cells slots (vx_MQ below (am_Q z K) (am_X z K) args s MC MS (am_A z)) (F0 m pc la (.int (Int32.ofInt j) :: av z (2, x) :: st.map (av z)))
  rw [av_out z (by omega), show x.toNat = 1000 + i by omega, e1]
  exact va_ti C.1 C.2.1 e3 hS (am_inb hj.1 hj.2 ri.2) (v := av z (0, v)) (by rw [am_nat hj.1 ri.2, hv]; rfl) hdg hgo
theorem aw_iret {M : AMM} {d mc ms : Nat} {K : AO → Nat → AH → Prop} {n pc : Nat} {ls : List AV} {h : AH} {x : Int} (hdg : decode M.2.1 pc = .ok (.ireturn, 1)) (hr : M.2.2.2.1 = some .int) (k : K (.inl (some (0, x))) n h) : AW M d mc ms K n pc ls [(0, x)] h := by
  intro z p l e R s m args below meth c H locs cells slots MC MS la X
  obtain ⟨C, G, hS, hW, hI, hls, hst, hL, b1, b2, b3, b4⟩ := X
  have hlk := C.2.2.2.2.2.2.1
  refine vx_ret (W.widen (k := MC) (n := MS) (by omega) (by omega) ?_)
  exact W.iret C.1 C.2.1 (C.2.2.2.2.2.1.trans hr) (fun t ht _ => ⟨some (0, x), n, h, k, rfl, fun v hv => by cases hv; exact am_oksh hst, hI, ht ▸ hW, am_F hS ht⟩) hS.2.2 hdg hlk
theorem aw_zret {M : AMM} {d mc ms : Nat} {K : AO → Nat → AH → Prop} {n pc : Nat} {ls : List AV} {h : AH} {x : Int} (hdg : decode M.2.1 pc = .ok (.ireturn, 1)) (hr : M.2.2.2.1 = some .boolean) (hx : x = 0 ∨ x = 1) (k : K (.inl (some (0, x))) n h) : AW M d mc ms K n pc ls [(0, x)] h := by
  intro z p l e R s m args below meth c H locs cells slots MC MS la X
  obtain ⟨C, G, hS, hW, hI, hls, hst, hL, b1, b2, b3, b4⟩ := X
  have hlk := C.2.2.2.2.2.2.1
  refine vx_ret (W.widen (k := MC) (n := MS) (by omega) (by omega) ?_)
  exact W.zret C.1 C.2.1 (C.2.2.2.2.2.1.trans hr) (by rcases hx with rfl | rfl <;> decide) (fun t ht _ => ⟨some (0, x), n, h, k, rfl, fun v hv => by cases hv; exact am_oksh hst, hI, ht ▸ hW, am_F hS ht⟩) hS.2.2 hdg hlk
theorem aw_fret {M : AMM} {d mc ms : Nat} {K : AO → Nat → AH → Prop} {n pc : Nat} {ls : List AV} {h : AH} {x : Int} (hdg : decode M.2.1 pc = .ok (.freturn, 1)) (hr : M.2.2.2.1 = some .float) (k : K (.inl (some (3, x))) n h) : AW M d mc ms K n pc ls [(3, x)] h := by
  intro z p l e R s m args below meth c H locs cells slots MC MS la X
  obtain ⟨C, G, hS, hW, hI, hls, hst, hL, b1, b2, b3, b4⟩ := X
  have hlk := C.2.2.2.2.2.2.1
  refine vx_ret (W.widen (k := MC) (n := MS) (by omega) (by omega) ?_)
  exact W.fret C.1 C.2.1 (C.2.2.2.2.2.1.trans hr) (fun t ht _ => ⟨some (3, x), n, h, k, rfl, fun v hv => by cases hv; exact am_oksh hst, hI, ht ▸ hW, am_F hS ht⟩) hS.2.2 hdg hlk
theorem aw_vret {M : AMM} {d mc ms : Nat} {K : AO → Nat → AH → Prop} {n pc : Nat} {ls : List AV} {h : AH} (hdg : decode M.2.1 pc = .ok (.return_, 1)) (hr : M.2.2.2.1 = none) (k : K (.inl none) n h) : AW M d mc ms K n pc ls [] h := by
  intro z p l e R s m args below meth c H locs cells slots MC MS la X
  obtain ⟨C, G, hS, hW, hI, hls, hst, hL, b1, b2, b3, b4⟩ := X
  have hlk := C.2.2.2.2.2.2.1
  refine vx_ret (W.widen (k := MC) (n := MS) (by omega) (by omega) ?_)
  exact W.vret C.1 C.2.1 (C.2.2.2.2.2.1.trans hr) (fun t ht _ => ⟨none, n, h, k, rfl, fun v hv => (by cases hv), hI, ht ▸ hW, am_F hS ht⟩) hS.2.2 hdg hlk
theorem aw_aret {M : AMM} {d mc ms : Nat} {K : AO → Nat → AH → Prop} {n pc : Nat} {ls : List AV} {h : AH} {x : Int} {cn : String} (hx : x < 1000) (hdg : decode M.2.1 pc = .ok (.areturn, 1)) (hr : M.2.2.2.1 = some (.object cn)) (k : K (.inl (some (2, x))) n h) : AW M d mc ms K n pc ls [(2, x)] h := by
  intro z p l e R s m args below meth c H locs cells slots MC MS la X
  obtain ⟨C, G, hS, hW, hI, hls, hst, hL, b1, b2, b3, b4⟩ := X
  have hlk := C.2.2.2.2.2.2.1
  refine vx_ret (W.widen (k := MC) (n := MS) (by omega) (by omega) ?_)
  exact W.aret C.1 C.2.1 (C.2.2.2.2.2.1.trans hr) (Or.inl ⟨_, rfl⟩) (by
    by_cases h0 : x < 0
    · exact Or.inl (av_null z h0)
    · exact Or.inr ⟨_, av_ref z (by omega) hx⟩) (fun t ht _ => ⟨some (2, x), n, h, k, rfl, fun v hv => by cases hv; exact am_oksh hst, hI, ht ▸ hW, am_F hS ht⟩) hS.2.2 hdg hlk
