/-! the model: courses; seals, winds and runs -/
theorem CoF_trans {h g g' : AH} {i : Int} (a : CoF h g i) (b : CoF g g' i) : CoF h g' i := fun k x p q r => by rw [b k x p q r, a k x p q r]
theorem ac_course {i n : Int} {h : AH} {K : AO → Nat → AH → Prop} (ho : tOk h) (k1 : ¬ (0 ≤ i ∧ i < h 141 3 ∧ h 141 (46 + 25 * i + 10) = -1) → K (.inl (some (0, 0))) 159 (up h 140 7 1)) (k2 : 0 ≤ i ∧ i < h 141 3 ∧ h 141 (46 + 25 * i + 10) = -1 → ¬ (0 ≤ n ∧ n ≤ 6) → K (.inl (some (0, 0))) 159 (up h 140 7 2)) (k0 : 0 ≤ i ∧ i < h 141 3 ∧ h 141 (46 + 25 * i + 10) = -1 → 0 ≤ n ∧ n ≤ 6 → ∀ g' h', Cours (h 141) i n g' → Tri (up h 140 7 0) h' → K (.inl (some (0, 100 * g' 141 (46 + 25 * i + 1) + g' 141 (46 + 25 * i + 2)))) 159 h') : AC mX9_course 6 0 0 159 [(2, 140), (0, i), (0, n)] h K := by
  have hn := ho.2.2.1
  refine ac_of (ls := [(2, 140), (0, i), (0, n), (9, 0)]) pn_X9 rfl (Nat.le_of_ble_eq_true rfl) rfl ?_
  refine a_al0 (by decide) dX9_course_0 ?_
  refine a_al0 (by decide) dX9_course_1 ?_
  refine a_il1 dX9_course_2 ?_
  refine aw_callV 2 0 0 dX9_course_3 yw_X9_isShip ml_X9_296 in_X9_isShip se_X9_isShip (ci := 8) rfl at_140 (as := [_]) rfl rfl ⟨by decide, by decide, by decide, Nat.le_of_ble_eq_true rfl⟩ ?_
  refine ac_isShip hn.1 (fun q => ?_) (fun q => ?_)
  · refine am_ci ?_
    refine aw_if_eq_n 17 dX9_course_6 (by decide) (by decide) ?_
    refine a_al0 (by decide) dX9_course_9 ?_
    refine a_il1 dX9_course_10 ?_
    refine aw_callV 2 0 0 dX9_course_11 yw_X9_sails ml_X9_216 in_X9_sails se_X9_sails (ci := 8) rfl at_140 (as := [_]) rfl rfl ⟨by decide, by decide, by decide, Nat.le_of_ble_eq_true rfl⟩ ?_
    refine ac_sails (by omega) (fun q1 => ?_) (fun q1 => ?_)
    · refine am_ci ?_
      refine aw_if_ne_y 21 dX9_course_14 (by decide) (by decide) ?_
      refine a_il2 dX9_course_21 ?_
      refine aw_iconst dX9_course_22 (by decide) ?_
      refine aw_bipush dX9_course_23 (by decide) ?_
      refine aw_callS 1 0 0 dX9_course_25 yw_X9_isIn ml_X9_76 sm_X9_isIn (as := [_, _, _]) rfl rfl ⟨by decide, by decide, by decide, Nat.le_of_ble_eq_true rfl⟩ ?_
      refine ac_isIn (fun q2 => ?_) (fun q2 => ?_)
      · refine am_ci ?_
        refine aw_if_eq_n 35 dX9_course_28 (by decide) (by decide) ?_
        refine aw_iconst dX9_course_31 (by decide) ?_
        refine aw_goto 36 dX9_course_32 (by decide) ?_
        refine aw_put 7 dX9_course_36 fp_X9_66 at_140 rfl ?_
        refine a_al0 (by decide) dX9_course_39 ?_
        refine aw_get 7 dX9_course_40 fl_X9_66 at_140 rfl ?_
        try simp (disch := omega) only [up_at, up_ne]
        refine aw_if_le_y 48 dX9_course_43 (by decide) (by decide) ?_
        refine a_al0 (by decide) dX9_course_48 ?_
        refine aw_getR (r := 143) 2 rfl dX9_course_49 fl_X9_16 at_140 rfl rfl ?_
        try simp (disch := omega) only [up_at, up_ne]
        refine aw_iconst dX9_course_52 (by decide) ?_
        refine a_al0 (by decide) dX9_course_53 ?_
        refine aw_getR (r := 141) 0 rfl dX9_course_54 fl_X9_7 at_140 rfl rfl ?_
        try simp (disch := omega) only [up_at, up_ne]
        refine aw_iconst dX9_course_57 (by decide) ?_
        refine aw_callS 1 0 0 dX9_course_58 yw_X9_copies ml_X9_72 sm_X9_copies (as := [_, _, _, _]) rfl rfl ⟨by decide, by decide, by decide, Nat.le_of_ble_eq_true rfl⟩ ?_
        obtain ⟨h0, hh0⟩ : ∃ h0, h0 = up h 140 7 0 := ⟨_, rfl⟩
        have ho0 : tOk h0 := by rw [hh0]; exact tOk_th ho
        have r0 : ∀ x, h0 141 x = h 141 x := fun x => by rw [hh0, up_ne (by omega)]
        have k9 := k0 ⟨q.1, q.2, q1⟩ q2
        rw [← hh0] at k9 ⊢
        refine ac_copies ar_143 ar_141 (by decide) (by omega) (by omega) (by omega) ?_
        refine am_cv ?_
        refine a_al0 (by decide) dX9_course_61 ?_
        refine aw_callV 2 0 0 dX9_course_62 yw_X9_shifts ml_X9_284 in_X9_shifts se_X9_shifts (ci := 8) rfl at_140 (as := []) rfl rfl ⟨by decide, by decide, by decide, Nat.le_of_ble_eq_true rfl⟩ ?_
        obtain ⟨s, hs⟩ : ∃ s, s = cpy h0 143 0 141 0 1256 := ⟨_, rfl⟩
        have rs : ∀ x, s 141 x = h 141 x := fun x => by rw [hs, cpy_ne (by decide), r0]
        have hos : tOk s := by rw [hs]; exact tOk_eq (cpy_ne (by decide)) ho0
        rw [← hs]
        have hos2 := hos
        obtain ⟨o1, o2, o3, o4, o5, o6, o7, o8, o9, o10⟩ := hos2
        refine ac_shifts o7 (fun x hx => ?_)
        obtain ⟨g1, hg1⟩ : ∃ g1, g1 = (if x = -1 then s else up (up s 141 5 (s 141 (10 + 3 * x + 1))) 141 6 (s 141 (10 + 3 * x + 2))) := ⟨_, rfl⟩
        rw [← hg1]
        have hS : Shifted s g1 := ⟨x, hx, hg1⟩
        obtain ⟨f1, b5, b6⟩ := Shifted_ok hS o8 o1.2.2.1 o1.2.2.2
        have bd1 : bdOk g1 := by
          unfold bdOk at o1 ⊢
          rw [f1 141 0 (by omega), f1 141 1 (by omega)]
          exact ⟨o1.1, o1.2.1, b5, b6⟩
        have n1 : g1 141 3 = h 141 3 := by rw [f1 141 3 (by omega), rs]
        have hi3 : 0 ≤ i ∧ i < s 141 3 := by rw [rs]; exact q
        have sh1 : shOk g1 i := by
          have := (o2 i hi3.1 hi3.2).1
          unfold shOk at this ⊢
          rw [f1 141 (46 + 25 * i + 1) (by omega), f1 141 (46 + 25 * i + 2) (by omega), f1 141 (46 + 25 * i + 3) (by omega), f1 141 (46 + 25 * i + 6) (by omega), f1 141 (46 + 25 * i + 7) (by omega), f1 141 (46 + 25 * i + 8) (by omega), f1 141 (46 + 25 * i + 9) (by omega)]
          exact this
        have hl : ∀ p, 0 ≤ p → p ≤ 5 → 1 ≤ g1 141 (46 + 25 * i + (11 + p)) ∧ g1 141 (46 + 25 * i + (11 + p)) ≤ 4 := fun p p0 p5 => by
          rw [f1 _ _ (by omega)]
          exact (o2 i hi3.1 hi3.2).2 p p0 p5
        refine am_cv ?_
        refine aw_iconst dX9_course_65 (by decide) ?_
        refine a_is3 rfl rfl dX9_course_66 ?_
        refine aw_loop (fun q : Int × AH => 0 ≤ q.1 ∧ q.1 ≤ n ∧ CoF g1 q.2 i ∧ shOk q.2 i ∧ bdOk q.2 ∧ ∀ g', CoN i (n - q.1).toNat q.1 q.2 g' → CoN i n.toNat 0 g1 g') (fun q => (n - q.1).toNat) (fun q => AW mX9_course 6 0 0 K 159 67 [(2, 140), (0, i), (0, n), (0, q.1)] [] q.2) (fun q hq ih => ?_) (0, g1) ⟨by dsimp only; omega, by dsimp only; omega, fun _ _ _ _ _ => rfl, sh1, bd1, fun g' y => by
          dsimp only at y
          rwa [show n - 0 = n by omega] at y⟩
        obtain ⟨p, g⟩ := q
        obtain ⟨p0, p1, fr, sg, bg, hc⟩ := hq
        dsimp only at p0 p1 fr sg bg hc ih ⊢
        have cg1 := sg.1
        have cg2 := sg.2.1
        have n2 : g 141 3 = h 141 3 := by rw [fr 141 3 (by omega) (by omega) (by omega), n1]
        refine a_il3 dX9_course_67 ?_
        refine a_il2 dX9_course_68 ?_
        refine aw_icmp_ge 143 dX9_course_69 (by decide) (fun c69 => ?_) (fun c69 => ?_)
        · refine aw_bipush dX9_course_143 (by decide) ?_
          refine a_al0 (by decide) dX9_course_145 ?_
          refine a_il1 dX9_course_146 ?_
          refine aw_iconst dX9_course_147 (by decide) ?_
          refine aw_callV 1 0 0 dX9_course_148 yw_X9_of ml_X9_213 in_X9_of se_X9_of (ci := 8) rfl at_140 (as := [_, _]) rfl rfl ⟨by decide, by decide, by decide, Nat.le_of_ble_eq_true rfl⟩ ?_
          have hC : CoN i n.toNat 0 g1 g := hc g (by
            rw [show (n - p).toNat = 0 by omega]
            exact rfl)
          refine ac_of_ (by omega) (by decide) ?_
          refine am_ci ?_
          try simp (disch := omega) only [up_at, up_ne]
          refine aw_imulR (by omega) dX9_course_151 ?_
          refine a_al0 (by decide) dX9_course_152 ?_
          refine a_il1 dX9_course_153 ?_
          refine aw_iconst dX9_course_154 (by decide) ?_
          refine aw_callV 1 0 0 dX9_course_155 yw_X9_of ml_X9_213 in_X9_of se_X9_of (ci := 8) rfl at_140 (as := [_, _]) rfl rfl ⟨by decide, by decide, by decide, Nat.le_of_ble_eq_true rfl⟩ ?_
          refine ac_of_ (by omega) (by decide) ?_
          refine am_ci ?_
          try simp (disch := omega) only [up_at, up_ne]
          refine aw_iaddR (by omega) dX9_course_158 ?_
          refine a_is3 rfl rfl dX9_course_159 ?_
          refine a_al0 (by decide) dX9_course_160 ?_
          refine aw_callV 2 0 0 dX9_course_161 yw_X9_putsBack ml_X9_331 in_X9_putsBack se_X9_putsBack (ci := 8) rfl at_140 (as := []) rfl rfl ⟨by decide, by decide, by decide, Nat.le_of_ble_eq_true rfl⟩ ?_
          refine ac_putsBack ?_
          refine am_cv ?_
          refine a_il3 dX9_course_164 ?_
          refine aw_iret dX9_course_165 rfl ?_
          refine k9 g _ ⟨s, g1, fun x _ _ => rs x, hS, hC⟩ ⟨fun k x a b c d => ?_, fun x a => ?_⟩
          · unfold cpy
            by_cases e : k = 141
            · subst e
              rw [if_pos (by omega), fr _ _ (by omega) (by omega) (by omega), f1 _ _ (by omega), hs]
              unfold cpy
              rw [if_pos (by omega)]
              congr 1
              omega
            · rw [if_neg (by omega), fr _ _ (by omega) (by omega) (by omega), f1 _ _ (by omega), hs]
              unfold cpy
              rw [if_neg (by omega)]
          · unfold cpy
            rw [if_neg (by omega), fr _ _ (by omega) (by omega) (by omega), f1 _ _ (by omega), hs]
            unfold cpy
            rw [if_neg (by omega)]
        · refine a_al0 (by decide) dX9_course_72 ?_
          refine a_il1 dX9_course_73 ?_
          refine a_al0 (by decide) dX9_course_74 ?_
          refine a_il1 dX9_course_75 ?_
          refine aw_bipush dX9_course_76 (by decide) ?_
          refine a_il3 dX9_course_78 ?_
          refine aw_iaddR (by omega) dX9_course_79 ?_
          refine aw_callV 1 0 0 dX9_course_80 yw_X9_of ml_X9_213 in_X9_of se_X9_of (ci := 8) rfl at_140 (as := [_, _]) rfl rfl ⟨by decide, by decide, by decide, Nat.le_of_ble_eq_true rfl⟩ ?_
          refine ac_of_ (by omega) (by omega) ?_
          have hl2 : 1 ≤ g 141 (46 + 25 * i + (11 + p)) ∧ g 141 (46 + 25 * i + (11 + p)) ≤ 4 := by
            rw [fr _ _ (by omega) (by omega) (by omega)]
            exact hl p p0 (by omega)
          refine am_ci ?_
          try simp (disch := omega) only [up_at, up_ne]
          refine aw_callV 4 0 0 dX9_course_83 yw_X9_goes ml_X9_260 in_X9_goes se_X9_goes (ci := 8) rfl at_140 (as := [_, _]) rfl rfl ⟨by decide, by decide, by decide, Nat.le_of_ble_eq_true rfl⟩ ?_
          refine ac_goes (by omega) hl2 sg bg (fun h2 x2 hg2 => ?_)
          obtain ⟨fr2, sg2, bg2, hx2⟩ := Gone_ok (by omega) sg bg hg2
          have go : ∀ g3, CoS g i (g 141 (46 + 25 * i + (11 + p))) g3 → ∀ g', CoN i (n - (p + 1)).toNat (p + 1) g3 g' → CoN i n.toNat 0 g1 g' := fun g3 y g' z => hc g' (by
            rw [show (n - p).toNat = (n - (p + 1)).toNat + 1 by omega]
            exact ⟨g3, y, z⟩)
          have hp5 : -2147483648 ≤ p + 1 ∧ p + 1 < 2147483648 := by omega
          rcases hx2 with e | ⟨e, hx2⟩
          · subst e
            refine am_ci ?_
            try simp (disch := omega) only [up_at, up_ne]
            refine aw_if_ne 92 dX9_course_86 (by decide) (fun c86 => ?_) (fun c86 => ?_)
            · exfalso; omega
            · refine aw_goto 137 dX9_course_89 (by decide) ?_
              refine a_iiR3 (by omega) rfl rfl dX9_course_137 ?_
              refine aw_goto 67 dX9_course_140 (by decide) ?_
              exact ih (p + 1, h2) ⟨by dsimp only; omega, by dsimp only; omega, CoF_trans fr fr2, sg2, bg2, go h2 ⟨h2, 0, hg2, (if_pos rfl).symm⟩⟩ (by dsimp only; omega)
          · subst e
            refine am_ci ?_
            try simp (disch := omega) only [up_at, up_ne]
            refine aw_if_ne 92 dX9_course_86 (by decide) (fun c86 => ?_) (fun c86 => ?_)
            · refine a_al0 (by decide) dX9_course_92 ?_
              refine a_il1 dX9_course_93 ?_
              refine aw_iconst dX9_course_94 (by decide) ?_
              refine a_al0 (by decide) dX9_course_95 ?_
              refine aw_getR (r := 150) 19 rfl dX9_course_96 fl_X9_42 at_140 rfl rfl ?_
              try simp (disch := omega) only [up_at, up_ne]
              refine a_il1 dX9_course_99 ?_
              refine aw_iald dX9_course_100 ar_150 (by omega) ?_
              try simp (disch := omega) only [up_at, up_ne]
              refine aw_callV 1 0 0 dX9_course_101 yw_X9_sets ml_X9_228 in_X9_sets se_X9_sets (ci := 8) rfl at_140 (as := [_, _, _]) rfl rfl ⟨by decide, by decide, by decide, Nat.le_of_ble_eq_true rfl⟩ ?_
              rw [← fr2 141 0 (by omega) (by omega) (by omega), ← fr2 141 1 (by omega) (by omega) (by omega)] at hx2
              obtain ⟨w1, w2, w3⟩ := Went_ok (by omega) sg2 bg2 hx2
              refine ac_sets (by omega) (by decide) ?_
              refine am_cv ?_
              refine a_al0 (by decide) dX9_course_104 ?_
              refine a_il1 dX9_course_105 ?_
              refine aw_iconst dX9_course_106 (by decide) ?_
              refine a_al0 (by decide) dX9_course_107 ?_
              refine aw_getR (r := 151) 20 rfl dX9_course_108 fl_X9_45 at_140 rfl rfl ?_
              try simp (disch := omega) only [up_at, up_ne]
              refine a_il1 dX9_course_111 ?_
              refine aw_iald dX9_course_112 ar_151 (by omega) ?_
              try simp (disch := omega) only [up_at, up_ne]
              refine aw_callV 1 0 0 dX9_course_113 yw_X9_sets ml_X9_228 in_X9_sets se_X9_sets (ci := 8) rfl at_140 (as := [_, _, _]) rfl rfl ⟨by decide, by decide, by decide, Nat.le_of_ble_eq_true rfl⟩ ?_
              refine ac_sets (by omega) (by decide) ?_
              refine am_cv ?_
              refine a_al0 (by decide) dX9_course_116 ?_
              refine a_il1 dX9_course_117 ?_
              refine aw_bipush dX9_course_118 (by decide) ?_
              refine aw_iconst dX9_course_120 (by decide) ?_
              refine a_al0 (by decide) dX9_course_121 ?_
              refine a_il1 dX9_course_122 ?_
              refine aw_bipush dX9_course_123 (by decide) ?_
              refine aw_callV 1 0 0 dX9_course_125 yw_X9_of ml_X9_213 in_X9_of se_X9_of (ci := 8) rfl at_140 (as := [_, _]) rfl rfl ⟨by decide, by decide, by decide, Nat.le_of_ble_eq_true rfl⟩ ?_
              refine ac_of_ (by omega) (by decide) ?_
              have s8 := sg2.2.2.2.2.2.1
              refine am_ci ?_
              try simp (disch := omega) only [up_at, up_ne]
              refine aw_bipush dX9_course_128 (by decide) ?_
              refine aw_isubR (by omega) dX9_course_130 ?_
              refine aw_mmax dX9_course_131 ⟨ml_X9_269, mw_max⟩ ⟨by decide, Nat.le_of_ble_eq_true rfl⟩ ?_
              refine aw_callV 1 0 0 dX9_course_134 yw_X9_sets ml_X9_228 in_X9_sets se_X9_sets (ci := 8) rfl at_140 (as := [_, _, _]) rfl rfl ⟨by decide, by decide, by decide, Nat.le_of_ble_eq_true rfl⟩ ?_
              rw [show (if 0 < h2 141 (46 + 25 * i + 8) - 90 then h2 141 (46 + 25 * i + 8) - 90 else 0) = mx 0 (h2 141 (46 + 25 * i + 8) - 90) from rfl]
              refine ac_sets (by omega) (by decide) ?_
              refine am_cv ?_
              refine a_iiR3 hp5 rfl rfl dX9_course_137 ?_
              refine aw_goto 67 dX9_course_140 (by decide) ?_
              exact ih (p + 1, up (up (up h2 141 (46 + 25 * i + 1) (h2 150 i)) 141 (46 + 25 * i + 2) (h2 151 i)) 141 (46 + 25 * i + 8) (mx 0 (h2 141 (46 + 25 * i + 8) - 90))) ⟨by dsimp only; omega, by dsimp only; omega, CoF_trans fr (CoF_trans fr2 w3), w1, w2, go _ ⟨h2, 1, hg2, (if_neg (by decide)).symm⟩⟩ (by dsimp only; omega)
            · exfalso; omega
      · refine am_ci ?_
        refine aw_if_eq_y 35 dX9_course_28 (by decide) (by decide) ?_
        refine aw_iconst dX9_course_35 (by decide) ?_
        refine aw_put 7 dX9_course_36 fp_X9_66 at_140 rfl ?_
        refine a_al0 (by decide) dX9_course_39 ?_
        refine aw_get 7 dX9_course_40 fl_X9_66 at_140 rfl ?_
        try simp (disch := omega) only [up_at, up_ne]
        refine aw_if_le_n 48 dX9_course_43 (by decide) (by decide) ?_
        refine aw_iconst dX9_course_46 (by decide) ?_
        refine aw_iret dX9_course_47 rfl ?_
        exact k2 ⟨q.1, q.2, q1⟩ q2
    · refine am_ci ?_
      refine aw_if_ne_n 21 dX9_course_14 (by decide) (by decide) ?_
      refine aw_iconst dX9_course_17 (by decide) ?_
      refine aw_goto 36 dX9_course_18 (by decide) ?_
      refine aw_put 7 dX9_course_36 fp_X9_66 at_140 rfl ?_
      refine a_al0 (by decide) dX9_course_39 ?_
      refine aw_get 7 dX9_course_40 fl_X9_66 at_140 rfl ?_
      try simp (disch := omega) only [up_at, up_ne]
      refine aw_if_le_n 48 dX9_course_43 (by decide) (by decide) ?_
      refine aw_iconst dX9_course_46 (by decide) ?_
      refine aw_iret dX9_course_47 rfl ?_
      exact k1 (fun x => q1 x.2.2)
  · refine am_ci ?_
    refine aw_if_eq_y 17 dX9_course_6 (by decide) (by decide) ?_
    refine aw_iconst dX9_course_17 (by decide) ?_
    refine aw_goto 36 dX9_course_18 (by decide) ?_
    refine aw_put 7 dX9_course_36 fp_X9_66 at_140 rfl ?_
    refine a_al0 (by decide) dX9_course_39 ?_
    refine aw_get 7 dX9_course_40 fl_X9_66 at_140 rfl ?_
    try simp (disch := omega) only [up_at, up_ne]
    refine aw_if_le_n 48 dX9_course_43 (by decide) (by decide) ?_
    refine aw_iconst dX9_course_46 (by decide) ?_
    refine aw_iret dX9_course_47 rfl ?_
    exact k1 (fun x => q ⟨x.1, x.2.1⟩)
