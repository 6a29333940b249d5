/-! ===== the reference's items, walked: one, cough, item ===== -/
theorem vX6_wantOne (w : WW) : VX6_wantOne w := by
  intro k u h
  obtain ⟨h6, hT, hE⟩ := h
  have hB := btOut u
  have hL : tL u ≤ 120 := by obtain ⟨L, hL, e⟩ := hT; rw [tL, e, NN_nI (by omega)]; exact hL
  have z6 : ∀ t, (tw u t).1 1000 = 0 := fun t => (tw_1 u t (by decide)).trans h6.1
  have r6 : ∀ t, RW (tw u t) = R6 u := fun t => by rw [RW6 (z6 t), tw_R6]
  have b6 : ∀ t, B6 (tw u t) = 1100 := fun t => B6_0 (z6 t)
  have e1 : ∀ t, (tw u t).1 (1100 + 1) = R6 u 1 := fun t => tw_1 u t (by decide)
  have e2 : ∀ t, (tw u t).1 (1100 + 2) = R6 u 2 := fun t => tw_1 u t (by decide)
  obtain ⟨K, hK, eK, eN⟩ := i6K h6
  have key : GX6_wantOne w (fun r u' => r = none ∧ u' = mTR u (wOne (bt u) (tL u) k (R6 u) (ts u))) 0 [some (.ref (mA w)), some (.int k), none, none, none] [] (tw u (ts u)) := by
    generalize ts u = t at *
    have post : GX6_wantOne w (fun r u' => r = none ∧ u' = mTR u (wOne (bt u) (tL u) k (R6 u) t)) 31 [some (.ref (mA w)), some (.int k), none, none, none] [] (tw u (wO1 (bt u) (tL u) (R6 u) t)) := by
      have en1 : enOk (tL u) (wO1 (bt u) (tL u) (R6 u) t) := by
        rw [wO1]; split
        · exact adv_en hB hL (en_gd 1 hE)
        · exact hE
      have eW : wOne (bt u) (tL u) k (R6 u) t = (if (mW (bt u) (tL u) 12253591 0 (R6 u 1 - 1) (-1) (mW (bt u) (tL u) 404749 0 99 0 (wN (bt u) (tL u) 0 99 (wO1 (bt u) (tL u) (R6 u) t))).2).2.gd = 0 then R6 u else oneAdd (R6 u) k (wO1 (bt u) (tL u) (R6 u) t).va (mW (bt u) (tL u) 404749 0 99 0 (wN (bt u) (tL u) 0 99 (wO1 (bt u) (tL u) (R6 u) t))).1 (mW (bt u) (tL u) 12253591 0 (R6 u 1 - 1) (-1) (mW (bt u) (tL u) 404749 0 99 0 (wN (bt u) (tL u) 0 99 (wO1 (bt u) (tL u) (R6 u) t))).2).1, (mW (bt u) (tL u) 12253591 0 (R6 u 1 - 1) (-1) (mW (bt u) (tL u) 404749 0 99 0 (wN (bt u) (tL u) 0 99 (wO1 (bt u) (tL u) (R6 u) t))).2).2) := rfl
      have en2 := wN_en (l := 0) (m := 99) hB hL en1
      have en3 := mW_en (x := 404749) (l := 0) (m := 99) (o := 0) hB hL en2
      simp only [eX6_wantOne_0, eX6_wantOne_1, eX6_wantOne_2, eX6_wantOne_5, eX6_wantOne_6, eX6_wantOne_7, eX6_wantOne_9, eX6_wantOne_12, eX6_wantOne_13, eX6_wantOne_16, eX6_wantOne_17, eX6_wantOne_20, eX6_wantOne_21, eX6_wantOne_24, eX6_wantOne_27, eX6_wantOne_28, eX6_wantOne_31, eX6_wantOne_32, eX6_wantOne_33, eX6_wantOne_35, eX6_wantOne_38, eX6_wantOne_39, eX6_wantOne_40, eX6_wantOne_43, eX6_wantOne_44, eX6_wantOne_46, eX6_wantOne_47, eX6_wantOne_50, eX6_wantOne_51, eX6_wantOne_52, eX6_wantOne_55, eX6_wantOne_56, eX6_wantOne_57, eX6_wantOne_60, eX6_wantOne_61, eX6_wantOne_62, eX6_wantOne_63, eX6_wantOne_64, eX6_wantOne_65, eX6_wantOne_68, eX6_wantOne_70, eX6_wantOne_71, eX6_wantOne_74, eX6_wantOne_77, eX6_wantOne_78, eX6_wantOne_79, eX6_wantOne_80, eX6_wantOne_81, eX6_wantOne_83, eX6_wantOne_86, kl_i, kl_r, kl_n, kl_l, true_and, and_true, true_implies, false_implies, not_true_eq_false, not_false_eq_true, i10, Classical.not_not, tw_so, tw_be, tw_en, tw_va, tw_gd, tw_wo, tw_u2, tw_u3, tw_u4, tw_u5, tw_u6, tw_uj, mk_so, mk_be, mk_en, mk_va, mk_gd, mk_wo, mk_sso, mk_sbe, mk_sen, mk_sva, mk_sgd, mk_swo, ok_m6, ix_m6, ok_m7, ix_m7, ok_m8, ix_m8, ok_m9, ix_m9, ok_m10, ix_m10, ok_m11, ix_m11, ts_tw, bt_tw, tL_tw, tw_tw, X6_tw, pX6_advance, mX6_advance, pX6_wantNumber, mX6_wantNumber, rX6_wantNumber, pX6_mayWant, mX6_mayWant, rX6_mayWant, pX6_isWord, rX6_isWord, pX6_kindHere, rX6_kindHere, bi_0, adv_gd, hT, en1, en2, en3, ok_m0, rf_m0, ai_mr0, rd_mr0, v182_1, N_1, e1]
      rw [eW]
      refine ⟨fun g => ?_, fun g => ⟨⟨z6 _, ?_⟩, ?_⟩⟩
      · rw [if_pos g]; exact (pv7 u _).symm
      · rw [r6]
        have g3 := (wN_gd (mW_gd (mW_gd g))).1
        have g4 : R6 u 2 < 10 := by
          rw [wO1] at g3; split at g3
          · assumption
          · exact absurd rfl g3
        rw [eK] at g4 ⊢
        exact vi_nI (by have := (nI_ltI (a := K) (b := 10) (by omega) (by decide)).mp g4; omega)
      · rw [if_neg g, mX6_addOne, b6, r6, tw_pv]; rfl
    by_cases c : R6 u 2 < 10
    · have c' : ¬ 10 ≤ R6 u 2 := Int32.not_le.mpr c
      have et : adv (bt u) (tL u) (TS.sgd t 1) = wO1 (bt u) (tL u) (R6 u) t := by rw [wO1, if_pos c]
      simp only [eX6_wantOne_0, eX6_wantOne_1, eX6_wantOne_2, eX6_wantOne_5, eX6_wantOne_6, eX6_wantOne_7, eX6_wantOne_9, eX6_wantOne_12, eX6_wantOne_13, eX6_wantOne_16, eX6_wantOne_17, eX6_wantOne_20, eX6_wantOne_21, eX6_wantOne_24, eX6_wantOne_27, eX6_wantOne_28, eX6_wantOne_32, eX6_wantOne_33, eX6_wantOne_35, eX6_wantOne_38, eX6_wantOne_39, eX6_wantOne_40, eX6_wantOne_43, eX6_wantOne_44, eX6_wantOne_46, eX6_wantOne_47, eX6_wantOne_50, eX6_wantOne_51, eX6_wantOne_52, eX6_wantOne_55, eX6_wantOne_56, eX6_wantOne_57, eX6_wantOne_60, eX6_wantOne_61, eX6_wantOne_62, eX6_wantOne_63, eX6_wantOne_64, eX6_wantOne_65, eX6_wantOne_68, eX6_wantOne_70, eX6_wantOne_71, eX6_wantOne_74, eX6_wantOne_77, eX6_wantOne_78, eX6_wantOne_79, eX6_wantOne_80, eX6_wantOne_81, eX6_wantOne_83, eX6_wantOne_86, kl_i, kl_r, kl_n, kl_l, true_and, and_true, true_implies, false_implies, not_true_eq_false, not_false_eq_true, i10, Classical.not_not, tw_so, tw_be, tw_en, tw_va, tw_gd, tw_wo, tw_u2, tw_u3, tw_u4, tw_u5, tw_u6, tw_uj, mk_so, mk_be, mk_en, mk_va, mk_gd, mk_wo, mk_sso, mk_sbe, mk_sen, mk_sva, mk_sgd, mk_swo, ok_m6, ix_m6, ok_m7, ix_m7, ok_m8, ix_m8, ok_m9, ix_m9, ok_m10, ix_m10, ok_m11, ix_m11, ts_tw, bt_tw, tL_tw, tw_tw, X6_tw, pX6_advance, mX6_advance, pX6_wantNumber, mX6_wantNumber, rX6_wantNumber, pX6_mayWant, mX6_mayWant, rX6_mayWant, pX6_isWord, rX6_isWord, pX6_kindHere, rX6_kindHere, bi_0, adv_gd, e2, ok_m0, rf_m0, ai_mr0, rd_mr0, v182_2, N_2, c', or_true, hT, en_gd 1 hE, et, sgd_gd]
      exact post
    · have c' : 10 ≤ R6 u 2 := Int32.not_lt.mp c
      have et : TS.sgd t 0 = wO1 (bt u) (tL u) (R6 u) t := by rw [wO1, if_neg c]
      have eg : (wO1 (bt u) (tL u) (R6 u) t).gd = 0 := by rw [← et]; rfl
      simp only [eX6_wantOne_0, eX6_wantOne_1, eX6_wantOne_2, eX6_wantOne_5, eX6_wantOne_6, eX6_wantOne_7, eX6_wantOne_9, eX6_wantOne_12, eX6_wantOne_13, eX6_wantOne_16, eX6_wantOne_17, eX6_wantOne_20, eX6_wantOne_21, eX6_wantOne_24, eX6_wantOne_27, eX6_wantOne_28, eX6_wantOne_32, eX6_wantOne_33, eX6_wantOne_35, eX6_wantOne_38, eX6_wantOne_39, eX6_wantOne_40, eX6_wantOne_43, eX6_wantOne_44, eX6_wantOne_46, eX6_wantOne_47, eX6_wantOne_50, eX6_wantOne_51, eX6_wantOne_52, eX6_wantOne_55, eX6_wantOne_56, eX6_wantOne_57, eX6_wantOne_60, eX6_wantOne_61, eX6_wantOne_62, eX6_wantOne_63, eX6_wantOne_64, eX6_wantOne_65, eX6_wantOne_68, eX6_wantOne_70, eX6_wantOne_71, eX6_wantOne_74, eX6_wantOne_77, eX6_wantOne_78, eX6_wantOne_79, eX6_wantOne_80, eX6_wantOne_81, eX6_wantOne_83, eX6_wantOne_86, kl_i, kl_r, kl_n, kl_l, true_and, and_true, true_implies, false_implies, not_true_eq_false, not_false_eq_true, i10, Classical.not_not, tw_so, tw_be, tw_en, tw_va, tw_gd, tw_wo, tw_u2, tw_u3, tw_u4, tw_u5, tw_u6, tw_uj, mk_so, mk_be, mk_en, mk_va, mk_gd, mk_wo, mk_sso, mk_sbe, mk_sen, mk_sva, mk_sgd, mk_swo, ok_m6, ix_m6, ok_m7, ix_m7, ok_m8, ix_m8, ok_m9, ix_m9, ok_m10, ix_m10, ok_m11, ix_m11, ts_tw, bt_tw, tL_tw, tw_tw, X6_tw, pX6_advance, mX6_advance, pX6_wantNumber, mX6_wantNumber, rX6_wantNumber, pX6_mayWant, mX6_mayWant, rX6_mayWant, pX6_isWord, rX6_isWord, pX6_kindHere, rX6_kindHere, bi_0, adv_gd, e2, ok_m0, rf_m0, ai_mr0, rd_mr0, v182_2, N_2, c', true_or, et, eg, sgd_gd]
      exact post
  rw [tw_ts] at key
  exact key
set_option maxRecDepth 20000 in
theorem KX6_wantOne_ok (w : WW) : KOk w MX6_wantOne (KX6_wantOne w) := KOk_mk flX6_ok ciX6_ok clX6_ok (fun _ _ h => by cases h) (fun _ _ h => by cases h) (List.forall_mem_cons.mpr ⟨itV (n := 111) (by decide) (COk_V (n := 4) (ci := 6) (ctX6_addOne w) wcX6_111 nmX6_addOne (by decide) (by decide) rfl (prX6_addOne w)), List.forall_mem_cons.mpr ⟨itV (n := 238) (by decide) (COk_V (n := 0) (ci := 6) (ctX6_advance w) wcX6_238 nmX6_advance (by decide) (by decide) rfl (prX6_advance w)), List.forall_mem_cons.mpr ⟨itV (n := 241) (by decide) (COk_V (n := 2) (ci := 6) (ctX6_wantNumber w) wcX6_241 nmX6_wantNumber (by decide) (by decide) rfl (prX6_wantNumber w)), List.forall_mem_cons.mpr ⟨itV (n := 246) (by decide) (COk_V (n := 4) (ci := 6) (ctX6_mayWant w) wcX6_246 nmX6_mayWant (by decide) (by decide) rfl (prX6_mayWant w)), List.forall_mem_nil _⟩⟩⟩⟩)
theorem ctX6_wantOne (w : WW) : CT w yX6_wantOne MX6_wantOne (csX6_wantOne w).2.1 (csX6_wantOne w).2.2 := by
  refine CT_of (by decide) rfl TX6_wantOne_ok TX6_wantOne_v (KX6_wantOne_ok w) (fun as u h => ?_)
  obtain ⟨a0, a1, rfl, h⟩ := sgRI h
  obtain ⟨rfl, hh⟩ := h
  refine ⟨Nat.le_of_ble_eq_true rfl, ?_⟩
  have key := vX6_wantOne w a1 u hh
  exact key
theorem prX6_wantOne (w : WW) : ∀ as u, (csX6_wantOne w).2.1 as u → ∃ a r, as = .ref a :: r ∧ r.length = 1 ∧ okO w a 6 := by
  intro as u h
  obtain ⟨a0, a1, rfl, h⟩ := sgRI h
  exact ⟨_, _, rfl, rfl, okO_m h⟩
theorem vX6_wantCough (w : WW) : VX6_wantCough w := by
  intro u h
  obtain ⟨h6, hT, hE⟩ := h
  have hB := btOut u
  have hL : tL u ≤ 120 := by obtain ⟨L, hL, e⟩ := hT; rw [tL, e, NN_nI (by omega)]; exact hL
  have z6 : ∀ t, (tw u t).1 1000 = 0 := fun t => (tw_1 u t (by decide)).trans h6.1
  have r6 : ∀ t, RW (tw u t) = R6 u := fun t => by rw [RW6 (z6 t), tw_R6]
  have b6 : ∀ t, B6 (tw u t) = 1100 := fun t => B6_0 (z6 t)
  have a6 : ∀ t, atOk (tw u t) := fun t => Or.inl (z6 t)
  have hcr : crtOk (R6 u) := h6.2.crt
  have key : GX6_wantCough w (fun r u' => r = none ∧ u' = mTR u (wCough (bt u) (tL u) (R6 u) (ts u))) 0 [some (.ref (mA w)), none] [] (tw u (ts u)) := by
    generalize ts u = t at *
    have post : ∀ (x : Int32), (x = 0 ∨ x = 1) → x = bi ((adv (bt u) (tL u) t).so = 2 ∧ isSt (R6 u) (adv (bt u) (tL u) t).va ∧ ¬ se (R6 u) (NN (adv (bt u) (tL u) t).va) 2 < 0) → GX6_wantCough w (fun r u' => r = none ∧ u' = mTR u (wCough (bt u) (tL u) (R6 u) t)) 56 [some (.ref (mA w)), none] [.int x, .ref (mA w)] (tw u (adv (bt u) (tL u) t)) := by
      intro x hx hc
      have et2 : TS.sgd (adv (bt u) (tL u) t) x = wC2 (R6 u) (adv (bt u) (tL u) t) := by rw [wC2, hc]
      have en1 : enOk (tL u) (wC2 (R6 u) (adv (bt u) (tL u) t)) := adv_en hB hL hE
      have eW : wCough (bt u) (tL u) (R6 u) t = (if (wN (bt u) (tL u) 0 6 (wC2 (R6 u) (adv (bt u) (tL u) t))).gd = 0 then R6 u else risesP (R6 u) (wC2 (R6 u) (adv (bt u) (tL u) t)).va, wN (bt u) (tL u) 0 6 (wC2 (R6 u) (adv (bt u) (tL u) t))) := rfl
      simp only [eX6_wantCough_0, eX6_wantCough_1, eX6_wantCough_4, eX6_wantCough_5, eX6_wantCough_6, eX6_wantCough_9, eX6_wantCough_10, eX6_wantCough_13, eX6_wantCough_14, eX6_wantCough_15, eX6_wantCough_18, eX6_wantCough_21, eX6_wantCough_24, eX6_wantCough_25, eX6_wantCough_26, eX6_wantCough_27, eX6_wantCough_30, eX6_wantCough_33, eX6_wantCough_36, eX6_wantCough_37, eX6_wantCough_40, eX6_wantCough_43, eX6_wantCough_44, eX6_wantCough_45, eX6_wantCough_48, eX6_wantCough_51, eX6_wantCough_52, eX6_wantCough_55, eX6_wantCough_56, eX6_wantCough_59, eX6_wantCough_60, eX6_wantCough_61, eX6_wantCough_63, eX6_wantCough_66, eX6_wantCough_67, eX6_wantCough_68, eX6_wantCough_71, eX6_wantCough_74, eX6_wantCough_75, eX6_wantCough_76, eX6_wantCough_79, kl_i, kl_r, kl_n, kl_l, true_and, and_true, true_implies, false_implies, not_true_eq_false, not_false_eq_true, i10, Classical.not_not, tw_so, tw_be, tw_en, tw_va, tw_gd, tw_wo, tw_u2, tw_u3, tw_u4, tw_u5, tw_u6, tw_uj, mk_so, mk_be, mk_en, mk_va, mk_gd, mk_wo, mk_sso, mk_sbe, mk_sen, mk_sva, mk_sgd, mk_swo, ok_m6, ix_m6, ok_m7, ix_m7, ok_m8, ix_m8, ok_m9, ix_m9, ok_m10, ix_m10, ok_m11, ix_m11, ts_tw, bt_tw, tL_tw, tw_tw, X6_tw, pX6_advance, mX6_advance, pX6_wantNumber, mX6_wantNumber, rX6_wantNumber, pX6_mayWant, mX6_mayWant, rX6_mayWant, pX6_isWord, rX6_isWord, pX6_kindHere, rX6_kindHere, bi_0, adv_gd, hT, en1, et2]
      rw [eW]
      refine ⟨hx, fun g => ?_, fun g => ?_⟩
      · rw [if_pos g]; exact (pv7 u _).symm
      · have g2 := (wN_gd g).1
        rw [wC2, sgd_gd, bi_0, Classical.not_not] at g2
        have hs := (isSt_vi h6.2).mp g2.2.1
        have hs6 : vp_in (adv (bt u) (tL u) t).va 6 := vi_mono hs h6.2.M.1
        have hh := (h6.2.2.2.1 _ (vi_lt hs)).resolve_left g2.2.2
        refine ⟨⟨a6 _, hs6, ?_, ?_⟩, ?_⟩
        · rw [r6]; exact vi_mono hh h6.2.K.1
        · rw [r6]; exact hcr
        · rw [if_neg g, mX6_rises, b6, r6, tw_pv]; rfl
    simp only [eX6_wantCough_0, eX6_wantCough_1, eX6_wantCough_4, eX6_wantCough_5, eX6_wantCough_6, eX6_wantCough_9, eX6_wantCough_10, eX6_wantCough_13, eX6_wantCough_14, eX6_wantCough_15, eX6_wantCough_18, eX6_wantCough_21, eX6_wantCough_24, eX6_wantCough_25, eX6_wantCough_26, eX6_wantCough_27, eX6_wantCough_30, eX6_wantCough_33, eX6_wantCough_36, eX6_wantCough_37, eX6_wantCough_40, eX6_wantCough_43, eX6_wantCough_44, eX6_wantCough_45, eX6_wantCough_48, eX6_wantCough_51, eX6_wantCough_52, eX6_wantCough_55, eX6_wantCough_59, eX6_wantCough_60, eX6_wantCough_61, eX6_wantCough_63, eX6_wantCough_66, eX6_wantCough_67, eX6_wantCough_68, eX6_wantCough_71, eX6_wantCough_74, eX6_wantCough_75, eX6_wantCough_76, eX6_wantCough_79, kl_i, kl_r, kl_n, kl_l, true_and, and_true, true_implies, false_implies, not_true_eq_false, not_false_eq_true, i10, Classical.not_not, tw_so, tw_be, tw_en, tw_va, tw_gd, tw_wo, tw_u2, tw_u3, tw_u4, tw_u5, tw_u6, tw_uj, mk_so, mk_be, mk_en, mk_va, mk_gd, mk_wo, mk_sso, mk_sbe, mk_sen, mk_sva, mk_sgd, mk_swo, ok_m6, ix_m6, ok_m7, ix_m7, ok_m8, ix_m8, ok_m9, ix_m9, ok_m10, ix_m10, ok_m11, ix_m11, ts_tw, bt_tw, tL_tw, tw_tw, X6_tw, pX6_advance, mX6_advance, pX6_wantNumber, mX6_wantNumber, rX6_wantNumber, pX6_mayWant, mX6_mayWant, rX6_mayWant, pX6_isWord, rX6_isWord, pX6_kindHere, rX6_kindHere, bi_0, adv_gd, hT, hE, pX6_isSeat, rX6_isSeat, a6, r6, pX6_chair, rX6_chair, v3_2, N_2]
    refine ⟨fun d => post 0 (Or.inl rfl) (bi_f (fun z => d z.1)).symm, fun d => ⟨fun f => post 0 (Or.inl rfl) (bi_f (fun z => f z.2.1)).symm, fun f => ⟨fun g => absurd f g, fun g => ⟨vi_mono ((isSt_vi h6.2).mp f) h6.2.M.1, fun k => post 0 (Or.inl rfl) (bi_f (fun z => z.2.2 k)).symm, fun k => post 1 (Or.inr rfl) (bi_t ⟨d, f, k⟩).symm⟩⟩⟩⟩
  rw [tw_ts] at key
  exact key
set_option maxRecDepth 20000 in
theorem KX6_wantCough_ok (w : WW) : KOk w MX6_wantCough (KX6_wantCough w) := KOk_mk flX6_ok ciX6_ok clX6_ok (fun _ _ h => by cases h) (fun _ _ h => by cases h) (List.forall_mem_cons.mpr ⟨itV (n := 71) (by decide) (COk_V (n := 2) (ci := 6) (ctX6_chair w) wcX6_71 nmX6_chair (by decide) (by decide) rfl (prX6_chair w)), List.forall_mem_cons.mpr ⟨itV (n := 99) (by decide) (COk_V (n := 1) (ci := 6) (ctX6_isSeat w) wcX6_99 nmX6_isSeat (by decide) (by decide) rfl (prX6_isSeat w)), List.forall_mem_cons.mpr ⟨itV (n := 142) (by decide) (COk_V (n := 1) (ci := 6) (ctX6_rises w) wcX6_142 nmX6_rises (by decide) (by decide) rfl (prX6_rises w)), List.forall_mem_cons.mpr ⟨itV (n := 238) (by decide) (COk_V (n := 0) (ci := 6) (ctX6_advance w) wcX6_238 nmX6_advance (by decide) (by decide) rfl (prX6_advance w)), List.forall_mem_cons.mpr ⟨itV (n := 241) (by decide) (COk_V (n := 2) (ci := 6) (ctX6_wantNumber w) wcX6_241 nmX6_wantNumber (by decide) (by decide) rfl (prX6_wantNumber w)), List.forall_mem_nil _⟩⟩⟩⟩⟩)
theorem ctX6_wantCough (w : WW) : CT w yX6_wantCough MX6_wantCough (csX6_wantCough w).2.1 (csX6_wantCough w).2.2 := by
  refine CT_of (by decide) rfl TX6_wantCough_ok TX6_wantCough_v (KX6_wantCough_ok w) (fun as u h => ?_)
  obtain ⟨a0, rfl, h⟩ := sgR h
  obtain ⟨rfl, hh⟩ := h
  refine ⟨Nat.le_of_ble_eq_true rfl, ?_⟩
  have key := vX6_wantCough w u hh
  exact key
theorem prX6_wantCough (w : WW) : ∀ as u, (csX6_wantCough w).2.1 as u → ∃ a r, as = .ref a :: r ∧ r.length = 0 ∧ okO w a 6 := by
  intro as u h
  obtain ⟨a0, rfl, h⟩ := sgR h
  exact ⟨_, _, rfl, rfl, okO_m h⟩
theorem vX6_wantItem (w : WW) : VX6_wantItem w := by
  intro u h
  have h7 : I7 u := h
  simp only [eX6_wantItem_0, eX6_wantItem_1, eX6_wantItem_4, eX6_wantItem_7, eX6_wantItem_10, eX6_wantItem_11, eX6_wantItem_14, eX6_wantItem_17, eX6_wantItem_18, eX6_wantItem_21, eX6_wantItem_24, eX6_wantItem_27, eX6_wantItem_28, eX6_wantItem_31, eX6_wantItem_34, eX6_wantItem_35, eX6_wantItem_38, eX6_wantItem_41, eX6_wantItem_42, eX6_wantItem_43, eX6_wantItem_46, eX6_wantItem_49, eX6_wantItem_52, eX6_wantItem_53, eX6_wantItem_54, eX6_wantItem_57, kl_i, kl_r, kl_n, kl_l, true_and, and_true, true_implies, false_implies, not_true_eq_false, not_false_eq_true, i10, Classical.not_not, pX6_isWord, rX6_isWord, pX6_kindHere, rX6_kindHere, bi_0, pX6_wantSeat, pX6_wantCough, pX6_wantOne, h7, ok_m11, ix_m11, mX6_wantItem, mX6_wantSeat, mX6_wantCough, mX6_wantOne, true_or]
  refine ⟨fun c1 => ⟨fun c2 => ⟨fun c3 => ?_, fun c3 => ?_⟩, fun c2 => ?_⟩, fun c1 => ?_⟩
  · rw [wItem, if_neg c1, if_neg c2, if_neg (fun z => z c3)]
    show _ = tw (pv u 1100 (R6 u)) (TS.sgd (ts u) 0)
    rw [pv7, ← tw_u6, tw_ts]
  · rw [wItem, if_neg c1, if_neg c2, if_pos c3]
  · rw [wItem, if_neg c1, if_pos c2]
  · rw [wItem, if_pos c1]
theorem wcX6_256 : ∀ x ∈ wV1 RX6 256 yX6_wantSeat MX6_wantSeat, x ∈ Gt := by decide +kernel
theorem nmX6_wantSeat : nmOk yX6_wantSeat 0 = true := by decide +kernel
theorem wcX6_261 : ∀ x ∈ wV1 RX6 261 yX6_wantCough MX6_wantCough, x ∈ Gt := by decide +kernel
theorem nmX6_wantCough : nmOk yX6_wantCough 0 = true := by decide +kernel
theorem wcX6_264 : ∀ x ∈ wV1 RX6 264 yX6_kindHere MX6_kindHere, x ∈ Gt := by decide +kernel
theorem nmX6_kindHere : nmOk yX6_kindHere 0 = true := by decide +kernel
theorem wcX6_268 : ∀ x ∈ wV1 RX6 268 yX6_wantOne MX6_wantOne, x ∈ Gt := by decide +kernel
theorem nmX6_wantOne : nmOk yX6_wantOne 1 = true := by decide +kernel
set_option maxRecDepth 20000 in
theorem KX6_wantItem_ok (w : WW) : KOk w MX6_wantItem (KX6_wantItem w) := KOk_mk flX6_ok ciX6_ok clX6_ok (fun _ _ h => by cases h) (fun _ _ h => by cases h) (List.forall_mem_cons.mpr ⟨itV (n := 220) (by decide) (COk_V (n := 1) (ci := 6) (ctX6_isWord w) wcX6_220 nmX6_isWord (by decide) (by decide) rfl (prX6_isWord w)), List.forall_mem_cons.mpr ⟨itV (n := 256) (by decide) (COk_V (n := 0) (ci := 6) (ctX6_wantSeat w) wcX6_256 nmX6_wantSeat (by decide) (by decide) rfl (prX6_wantSeat w)), List.forall_mem_cons.mpr ⟨itV (n := 261) (by decide) (COk_V (n := 0) (ci := 6) (ctX6_wantCough w) wcX6_261 nmX6_wantCough (by decide) (by decide) rfl (prX6_wantCough w)), List.forall_mem_cons.mpr ⟨itV (n := 264) (by decide) (COk_V (n := 0) (ci := 6) (ctX6_kindHere w) wcX6_264 nmX6_kindHere (by decide) (by decide) rfl (prX6_kindHere w)), List.forall_mem_cons.mpr ⟨itV (n := 268) (by decide) (COk_V (n := 1) (ci := 6) (ctX6_wantOne w) wcX6_268 nmX6_wantOne (by decide) (by decide) rfl (prX6_wantOne w)), List.forall_mem_nil _⟩⟩⟩⟩⟩)
theorem ctX6_wantItem (w : WW) : CT w yX6_wantItem MX6_wantItem (csX6_wantItem w).2.1 (csX6_wantItem w).2.2 := by
  refine CT_of (by decide) rfl TX6_wantItem_ok TX6_wantItem_v (KX6_wantItem_ok w) (fun as u h => ?_)
  obtain ⟨a0, rfl, h⟩ := sgR h
  obtain ⟨rfl, hh⟩ := h
  refine ⟨Nat.le_of_ble_eq_true rfl, ?_⟩
  have key := vX6_wantItem w u hh
  exact key
theorem prX6_wantItem (w : WW) : ∀ as u, (csX6_wantItem w).2.1 as u → ∃ a r, as = .ref a :: r ∧ r.length = 0 ∧ okO w a 6 := by
  intro as u h
  obtain ⟨a0, rfl, h⟩ := sgR h
  exact ⟨_, _, rfl, rfl, okO_m h⟩
