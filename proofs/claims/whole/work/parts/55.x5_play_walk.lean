/-! ===== the class's acts that play ahead, walked ===== -/
theorem vX5_holder (w : WW) : VX5_holder w := by
  intro s n u hw h
  have hI : IX u := h
  have hv : Hv (vw u (91 * qP)) := h.1
  have hO := hv.1
  have hT := Tr_Hv hv
  have l := Tr_lv hO
  by_cases c : isSt (vw u (91 * qP)) s
  · have hs := (isSt_vi hO).mp c
    have h6 : vp_in s 6 := vi_mono hs hO.M.1
    have hs6 : NN s < 6 := vi_lt h6
    by_cases d : 0 ≤ n ∧ n ≤ 200
    · simp only [eX5_holder_0, eX5_holder_1, eX5_holder_2, eX5_holder_5, eX5_holder_8, eX5_holder_9, eX5_holder_10, eX5_holder_13, eX5_holder_16, eX5_holder_19, eX5_holder_20, eX5_holder_21, eX5_holder_24, eX5_holder_25, eX5_holder_26, eX5_holder_27, eX5_holder_30, eX5_holder_33, eX5_holder_34, eX5_holder_35, eX5_holder_38, eX5_holder_39, eX5_holder_40, eX5_holder_43, eX5_holder_44, eX5_holder_47, eX5_holder_50, eX5_holder_51, eX5_holder_54, eX5_holder_55, eX5_holder_58, eX5_holder_59, eX5_holder_62, eX5_holder_65, eX5_holder_66, eX5_holder_67, eX5_holder_70, kl_i, kl_r, kl_n, kl_l, true_and, and_true, true_implies, false_implies, not_true_eq_false, not_false_eq_true, i10, Classical.not_not, ok_x0, rfP, ok_x1, rfT, ok_x2, rfK, ok_x3, ix_x3, ok_x4, rf_x4, ok_x5, rf_x5, ok_x6, rf_x6, as_fdd, ai_fdd, xa_fdd, rd_fdd, ok_h0 w hqP, rf_h0 w hqP, ok_h1 w hqP, rf_h1 w hqP, ok_h2 w hqP, ix_h2 w hqP, ok_h3 w hqP, ix_h3 w hqP, ok_h4 w hqP, ix_h4 w hqP, ar_sa w hqP, rf_sa w hqP, ar_oa w hqP, rf_oa w hqP, hw_0, hw_1, hw_2, hu_0, hu_1, hu_2, on_vw, on_f, se_vw, se_f, vw_pv, pv_pv, ost_uI, sst_uI, sit_d, may_d, far_d, stay_d, goe_d, stp_d, hOk_h w hqP, hq_hA, ok_h0 w hqT, rf_h0 w hqT, ok_h1 w hqT, rf_h1 w hqT, ok_h2 w hqT, ix_h2 w hqT, ok_h3 w hqT, ix_h3 w hqT, ok_h4 w hqT, ix_h4 w hqT, ar_sa w hqT, rf_sa w hqT, ar_oa w hqT, rf_oa w hqT, hw_0, hw_1, hw_2, hu_0, hu_1, hu_2, on_vw, on_f, se_vw, se_f, vw_pv, pv_pv, ost_uI, sst_uI, sit_d, may_d, far_d, stay_d, goe_d, stp_d, hOk_h w hqT, hq_hA, pX5_finding, mX5_finding, rfx0, rfx1, rfx2, rfx3, rfx4, rfx5, rfx6, N_0, N_1, N_2, N_3, N_4, N_5, N_6, v7_0, v7_1, v7_2, v7_3, v7_4, v7_5, v7_6, pX5_isSeat, rX5_isSeat, bi_t c, bi_0, pX5_isFromTo, rX5_isFromTo, bi_t d, pX5_isTooLateFor, eq_true hI, d, rX5_isTooLateFor, pX0_become, neTP, eq_true hO, pX0_pass, hw, eq_true hT, pass_bec, vw_stT, h6, ok_se0 w hqT hs6, ix_se0 w hqT hs6, ok_se1 w hqT hs6, ix_se1 w hqT hs6, ok_se2 w hqT hs6, ix_se2 w hqT hs6, eOk_se w hqT hs6, fo_se w hqT hs6, rX5_holder, mX5_holder, Option.some.injEq, Value.int.injEq]
      refine ⟨fun f => xlr (S := vw u (91 * qP)) ?_, fun f => xl4 ?_⟩
      · rw [oHolder, if_neg (fun z => z ⟨c, d⟩), if_neg f, goSe l hO (NN n) (vi_lt hs)]
      · rw [oHolder, if_neg (fun z => z ⟨c, d⟩), if_pos f]
    · simp only [eX5_holder_0, eX5_holder_1, eX5_holder_2, eX5_holder_5, eX5_holder_8, eX5_holder_9, eX5_holder_10, eX5_holder_13, eX5_holder_16, eX5_holder_19, eX5_holder_20, eX5_holder_21, eX5_holder_24, eX5_holder_25, eX5_holder_26, eX5_holder_27, eX5_holder_30, eX5_holder_33, eX5_holder_34, eX5_holder_35, eX5_holder_38, eX5_holder_39, eX5_holder_40, eX5_holder_43, eX5_holder_44, eX5_holder_47, eX5_holder_50, eX5_holder_51, eX5_holder_54, eX5_holder_55, eX5_holder_58, eX5_holder_59, eX5_holder_62, eX5_holder_65, eX5_holder_66, eX5_holder_67, eX5_holder_70, kl_i, kl_r, kl_n, kl_l, true_and, and_true, true_implies, false_implies, not_true_eq_false, not_false_eq_true, i10, Classical.not_not, ok_x0, rfP, ok_x1, rfT, ok_x2, rfK, ok_x3, ix_x3, ok_x4, rf_x4, ok_x5, rf_x5, ok_x6, rf_x6, as_fdd, ai_fdd, xa_fdd, rd_fdd, ok_h0 w hqP, rf_h0 w hqP, ok_h1 w hqP, rf_h1 w hqP, ok_h2 w hqP, ix_h2 w hqP, ok_h3 w hqP, ix_h3 w hqP, ok_h4 w hqP, ix_h4 w hqP, ar_sa w hqP, rf_sa w hqP, ar_oa w hqP, rf_oa w hqP, hw_0, hw_1, hw_2, hu_0, hu_1, hu_2, on_vw, on_f, se_vw, se_f, vw_pv, pv_pv, ost_uI, sst_uI, sit_d, may_d, far_d, stay_d, goe_d, stp_d, hOk_h w hqP, hq_hA, pX5_finding, mX5_finding, rfx0, rfx1, rfx2, rfx3, rfx4, rfx5, rfx6, N_0, N_1, N_2, N_3, N_4, N_5, N_6, v7_0, v7_1, v7_2, v7_3, v7_4, v7_5, v7_6, pX5_isSeat, rX5_isSeat, bi_t c, pX5_isFromTo, rX5_isFromTo, bi_f d, rX5_holder, mX5_holder, Option.some.injEq, Value.int.injEq]
      exact xl0 (by rw [oHolder, if_pos (fun z => d z.2)])
  · simp only [eX5_holder_0, eX5_holder_1, eX5_holder_2, eX5_holder_5, eX5_holder_8, eX5_holder_9, eX5_holder_10, eX5_holder_13, eX5_holder_16, eX5_holder_19, eX5_holder_20, eX5_holder_21, eX5_holder_24, eX5_holder_25, eX5_holder_26, eX5_holder_27, eX5_holder_30, eX5_holder_33, eX5_holder_34, eX5_holder_35, eX5_holder_38, eX5_holder_39, eX5_holder_40, eX5_holder_43, eX5_holder_44, eX5_holder_47, eX5_holder_50, eX5_holder_51, eX5_holder_54, eX5_holder_55, eX5_holder_58, eX5_holder_59, eX5_holder_62, eX5_holder_65, eX5_holder_66, eX5_holder_67, eX5_holder_70, kl_i, kl_r, kl_n, kl_l, true_and, and_true, true_implies, false_implies, not_true_eq_false, not_false_eq_true, i10, Classical.not_not, ok_x0, rfP, ok_x1, rfT, ok_x2, rfK, ok_x3, ix_x3, ok_x4, rf_x4, ok_x5, rf_x5, ok_x6, rf_x6, as_fdd, ai_fdd, xa_fdd, rd_fdd, ok_h0 w hqP, rf_h0 w hqP, ok_h1 w hqP, rf_h1 w hqP, ok_h2 w hqP, ix_h2 w hqP, ok_h3 w hqP, ix_h3 w hqP, ok_h4 w hqP, ix_h4 w hqP, ar_sa w hqP, rf_sa w hqP, ar_oa w hqP, rf_oa w hqP, hw_0, hw_1, hw_2, hu_0, hu_1, hu_2, on_vw, on_f, se_vw, se_f, vw_pv, pv_pv, ost_uI, sst_uI, sit_d, may_d, far_d, stay_d, goe_d, stp_d, hOk_h w hqP, hq_hA, pX5_finding, mX5_finding, rfx0, rfx1, rfx2, rfx3, rfx4, rfx5, rfx6, N_0, N_1, N_2, N_3, N_4, N_5, N_6, v7_0, v7_1, v7_2, v7_3, v7_4, v7_5, v7_6, pX5_isSeat, rX5_isSeat, bi_f c, rX5_holder, mX5_holder, Option.some.injEq, Value.int.injEq]
    exact xl0 (by rw [oHolder, if_pos (fun z => c z.1)])
theorem wcX5_169 : ∀ x ∈ wV1 RX5 169 yX5_isTooLateFor MX5_isTooLateFor, x ∈ Gt := by decide +kernel
theorem nmX5_isTooLateFor : nmOk yX5_isTooLateFor 1 = true := by decide +kernel
theorem wcX5_172 : ∀ x ∈ wV1 RX5 172 yX0_become MX0_become, x ∈ Gt := by decide +kernel
theorem nmX0_become : nmOk yX0_become 1 = true := by decide +kernel
theorem wcX5_176 : ∀ x ∈ wV1 RX5 176 yX0_pass MX0_pass, x ∈ Gt := by decide +kernel
theorem nmX0_pass : nmOk yX0_pass 1 = true := by decide +kernel
set_option maxRecDepth 20000 in
theorem KX5_holder_ok (w : WW) : KOk w MX5_holder (KX5_holder w) := KOk_mk flX5_ok ciX5_ok clX5_ok (fun _ _ h => by cases h) (fun _ _ h => by cases h) (List.forall_mem_cons.mpr ⟨itV (n := 52) (by decide) (COk_V (n := 1) (ci := 5) (ctX5_finding w) wcX5_52 nmX5_finding (by decide) (by decide) rfl (prX5_finding w)), List.forall_mem_cons.mpr ⟨itV (n := 67) (by decide) (COk_V (n := 1) (ci := 5) (ctX5_isSeat w) wcX5_67 nmX5_isSeat (by decide) (by decide) rfl (prX5_isSeat w)), List.forall_mem_cons.mpr ⟨itV (n := 169) (by decide) (COk_V (n := 1) (ci := 5) (ctX5_isTooLateFor w) wcX5_169 nmX5_isTooLateFor (by decide) (by decide) rfl (prX5_isTooLateFor w)), List.forall_mem_cons.mpr ⟨itV (n := 172) (by decide) (COk_V (n := 1) (ci := 0) (ctX0_become w) wcX5_172 nmX0_become (by decide) (by decide) rfl (prX0_become w)), List.forall_mem_cons.mpr ⟨itV (n := 176) (by decide) (COk_V (n := 1) (ci := 0) (ctX0_pass w) wcX5_176 nmX0_pass (by decide) (by decide) rfl (prX0_pass w)), List.forall_mem_cons.mpr ⟨itS (n := 48) (COk_S (n := 3) (ctX5_isFromTo w) wcX5_65584 nmX5_isFromTo (by decide)), List.forall_mem_nil _⟩⟩⟩⟩⟩⟩)
theorem ctX5_holder (w : WW) : CT w yX5_holder MX5_holder (csX5_holder w).2.1 (csX5_holder w).2.2 := by
  refine CT_of (by decide) rfl TX5_holder_ok TX5_holder_v (KX5_holder_ok w) (fun as u h => ?_)
  obtain ⟨a0, a1, a2, rfl, h⟩ := sgRII h
  obtain ⟨rfl, hwok, hh⟩ := h
  refine ⟨Nat.le_of_ble_eq_true rfl, ?_⟩
  have key := vX5_holder w a1 a2 u hwok hh
  exact key
theorem prX5_holder (w : WW) : ∀ as u, (csX5_holder w).2.1 as u → ∃ a r, as = .ref a :: r ∧ r.length = 2 ∧ okO w a 5 := by
  intro as u h
  obtain ⟨a0, a1, a2, rfl, h⟩ := sgRII h
  exact ⟨_, _, rfl, rfl, okO_x h⟩
theorem vX5_where (w : WW) : VX5_where w := by
  intro s n u hw h
  have hI : IX u := h
  have hv : Hv (vw u (91 * qP)) := h.1
  have hO := hv.1
  have hT := Tr_Hv hv
  have l := Tr_lv hO
  by_cases c : isOn (vw u (91 * qP)) s
  · have hs := (isOn_vi hO).mp c
    have h6 : vp_in s 10 := vi_mono hs hO.K.1
    have hs6 : NN s < 10 := vi_lt h6
    by_cases d : 0 ≤ n ∧ n ≤ 200
    · simp only [eX5_where_0, eX5_where_1, eX5_where_2, eX5_where_5, eX5_where_8, eX5_where_9, eX5_where_10, eX5_where_13, eX5_where_16, eX5_where_19, eX5_where_20, eX5_where_21, eX5_where_24, eX5_where_25, eX5_where_26, eX5_where_27, eX5_where_30, eX5_where_33, eX5_where_34, eX5_where_35, eX5_where_38, eX5_where_39, eX5_where_40, eX5_where_43, eX5_where_44, eX5_where_47, eX5_where_50, eX5_where_51, eX5_where_54, eX5_where_55, eX5_where_58, eX5_where_59, eX5_where_62, eX5_where_65, eX5_where_66, eX5_where_67, eX5_where_70, kl_i, kl_r, kl_n, kl_l, true_and, and_true, true_implies, false_implies, not_true_eq_false, not_false_eq_true, i10, Classical.not_not, ok_x0, rfP, ok_x1, rfT, ok_x2, rfK, ok_x3, ix_x3, ok_x4, rf_x4, ok_x5, rf_x5, ok_x6, rf_x6, as_fdd, ai_fdd, xa_fdd, rd_fdd, ok_h0 w hqP, rf_h0 w hqP, ok_h1 w hqP, rf_h1 w hqP, ok_h2 w hqP, ix_h2 w hqP, ok_h3 w hqP, ix_h3 w hqP, ok_h4 w hqP, ix_h4 w hqP, ar_sa w hqP, rf_sa w hqP, ar_oa w hqP, rf_oa w hqP, hw_0, hw_1, hw_2, hu_0, hu_1, hu_2, on_vw, on_f, se_vw, se_f, vw_pv, pv_pv, ost_uI, sst_uI, sit_d, may_d, far_d, stay_d, goe_d, stp_d, hOk_h w hqP, hq_hA, ok_h0 w hqT, rf_h0 w hqT, ok_h1 w hqT, rf_h1 w hqT, ok_h2 w hqT, ix_h2 w hqT, ok_h3 w hqT, ix_h3 w hqT, ok_h4 w hqT, ix_h4 w hqT, ar_sa w hqT, rf_sa w hqT, ar_oa w hqT, rf_oa w hqT, hw_0, hw_1, hw_2, hu_0, hu_1, hu_2, on_vw, on_f, se_vw, se_f, vw_pv, pv_pv, ost_uI, sst_uI, sit_d, may_d, far_d, stay_d, goe_d, stp_d, hOk_h w hqT, hq_hA, pX5_finding, mX5_finding, rfx0, rfx1, rfx2, rfx3, rfx4, rfx5, rfx6, N_0, N_1, N_2, N_3, N_4, N_5, N_6, v7_0, v7_1, v7_2, v7_3, v7_4, v7_5, v7_6, pX5_isOne, rX5_isOne, bi_t c, bi_0, pX5_isFromTo, rX5_isFromTo, bi_t d, pX5_isTooLateFor, eq_true hI, d, rX5_isTooLateFor, pX0_become, neTP, eq_true hO, pX0_pass, hw, eq_true hT, pass_bec, vw_stT, h6, ok_on0 w hqT hs6, ix_on0 w hqT hs6, ok_on1 w hqT hs6, ix_on1 w hqT hs6, ok_on2 w hqT hs6, ix_on2 w hqT hs6, ok_on3 w hqT hs6, ix_on3 w hqT hs6, ok_on4 w hqT hs6, ix_on4 w hqT hs6, ok_on5 w hqT hs6, ix_on5 w hqT hs6, ok_on6 w hqT hs6, ix_on6 w hqT hs6, oOk_on w hqT hs6, fo_on w hqT hs6, rX5_where, mX5_where, Option.some.injEq, Value.int.injEq]
      refine ⟨fun f => xlr (S := vw u (91 * qP)) ?_, fun f => xl4 ?_⟩
      · rw [oWhere, if_neg (fun z => z ⟨c, d⟩), if_neg f, goOn l hO (NN n) (vi_lt hs) (by decide)]
      · rw [oWhere, if_neg (fun z => z ⟨c, d⟩), if_pos f]
    · simp only [eX5_where_0, eX5_where_1, eX5_where_2, eX5_where_5, eX5_where_8, eX5_where_9, eX5_where_10, eX5_where_13, eX5_where_16, eX5_where_19, eX5_where_20, eX5_where_21, eX5_where_24, eX5_where_25, eX5_where_26, eX5_where_27, eX5_where_30, eX5_where_33, eX5_where_34, eX5_where_35, eX5_where_38, eX5_where_39, eX5_where_40, eX5_where_43, eX5_where_44, eX5_where_47, eX5_where_50, eX5_where_51, eX5_where_54, eX5_where_55, eX5_where_58, eX5_where_59, eX5_where_62, eX5_where_65, eX5_where_66, eX5_where_67, eX5_where_70, kl_i, kl_r, kl_n, kl_l, true_and, and_true, true_implies, false_implies, not_true_eq_false, not_false_eq_true, i10, Classical.not_not, ok_x0, rfP, ok_x1, rfT, ok_x2, rfK, ok_x3, ix_x3, ok_x4, rf_x4, ok_x5, rf_x5, ok_x6, rf_x6, as_fdd, ai_fdd, xa_fdd, rd_fdd, ok_h0 w hqP, rf_h0 w hqP, ok_h1 w hqP, rf_h1 w hqP, ok_h2 w hqP, ix_h2 w hqP, ok_h3 w hqP, ix_h3 w hqP, ok_h4 w hqP, ix_h4 w hqP, ar_sa w hqP, rf_sa w hqP, ar_oa w hqP, rf_oa w hqP, hw_0, hw_1, hw_2, hu_0, hu_1, hu_2, on_vw, on_f, se_vw, se_f, vw_pv, pv_pv, ost_uI, sst_uI, sit_d, may_d, far_d, stay_d, goe_d, stp_d, hOk_h w hqP, hq_hA, pX5_finding, mX5_finding, rfx0, rfx1, rfx2, rfx3, rfx4, rfx5, rfx6, N_0, N_1, N_2, N_3, N_4, N_5, N_6, v7_0, v7_1, v7_2, v7_3, v7_4, v7_5, v7_6, pX5_isOne, rX5_isOne, bi_t c, pX5_isFromTo, rX5_isFromTo, bi_f d, rX5_where, mX5_where, Option.some.injEq, Value.int.injEq]
      exact xl0 (by rw [oWhere, if_pos (fun z => d z.2)])
  · simp only [eX5_where_0, eX5_where_1, eX5_where_2, eX5_where_5, eX5_where_8, eX5_where_9, eX5_where_10, eX5_where_13, eX5_where_16, eX5_where_19, eX5_where_20, eX5_where_21, eX5_where_24, eX5_where_25, eX5_where_26, eX5_where_27, eX5_where_30, eX5_where_33, eX5_where_34, eX5_where_35, eX5_where_38, eX5_where_39, eX5_where_40, eX5_where_43, eX5_where_44, eX5_where_47, eX5_where_50, eX5_where_51, eX5_where_54, eX5_where_55, eX5_where_58, eX5_where_59, eX5_where_62, eX5_where_65, eX5_where_66, eX5_where_67, eX5_where_70, kl_i, kl_r, kl_n, kl_l, true_and, and_true, true_implies, false_implies, not_true_eq_false, not_false_eq_true, i10, Classical.not_not, ok_x0, rfP, ok_x1, rfT, ok_x2, rfK, ok_x3, ix_x3, ok_x4, rf_x4, ok_x5, rf_x5, ok_x6, rf_x6, as_fdd, ai_fdd, xa_fdd, rd_fdd, ok_h0 w hqP, rf_h0 w hqP, ok_h1 w hqP, rf_h1 w hqP, ok_h2 w hqP, ix_h2 w hqP, ok_h3 w hqP, ix_h3 w hqP, ok_h4 w hqP, ix_h4 w hqP, ar_sa w hqP, rf_sa w hqP, ar_oa w hqP, rf_oa w hqP, hw_0, hw_1, hw_2, hu_0, hu_1, hu_2, on_vw, on_f, se_vw, se_f, vw_pv, pv_pv, ost_uI, sst_uI, sit_d, may_d, far_d, stay_d, goe_d, stp_d, hOk_h w hqP, hq_hA, pX5_finding, mX5_finding, rfx0, rfx1, rfx2, rfx3, rfx4, rfx5, rfx6, N_0, N_1, N_2, N_3, N_4, N_5, N_6, v7_0, v7_1, v7_2, v7_3, v7_4, v7_5, v7_6, pX5_isOne, rX5_isOne, bi_f c, rX5_where, mX5_where, Option.some.injEq, Value.int.injEq]
    exact xl0 (by rw [oWhere, if_pos (fun z => c z.1)])
set_option maxRecDepth 20000 in
theorem KX5_where_ok (w : WW) : KOk w MX5_where (KX5_where w) := KOk_mk flX5_ok ciX5_ok clX5_ok (fun _ _ h => by cases h) (fun _ _ h => by cases h) (List.forall_mem_cons.mpr ⟨itV (n := 52) (by decide) (COk_V (n := 1) (ci := 5) (ctX5_finding w) wcX5_52 nmX5_finding (by decide) (by decide) rfl (prX5_finding w)), List.forall_mem_cons.mpr ⟨itV (n := 99) (by decide) (COk_V (n := 1) (ci := 5) (ctX5_isOne w) wcX5_99 nmX5_isOne (by decide) (by decide) rfl (prX5_isOne w)), List.forall_mem_cons.mpr ⟨itV (n := 169) (by decide) (COk_V (n := 1) (ci := 5) (ctX5_isTooLateFor w) wcX5_169 nmX5_isTooLateFor (by decide) (by decide) rfl (prX5_isTooLateFor w)), List.forall_mem_cons.mpr ⟨itV (n := 172) (by decide) (COk_V (n := 1) (ci := 0) (ctX0_become w) wcX5_172 nmX0_become (by decide) (by decide) rfl (prX0_become w)), List.forall_mem_cons.mpr ⟨itV (n := 176) (by decide) (COk_V (n := 1) (ci := 0) (ctX0_pass w) wcX5_176 nmX0_pass (by decide) (by decide) rfl (prX0_pass w)), List.forall_mem_cons.mpr ⟨itS (n := 48) (COk_S (n := 3) (ctX5_isFromTo w) wcX5_65584 nmX5_isFromTo (by decide)), List.forall_mem_nil _⟩⟩⟩⟩⟩⟩)
theorem ctX5_where (w : WW) : CT w yX5_where MX5_where (csX5_where w).2.1 (csX5_where w).2.2 := by
  refine CT_of (by decide) rfl TX5_where_ok TX5_where_v (KX5_where_ok w) (fun as u h => ?_)
  obtain ⟨a0, a1, a2, rfl, h⟩ := sgRII h
  obtain ⟨rfl, hwok, hh⟩ := h
  refine ⟨Nat.le_of_ble_eq_true rfl, ?_⟩
  have key := vX5_where w a1 a2 u hwok hh
  exact key
theorem prX5_where (w : WW) : ∀ as u, (csX5_where w).2.1 as u → ∃ a r, as = .ref a :: r ∧ r.length = 2 ∧ okO w a 5 := by
  intro as u h
  obtain ⟨a0, a1, a2, rfl, h⟩ := sgRII h
  exact ⟨_, _, rfl, rfl, okO_x h⟩
theorem vX5_coins (w : WW) : VX5_coins w := by
  intro s n u hw h
  have hI : IX u := h
  have hv : Hv (vw u (91 * qP)) := h.1
  have hO := hv.1
  have hT := Tr_Hv hv
  have l := Tr_lv hO
  by_cases c : isOn (vw u (91 * qP)) s
  · have hs := (isOn_vi hO).mp c
    have h6 : vp_in s 10 := vi_mono hs hO.K.1
    have hs6 : NN s < 10 := vi_lt h6
    by_cases d : 0 ≤ n ∧ n ≤ 200
    · simp only [eX5_coins_0, eX5_coins_1, eX5_coins_2, eX5_coins_5, eX5_coins_8, eX5_coins_9, eX5_coins_10, eX5_coins_13, eX5_coins_16, eX5_coins_19, eX5_coins_20, eX5_coins_21, eX5_coins_24, eX5_coins_25, eX5_coins_26, eX5_coins_27, eX5_coins_30, eX5_coins_33, eX5_coins_34, eX5_coins_35, eX5_coins_38, eX5_coins_39, eX5_coins_40, eX5_coins_43, eX5_coins_44, eX5_coins_47, eX5_coins_50, eX5_coins_51, eX5_coins_54, eX5_coins_55, eX5_coins_58, eX5_coins_59, eX5_coins_62, eX5_coins_65, eX5_coins_66, eX5_coins_67, eX5_coins_70, kl_i, kl_r, kl_n, kl_l, true_and, and_true, true_implies, false_implies, not_true_eq_false, not_false_eq_true, i10, Classical.not_not, ok_x0, rfP, ok_x1, rfT, ok_x2, rfK, ok_x3, ix_x3, ok_x4, rf_x4, ok_x5, rf_x5, ok_x6, rf_x6, as_fdd, ai_fdd, xa_fdd, rd_fdd, ok_h0 w hqP, rf_h0 w hqP, ok_h1 w hqP, rf_h1 w hqP, ok_h2 w hqP, ix_h2 w hqP, ok_h3 w hqP, ix_h3 w hqP, ok_h4 w hqP, ix_h4 w hqP, ar_sa w hqP, rf_sa w hqP, ar_oa w hqP, rf_oa w hqP, hw_0, hw_1, hw_2, hu_0, hu_1, hu_2, on_vw, on_f, se_vw, se_f, vw_pv, pv_pv, ost_uI, sst_uI, sit_d, may_d, far_d, stay_d, goe_d, stp_d, hOk_h w hqP, hq_hA, ok_h0 w hqT, rf_h0 w hqT, ok_h1 w hqT, rf_h1 w hqT, ok_h2 w hqT, ix_h2 w hqT, ok_h3 w hqT, ix_h3 w hqT, ok_h4 w hqT, ix_h4 w hqT, ar_sa w hqT, rf_sa w hqT, ar_oa w hqT, rf_oa w hqT, hw_0, hw_1, hw_2, hu_0, hu_1, hu_2, on_vw, on_f, se_vw, se_f, vw_pv, pv_pv, ost_uI, sst_uI, sit_d, may_d, far_d, stay_d, goe_d, stp_d, hOk_h w hqT, hq_hA, pX5_finding, mX5_finding, rfx0, rfx1, rfx2, rfx3, rfx4, rfx5, rfx6, N_0, N_1, N_2, N_3, N_4, N_5, N_6, v7_0, v7_1, v7_2, v7_3, v7_4, v7_5, v7_6, pX5_isOne, rX5_isOne, bi_t c, bi_0, pX5_isFromTo, rX5_isFromTo, bi_t d, pX5_isTooLateFor, eq_true hI, d, rX5_isTooLateFor, pX0_become, neTP, eq_true hO, pX0_pass, hw, eq_true hT, pass_bec, vw_stT, h6, ok_on0 w hqT hs6, ix_on0 w hqT hs6, ok_on1 w hqT hs6, ix_on1 w hqT hs6, ok_on2 w hqT hs6, ix_on2 w hqT hs6, ok_on3 w hqT hs6, ix_on3 w hqT hs6, ok_on4 w hqT hs6, ix_on4 w hqT hs6, ok_on5 w hqT hs6, ix_on5 w hqT hs6, ok_on6 w hqT hs6, ix_on6 w hqT hs6, oOk_on w hqT hs6, fo_on w hqT hs6, rX5_coins, mX5_coins, Option.some.injEq, Value.int.injEq]
      refine ⟨fun f => xlr (S := vw u (91 * qP)) ?_, fun f => xl4 ?_⟩
      · rw [oCoins, if_neg (fun z => z ⟨c, d⟩), if_neg f, goOn l hO (NN n) (vi_lt hs) (by decide)]
      · rw [oCoins, if_neg (fun z => z ⟨c, d⟩), if_pos f]
    · simp only [eX5_coins_0, eX5_coins_1, eX5_coins_2, eX5_coins_5, eX5_coins_8, eX5_coins_9, eX5_coins_10, eX5_coins_13, eX5_coins_16, eX5_coins_19, eX5_coins_20, eX5_coins_21, eX5_coins_24, eX5_coins_25, eX5_coins_26, eX5_coins_27, eX5_coins_30, eX5_coins_33, eX5_coins_34, eX5_coins_35, eX5_coins_38, eX5_coins_39, eX5_coins_40, eX5_coins_43, eX5_coins_44, eX5_coins_47, eX5_coins_50, eX5_coins_51, eX5_coins_54, eX5_coins_55, eX5_coins_58, eX5_coins_59, eX5_coins_62, eX5_coins_65, eX5_coins_66, eX5_coins_67, eX5_coins_70, kl_i, kl_r, kl_n, kl_l, true_and, and_true, true_implies, false_implies, not_true_eq_false, not_false_eq_true, i10, Classical.not_not, ok_x0, rfP, ok_x1, rfT, ok_x2, rfK, ok_x3, ix_x3, ok_x4, rf_x4, ok_x5, rf_x5, ok_x6, rf_x6, as_fdd, ai_fdd, xa_fdd, rd_fdd, ok_h0 w hqP, rf_h0 w hqP, ok_h1 w hqP, rf_h1 w hqP, ok_h2 w hqP, ix_h2 w hqP, ok_h3 w hqP, ix_h3 w hqP, ok_h4 w hqP, ix_h4 w hqP, ar_sa w hqP, rf_sa w hqP, ar_oa w hqP, rf_oa w hqP, hw_0, hw_1, hw_2, hu_0, hu_1, hu_2, on_vw, on_f, se_vw, se_f, vw_pv, pv_pv, ost_uI, sst_uI, sit_d, may_d, far_d, stay_d, goe_d, stp_d, hOk_h w hqP, hq_hA, pX5_finding, mX5_finding, rfx0, rfx1, rfx2, rfx3, rfx4, rfx5, rfx6, N_0, N_1, N_2, N_3, N_4, N_5, N_6, v7_0, v7_1, v7_2, v7_3, v7_4, v7_5, v7_6, pX5_isOne, rX5_isOne, bi_t c, pX5_isFromTo, rX5_isFromTo, bi_f d, rX5_coins, mX5_coins, Option.some.injEq, Value.int.injEq]
      exact xl0 (by rw [oCoins, if_pos (fun z => d z.2)])
  · simp only [eX5_coins_0, eX5_coins_1, eX5_coins_2, eX5_coins_5, eX5_coins_8, eX5_coins_9, eX5_coins_10, eX5_coins_13, eX5_coins_16, eX5_coins_19, eX5_coins_20, eX5_coins_21, eX5_coins_24, eX5_coins_25, eX5_coins_26, eX5_coins_27, eX5_coins_30, eX5_coins_33, eX5_coins_34, eX5_coins_35, eX5_coins_38, eX5_coins_39, eX5_coins_40, eX5_coins_43, eX5_coins_44, eX5_coins_47, eX5_coins_50, eX5_coins_51, eX5_coins_54, eX5_coins_55, eX5_coins_58, eX5_coins_59, eX5_coins_62, eX5_coins_65, eX5_coins_66, eX5_coins_67, eX5_coins_70, kl_i, kl_r, kl_n, kl_l, true_and, and_true, true_implies, false_implies, not_true_eq_false, not_false_eq_true, i10, Classical.not_not, ok_x0, rfP, ok_x1, rfT, ok_x2, rfK, ok_x3, ix_x3, ok_x4, rf_x4, ok_x5, rf_x5, ok_x6, rf_x6, as_fdd, ai_fdd, xa_fdd, rd_fdd, ok_h0 w hqP, rf_h0 w hqP, ok_h1 w hqP, rf_h1 w hqP, ok_h2 w hqP, ix_h2 w hqP, ok_h3 w hqP, ix_h3 w hqP, ok_h4 w hqP, ix_h4 w hqP, ar_sa w hqP, rf_sa w hqP, ar_oa w hqP, rf_oa w hqP, hw_0, hw_1, hw_2, hu_0, hu_1, hu_2, on_vw, on_f, se_vw, se_f, vw_pv, pv_pv, ost_uI, sst_uI, sit_d, may_d, far_d, stay_d, goe_d, stp_d, hOk_h w hqP, hq_hA, pX5_finding, mX5_finding, rfx0, rfx1, rfx2, rfx3, rfx4, rfx5, rfx6, N_0, N_1, N_2, N_3, N_4, N_5, N_6, v7_0, v7_1, v7_2, v7_3, v7_4, v7_5, v7_6, pX5_isOne, rX5_isOne, bi_f c, rX5_coins, mX5_coins, Option.some.injEq, Value.int.injEq]
    exact xl0 (by rw [oCoins, if_pos (fun z => c z.1)])
set_option maxRecDepth 20000 in
theorem KX5_coins_ok (w : WW) : KOk w MX5_coins (KX5_coins w) := KOk_mk flX5_ok ciX5_ok clX5_ok (fun _ _ h => by cases h) (fun _ _ h => by cases h) (List.forall_mem_cons.mpr ⟨itV (n := 52) (by decide) (COk_V (n := 1) (ci := 5) (ctX5_finding w) wcX5_52 nmX5_finding (by decide) (by decide) rfl (prX5_finding w)), List.forall_mem_cons.mpr ⟨itV (n := 99) (by decide) (COk_V (n := 1) (ci := 5) (ctX5_isOne w) wcX5_99 nmX5_isOne (by decide) (by decide) rfl (prX5_isOne w)), List.forall_mem_cons.mpr ⟨itV (n := 169) (by decide) (COk_V (n := 1) (ci := 5) (ctX5_isTooLateFor w) wcX5_169 nmX5_isTooLateFor (by decide) (by decide) rfl (prX5_isTooLateFor w)), List.forall_mem_cons.mpr ⟨itV (n := 172) (by decide) (COk_V (n := 1) (ci := 0) (ctX0_become w) wcX5_172 nmX0_become (by decide) (by decide) rfl (prX0_become w)), List.forall_mem_cons.mpr ⟨itV (n := 176) (by decide) (COk_V (n := 1) (ci := 0) (ctX0_pass w) wcX5_176 nmX0_pass (by decide) (by decide) rfl (prX0_pass w)), List.forall_mem_cons.mpr ⟨itS (n := 48) (COk_S (n := 3) (ctX5_isFromTo w) wcX5_65584 nmX5_isFromTo (by decide)), List.forall_mem_nil _⟩⟩⟩⟩⟩⟩)
theorem ctX5_coins (w : WW) : CT w yX5_coins MX5_coins (csX5_coins w).2.1 (csX5_coins w).2.2 := by
  refine CT_of (by decide) rfl TX5_coins_ok TX5_coins_v (KX5_coins_ok w) (fun as u h => ?_)
  obtain ⟨a0, a1, a2, rfl, h⟩ := sgRII h
  obtain ⟨rfl, hwok, hh⟩ := h
  refine ⟨Nat.le_of_ble_eq_true rfl, ?_⟩
  have key := vX5_coins w a1 a2 u hwok hh
  exact key
theorem prX5_coins (w : WW) : ∀ as u, (csX5_coins w).2.1 as u → ∃ a r, as = .ref a :: r ∧ r.length = 2 ∧ okO w a 5 := by
  intro as u h
  obtain ⟨a0, a1, a2, rfl, h⟩ := sgRII h
  exact ⟨_, _, rfl, rfl, okO_x h⟩
theorem vT_pvP {x : MM} {G : Nat → Int32} (h : ∀ i, 91 ≤ i → G i = vw x (91 * qP) i) : vw (pv x (91 * qP) G) (91 * qT) = vw x (91 * qT) := by
  funext i
  exact pv_out h (by unfold qP qT; omega)
theorem lX5_seconds {w : WW} {n : Int32} {u : MM} (h : Hv (vw u (91 * qP))) {M : Nat} (hM : M ≤ 6) (eM : vw u (91 * qP) 1 = nI M) {Q : Option Value → MM → Prop} (hQ : Q (some (.int (chg (vw u (91 * qP)) (goP (NN n) (vw u (91 * qP))) M))) (pv (mX0_become qT qP u) (91 * qP) (goP (NN n) (vw (mX0_become qT qP u) (91 * qP))))) :
    ∀ (m i : Nat), i + m = M → GX5_seconds w Q 54 [some (.ref (xA w)), some (.int n), some (.int (chg (vw u (91 * qP)) (goP (NN n) (vw u (91 * qP))) i)), some (.int (nI i))] [] (pv (mX0_become qT qP u) (91 * qP) (goP (NN n) (vw (mX0_become qT qP u) (91 * qP)))) := by
  have lP := (bec_Tsc u).lv h.1
  have hP : Hv (vw (mX0_become qT qP u) (91 * qP)) := Hx_lv h lP
  have lT := Tr_lv h.1
  have e1 : goP (NN n) (vw (mX0_become qT qP u) (91 * qP)) 1 = nI M := by rw [(goP_12 _).1, ← lP.2.1]; exact eM
  have eT := vT_pvP (x := mX0_become qT qP u) (fun i hi => goP_hi hP.1 hi (NN n))
  have eS : ∀ i, i < M → se (goP (NN n) (vw (mX0_become qT qP u) (91 * qP))) i 2 = se (goP (NN n) (vw u (91 * qP))) i 2 := fun i hi => (goSe lP h.1 (NN n) (by rw [eM, NN_nI (by omega)]; exact hi)).symm
  have eR : ∀ i, i < M → se (vw (mX0_become qT qP u) (91 * qT)) i 2 = se (vw u (91 * qP)) i 2 := fun i hi => (lT.2.2.2.1 i (by rw [eM, NN_nI (by omega)]; exact hi) 2 (by decide)).symm
  intro m
  induction m with
  | zero =>
    intro i hi
    have e : i = M := by omega
    subst e
    have hle : nI i ≤ nI i := nI_le (Nat.le_refl i) (by omega)
    rw [eX5_seconds_54]
    simp only [eX5_seconds_0, eX5_seconds_1, eX5_seconds_2, eX5_seconds_5, eX5_seconds_8, eX5_seconds_11, eX5_seconds_12, eX5_seconds_13, eX5_seconds_16, eX5_seconds_17, eX5_seconds_18, eX5_seconds_19, eX5_seconds_22, eX5_seconds_25, eX5_seconds_26, eX5_seconds_27, eX5_seconds_30, eX5_seconds_31, eX5_seconds_32, eX5_seconds_35, eX5_seconds_36, eX5_seconds_39, eX5_seconds_42, eX5_seconds_43, eX5_seconds_46, eX5_seconds_47, eX5_seconds_50, eX5_seconds_51, eX5_seconds_52, eX5_seconds_53, eX5_seconds_55, eX5_seconds_56, eX5_seconds_59, eX5_seconds_62, eX5_seconds_65, eX5_seconds_66, eX5_seconds_69, eX5_seconds_72, eX5_seconds_73, eX5_seconds_74, eX5_seconds_77, eX5_seconds_78, eX5_seconds_81, eX5_seconds_84, eX5_seconds_85, eX5_seconds_86, eX5_seconds_89, eX5_seconds_92, eX5_seconds_95, eX5_seconds_98, eX5_seconds_101, eX5_seconds_102, kl_i, kl_r, kl_n, kl_l, true_and, and_true, true_implies, false_implies, not_true_eq_false, not_false_eq_true, i10, Classical.not_not, ok_x0, rfP, ok_x1, rfT, ok_x2, rfK, ok_x3, ix_x3, ok_x4, rf_x4, ok_x5, rf_x5, ok_x6, rf_x6, as_fdd, ai_fdd, xa_fdd, rd_fdd, ok_h0 w hqP, rf_h0 w hqP, ok_h1 w hqP, rf_h1 w hqP, ok_h2 w hqP, ix_h2 w hqP, ok_h3 w hqP, ix_h3 w hqP, ok_h4 w hqP, ix_h4 w hqP, ar_sa w hqP, rf_sa w hqP, ar_oa w hqP, rf_oa w hqP, hw_0, hw_1, hw_2, hu_0, hu_1, hu_2, on_vw, on_f, se_vw, se_f, vw_pv, pv_pv, ost_uI, sst_uI, sit_d, may_d, far_d, stay_d, goe_d, stp_d, hOk_h w hqP, hq_hA, e1, hle]
    exact hQ
  | succ m ih =>
    intro i hi
    have hlt : ¬ nI M ≤ nI i := nI_ge (by omega) (by omega)
    have hs : i < 6 := by omega
    have hvi : vp_in (nI i) 6 := vi_nI hs
    have hN : NN (nI i) = i := NN_nI (by omega)
    have a1 := eS i (by omega)
    have a2 := eR i (by omega)
    have go : ∀ x : Int32, x = chg (vw u (91 * qP)) (goP (NN n) (vw u (91 * qP))) (i + 1) → GX5_seconds w Q 54 [some (.ref (xA w)), some (.int n), some (.int x), some (.int (nI i + 1))] [] (pv (mX0_become qT qP u) (91 * qP) (goP (NN n) (vw (mX0_become qT qP u) (91 * qP)))) := fun x e => by rw [nI_1, e]; exact ih (i + 1) (by omega)
    rw [eX5_seconds_54]
    simp only [eX5_seconds_0, eX5_seconds_1, eX5_seconds_2, eX5_seconds_5, eX5_seconds_8, eX5_seconds_11, eX5_seconds_12, eX5_seconds_13, eX5_seconds_16, eX5_seconds_17, eX5_seconds_18, eX5_seconds_19, eX5_seconds_22, eX5_seconds_25, eX5_seconds_26, eX5_seconds_27, eX5_seconds_30, eX5_seconds_31, eX5_seconds_32, eX5_seconds_35, eX5_seconds_36, eX5_seconds_39, eX5_seconds_42, eX5_seconds_43, eX5_seconds_46, eX5_seconds_47, eX5_seconds_50, eX5_seconds_51, eX5_seconds_52, eX5_seconds_53, eX5_seconds_55, eX5_seconds_56, eX5_seconds_59, eX5_seconds_62, eX5_seconds_65, eX5_seconds_66, eX5_seconds_69, eX5_seconds_72, eX5_seconds_73, eX5_seconds_74, eX5_seconds_77, eX5_seconds_78, eX5_seconds_81, eX5_seconds_84, eX5_seconds_85, eX5_seconds_86, eX5_seconds_89, eX5_seconds_92, eX5_seconds_95, eX5_seconds_98, eX5_seconds_101, eX5_seconds_102, kl_i, kl_r, kl_n, kl_l, true_and, and_true, true_implies, false_implies, not_true_eq_false, not_false_eq_true, i10, Classical.not_not, ok_x0, rfP, ok_x1, rfT, ok_x2, rfK, ok_x3, ix_x3, ok_x4, rf_x4, ok_x5, rf_x5, ok_x6, rf_x6, as_fdd, ai_fdd, xa_fdd, rd_fdd, ok_h0 w hqP, rf_h0 w hqP, ok_h1 w hqP, rf_h1 w hqP, ok_h2 w hqP, ix_h2 w hqP, ok_h3 w hqP, ix_h3 w hqP, ok_h4 w hqP, ix_h4 w hqP, ar_sa w hqP, rf_sa w hqP, ar_oa w hqP, rf_oa w hqP, hw_0, hw_1, hw_2, hu_0, hu_1, hu_2, on_vw, on_f, se_vw, se_f, vw_pv, pv_pv, ost_uI, sst_uI, sit_d, may_d, far_d, stay_d, goe_d, stp_d, hOk_h w hqP, hq_hA, ok_h0 w hqT, rf_h0 w hqT, ok_h1 w hqT, rf_h1 w hqT, ok_h2 w hqT, ix_h2 w hqT, ok_h3 w hqT, ix_h3 w hqT, ok_h4 w hqT, ix_h4 w hqT, ar_sa w hqT, rf_sa w hqT, ar_oa w hqT, rf_oa w hqT, hw_0, hw_1, hw_2, hu_0, hu_1, hu_2, on_vw, on_f, se_vw, se_f, vw_pv, pv_pv, ost_uI, sst_uI, sit_d, may_d, far_d, stay_d, goe_d, stp_d, hOk_h w hqT, hq_hA, e1, hlt, hvi, hN, ok_se0 w hqP hs, ix_se0 w hqP hs, ok_se1 w hqP hs, ix_se1 w hqP hs, ok_se2 w hqP hs, ix_se2 w hqP hs, eOk_se w hqP hs, fo_se w hqP hs, ok_se0 w hqT hs, ix_se0 w hqT hs, ok_se1 w hqT hs, ix_se1 w hqT hs, ok_se2 w hqT hs, ix_se2 w hqT hs, eOk_se w hqT hs, fo_se w hqT hs, eT, a1, a2]
    refine ⟨fun c => go _ ?_, fun c => go _ ?_⟩
    · simp only [chg]; rw [if_pos c.symm, Int32.add_zero]
    · simp only [chg]; rw [if_neg (fun z => c z.symm)]
theorem vX5_seconds (w : WW) : VX5_seconds w := by
  intro n u hw h
  have hI : IX u := h
  have hv : Hv (vw u (91 * qP)) := h.1
  have hO := hv.1
  have hP : Hv (vw (mX0_become qT qP u) (91 * qP)) := Hx_lv hv ((bec_Tsc u).lv hO)
  obtain ⟨M, hM, eM⟩ := hO.1
  have eN : NN (vw u (91 * qP) 1) = M := by rw [eM, NN_nI (by omega)]
  by_cases d : 1 ≤ n ∧ n ≤ 200
  · have d0 : 0 ≤ n ∧ n ≤ 200 := ⟨Int32.le_trans (by decide) d.1, d.2⟩
    simp only [eX5_seconds_0, eX5_seconds_1, eX5_seconds_2, eX5_seconds_5, eX5_seconds_8, eX5_seconds_11, eX5_seconds_12, eX5_seconds_13, eX5_seconds_16, eX5_seconds_17, eX5_seconds_18, eX5_seconds_19, eX5_seconds_22, eX5_seconds_25, eX5_seconds_26, eX5_seconds_27, eX5_seconds_30, eX5_seconds_31, eX5_seconds_32, eX5_seconds_35, eX5_seconds_36, eX5_seconds_39, eX5_seconds_42, eX5_seconds_43, eX5_seconds_46, eX5_seconds_47, eX5_seconds_50, eX5_seconds_51, eX5_seconds_52, eX5_seconds_53, eX5_seconds_55, eX5_seconds_56, eX5_seconds_59, eX5_seconds_62, eX5_seconds_65, eX5_seconds_66, eX5_seconds_69, eX5_seconds_72, eX5_seconds_73, eX5_seconds_74, eX5_seconds_77, eX5_seconds_78, eX5_seconds_81, eX5_seconds_84, eX5_seconds_85, eX5_seconds_86, eX5_seconds_89, eX5_seconds_92, eX5_seconds_95, eX5_seconds_98, eX5_seconds_101, eX5_seconds_102, kl_i, kl_r, kl_n, kl_l, true_and, and_true, true_implies, false_implies, not_true_eq_false, not_false_eq_true, i10, Classical.not_not, ok_x0, rfP, ok_x1, rfT, ok_x2, rfK, ok_x3, ix_x3, ok_x4, rf_x4, ok_x5, rf_x5, ok_x6, rf_x6, as_fdd, ai_fdd, xa_fdd, rd_fdd, ok_h0 w hqP, rf_h0 w hqP, ok_h1 w hqP, rf_h1 w hqP, ok_h2 w hqP, ix_h2 w hqP, ok_h3 w hqP, ix_h3 w hqP, ok_h4 w hqP, ix_h4 w hqP, ar_sa w hqP, rf_sa w hqP, ar_oa w hqP, rf_oa w hqP, hw_0, hw_1, hw_2, hu_0, hu_1, hu_2, on_vw, on_f, se_vw, se_f, vw_pv, pv_pv, ost_uI, sst_uI, sit_d, may_d, far_d, stay_d, goe_d, stp_d, hOk_h w hqP, hq_hA, ok_h0 w hqT, rf_h0 w hqT, ok_h1 w hqT, rf_h1 w hqT, ok_h2 w hqT, ix_h2 w hqT, ok_h3 w hqT, ix_h3 w hqT, ok_h4 w hqT, ix_h4 w hqT, ar_sa w hqT, rf_sa w hqT, ar_oa w hqT, rf_oa w hqT, hw_0, hw_1, hw_2, hu_0, hu_1, hu_2, on_vw, on_f, se_vw, se_f, vw_pv, pv_pv, ost_uI, sst_uI, sit_d, may_d, far_d, stay_d, goe_d, stp_d, hOk_h w hqT, hq_hA, pX5_finding, mX5_finding, rfx0, rfx1, rfx2, rfx3, rfx4, rfx5, rfx6, N_0, N_1, N_2, N_3, N_4, N_5, N_6, v7_0, v7_1, v7_2, v7_3, v7_4, v7_5, v7_6, bi_0, pX5_isFromTo, rX5_isFromTo, bi_t d, pX5_isTooLateFor, eq_true hI, eq_true d0, rX5_isTooLateFor, pX0_become, neTP, eq_true hO, pX0_pass, hw, eq_true hP, mX0_pass, rX5_seconds, mX5_seconds]
    refine ⟨fun f => ?_, fun f => toV (xl4 ?_)⟩
    · refine lX5_seconds hv hM eM (toV (xlr (S := goP (NN n) (vw u (91 * qP))) ?_)) M 0 (by omega)
      rw [oSeconds, if_neg (fun z => z d), if_neg f, eN]
    · rw [oSeconds, if_neg (fun z => z d), if_pos f]
  · simp only [eX5_seconds_0, eX5_seconds_1, eX5_seconds_2, eX5_seconds_5, eX5_seconds_8, eX5_seconds_11, eX5_seconds_12, eX5_seconds_13, eX5_seconds_16, eX5_seconds_17, eX5_seconds_18, eX5_seconds_19, eX5_seconds_22, eX5_seconds_25, eX5_seconds_26, eX5_seconds_27, eX5_seconds_30, eX5_seconds_31, eX5_seconds_32, eX5_seconds_35, eX5_seconds_36, eX5_seconds_39, eX5_seconds_42, eX5_seconds_43, eX5_seconds_46, eX5_seconds_47, eX5_seconds_50, eX5_seconds_51, eX5_seconds_52, eX5_seconds_53, eX5_seconds_55, eX5_seconds_56, eX5_seconds_59, eX5_seconds_62, eX5_seconds_65, eX5_seconds_66, eX5_seconds_69, eX5_seconds_72, eX5_seconds_73, eX5_seconds_74, eX5_seconds_77, eX5_seconds_78, eX5_seconds_81, eX5_seconds_84, eX5_seconds_85, eX5_seconds_86, eX5_seconds_89, eX5_seconds_92, eX5_seconds_95, eX5_seconds_98, eX5_seconds_101, eX5_seconds_102, kl_i, kl_r, kl_n, kl_l, true_and, and_true, true_implies, false_implies, not_true_eq_false, not_false_eq_true, i10, Classical.not_not, ok_x0, rfP, ok_x1, rfT, ok_x2, rfK, ok_x3, ix_x3, ok_x4, rf_x4, ok_x5, rf_x5, ok_x6, rf_x6, as_fdd, ai_fdd, xa_fdd, rd_fdd, ok_h0 w hqP, rf_h0 w hqP, ok_h1 w hqP, rf_h1 w hqP, ok_h2 w hqP, ix_h2 w hqP, ok_h3 w hqP, ix_h3 w hqP, ok_h4 w hqP, ix_h4 w hqP, ar_sa w hqP, rf_sa w hqP, ar_oa w hqP, rf_oa w hqP, hw_0, hw_1, hw_2, hu_0, hu_1, hu_2, on_vw, on_f, se_vw, se_f, vw_pv, pv_pv, ost_uI, sst_uI, sit_d, may_d, far_d, stay_d, goe_d, stp_d, hOk_h w hqP, hq_hA, pX5_finding, mX5_finding, rfx0, rfx1, rfx2, rfx3, rfx4, rfx5, rfx6, N_0, N_1, N_2, N_3, N_4, N_5, N_6, v7_0, v7_1, v7_2, v7_3, v7_4, v7_5, v7_6, pX5_isFromTo, rX5_isFromTo, bi_f d, rX5_seconds, mX5_seconds, Option.some.injEq, Value.int.injEq]
    exact xl0 (by rw [oSeconds, if_pos d])
set_option maxRecDepth 20000 in
theorem KX5_seconds_ok (w : WW) : KOk w MX5_seconds (KX5_seconds w) := KOk_mk flX5_ok ciX5_ok clX5_ok (fun _ _ h => by cases h) (fun _ _ h => by cases h) (List.forall_mem_cons.mpr ⟨itV (n := 52) (by decide) (COk_V (n := 1) (ci := 5) (ctX5_finding w) wcX5_52 nmX5_finding (by decide) (by decide) rfl (prX5_finding w)), List.forall_mem_cons.mpr ⟨itV (n := 169) (by decide) (COk_V (n := 1) (ci := 5) (ctX5_isTooLateFor w) wcX5_169 nmX5_isTooLateFor (by decide) (by decide) rfl (prX5_isTooLateFor w)), List.forall_mem_cons.mpr ⟨itV (n := 172) (by decide) (COk_V (n := 1) (ci := 0) (ctX0_become w) wcX5_172 nmX0_become (by decide) (by decide) rfl (prX0_become w)), List.forall_mem_cons.mpr ⟨itV (n := 176) (by decide) (COk_V (n := 1) (ci := 0) (ctX0_pass w) wcX5_176 nmX0_pass (by decide) (by decide) rfl (prX0_pass w)), List.forall_mem_cons.mpr ⟨itS (n := 48) (COk_S (n := 3) (ctX5_isFromTo w) wcX5_65584 nmX5_isFromTo (by decide)), List.forall_mem_nil _⟩⟩⟩⟩⟩)
theorem ctX5_seconds (w : WW) : CT w yX5_seconds MX5_seconds (csX5_seconds w).2.1 (csX5_seconds w).2.2 := by
  refine CT_of (by decide) rfl TX5_seconds_ok TX5_seconds_v (KX5_seconds_ok w) (fun as u h => ?_)
  obtain ⟨a0, a1, rfl, h⟩ := sgRI h
  obtain ⟨rfl, hwok, hh⟩ := h
  refine ⟨Nat.le_of_ble_eq_true rfl, ?_⟩
  have key := vX5_seconds w a1 u hwok hh
  exact key
theorem prX5_seconds (w : WW) : ∀ as u, (csX5_seconds w).2.1 as u → ∃ a r, as = .ref a :: r ∧ r.length = 1 ∧ okO w a 5 := by
  intro as u h
  obtain ⟨a0, a1, rfl, h⟩ := sgRI h
  exact ⟨_, _, rfl, rfl, okO_x h⟩
theorem pass1 (u : MM) (R : Nat → Int32) : mX0_pass qT 1 (stT u R) = stT u (secP R) := by
  unfold mX0_pass
  rw [vw_stT, pv_stT, N_1]; rfl
theorem vX5_gets (w : WW) : VX5_gets w := by
  intro c s u hw h
  have hI : IX u := h
  have hv : Hv (vw u (91 * qP)) := h.1
  have hO := hv.1
  have hT := Tr_Hv hv
  have l := Tr_lv hO
  have d0 : (0 : Int32) ≤ 200 ∧ (200 : Int32) ≤ 200 := ⟨by decide, by decide⟩
  by_cases c1 : isOn (vw u (91 * qP)) c
  · by_cases c2 : isSt (vw u (91 * qP)) s
    · have hs := (isSt_vi hO).mp c2
      have h6 : vp_in s 6 := vi_mono hs hO.M.1
      have hs6 : NN s < 6 := vi_lt h6
      simp only [eX5_gets_0, eX5_gets_1, eX5_gets_2, eX5_gets_5, eX5_gets_8, eX5_gets_9, eX5_gets_10, eX5_gets_13, eX5_gets_16, eX5_gets_17, eX5_gets_18, eX5_gets_21, eX5_gets_22, eX5_gets_23, eX5_gets_26, eX5_gets_29, eX5_gets_32, eX5_gets_33, eX5_gets_34, eX5_gets_37, eX5_gets_38, eX5_gets_39, eX5_gets_42, eX5_gets_43, eX5_gets_46, eX5_gets_49, eX5_gets_50, eX5_gets_52, eX5_gets_55, eX5_gets_58, eX5_gets_59, eX5_gets_62, eX5_gets_65, eX5_gets_66, eX5_gets_67, eX5_gets_70, eX5_gets_71, eX5_gets_74, eX5_gets_75, eX5_gets_76, eX5_gets_77, eX5_gets_80, eX5_gets_81, eX5_gets_84, eX5_gets_87, eX5_gets_90, eX5_gets_91, eX5_gets_92, eX5_gets_95, kl_i, kl_r, kl_n, kl_l, true_and, and_true, true_implies, false_implies, not_true_eq_false, not_false_eq_true, i10, Classical.not_not, ok_x0, rfP, ok_x1, rfT, ok_x2, rfK, ok_x3, ix_x3, ok_x4, rf_x4, ok_x5, rf_x5, ok_x6, rf_x6, as_fdd, ai_fdd, xa_fdd, rd_fdd, ok_h0 w hqP, rf_h0 w hqP, ok_h1 w hqP, rf_h1 w hqP, ok_h2 w hqP, ix_h2 w hqP, ok_h3 w hqP, ix_h3 w hqP, ok_h4 w hqP, ix_h4 w hqP, ar_sa w hqP, rf_sa w hqP, ar_oa w hqP, rf_oa w hqP, hw_0, hw_1, hw_2, hu_0, hu_1, hu_2, on_vw, on_f, se_vw, se_f, vw_pv, pv_pv, ost_uI, sst_uI, sit_d, may_d, far_d, stay_d, goe_d, stp_d, hOk_h w hqP, hq_hA, ok_h0 w hqT, rf_h0 w hqT, ok_h1 w hqT, rf_h1 w hqT, ok_h2 w hqT, ix_h2 w hqT, ok_h3 w hqT, ix_h3 w hqT, ok_h4 w hqT, ix_h4 w hqT, ar_sa w hqT, rf_sa w hqT, ar_oa w hqT, rf_oa w hqT, hw_0, hw_1, hw_2, hu_0, hu_1, hu_2, on_vw, on_f, se_vw, se_f, vw_pv, pv_pv, ost_uI, sst_uI, sit_d, may_d, far_d, stay_d, goe_d, stp_d, hOk_h w hqT, hq_hA, pX5_finding, mX5_finding, rfx0, rfx1, rfx2, rfx3, rfx4, rfx5, rfx6, N_0, N_1, N_2, N_3, N_4, N_5, N_6, v7_0, v7_1, v7_2, v7_3, v7_4, v7_5, v7_6, pX5_isOne, rX5_isOne, bi_t c1, pX5_isSeat, rX5_isSeat, bi_t c2, bi_0, pX5_isTooLateFor, eq_true hI, eq_true d0, rX5_isTooLateFor, pX0_become, neTP, eq_true hO, rX5_gets, mX5_gets]
      refine ⟨fun c3 => ?_, fun c3 => toV (xl4 (by rw [oGets, if_neg (fun z => z ⟨c1, c2⟩), if_pos c3]))⟩
      have key : ∀ (f n : Nat), n + f = 201 → getN (vw u (91 * qP)) (NN s) c n f = getN (vw u (91 * qP)) (NN s) c 0 201 → GX5_gets w (fun r u' => r = some (.int (an (oGets (vw u (91 * qP)) c s))) ∧ u' = mlX (oGets (vw u (91 * qP)) c s) u (stT u (goP (getN (vw u (91 * qP)) (NN s) c 0 201) (Tr u)))) 51 [some (.ref (xA w)), some (.int c), some (.int s), some (.int (nI n))] [] (stT u (goP n (Tr u))) := by
        intro f
        induction f with
        | zero =>
          intro n hn e
          have e3 : n = 201 := by omega
          subst e3
          have hgt : 200 < nI 201 := by decide
          have e4 : getN (vw u (91 * qP)) (NN s) c 0 201 = 201 := e.symm.trans rfl
          rw [eX5_gets_51]
          simp only [eX5_gets_0, eX5_gets_1, eX5_gets_2, eX5_gets_5, eX5_gets_8, eX5_gets_9, eX5_gets_10, eX5_gets_13, eX5_gets_16, eX5_gets_17, eX5_gets_18, eX5_gets_21, eX5_gets_22, eX5_gets_23, eX5_gets_26, eX5_gets_29, eX5_gets_32, eX5_gets_33, eX5_gets_34, eX5_gets_37, eX5_gets_38, eX5_gets_39, eX5_gets_42, eX5_gets_43, eX5_gets_46, eX5_gets_49, eX5_gets_50, eX5_gets_52, eX5_gets_55, eX5_gets_58, eX5_gets_59, eX5_gets_62, eX5_gets_65, eX5_gets_66, eX5_gets_67, eX5_gets_70, eX5_gets_71, eX5_gets_74, eX5_gets_75, eX5_gets_76, eX5_gets_77, eX5_gets_80, eX5_gets_81, eX5_gets_84, eX5_gets_87, eX5_gets_90, eX5_gets_91, eX5_gets_92, eX5_gets_95, kl_i, kl_r, kl_n, kl_l, true_and, and_true, true_implies, false_implies, not_true_eq_false, not_false_eq_true, i10, Classical.not_not, hgt, pX5_finding, mX5_finding, rfx0, rfx1, rfx2, rfx3, rfx4, rfx5, rfx6, N_0, N_1, N_2, N_3, N_4, N_5, N_6, v7_0, v7_1, v7_2, v7_3, v7_4, v7_5, v7_6, Option.some.injEq, Value.int.injEq, e4]
          exact xl3 (by rw [oGets, if_neg (fun z => z ⟨c1, c2⟩), if_neg c3, if_pos (by omega)])
        | succ f ih =>
          intro n hn e
          have hle2 : ¬ 200 < nI n := Int32.not_lt.mpr (nI_le (a := n) (b := 200) (by omega) (by decide))
          rw [getN] at e
          have e5 := (goSe l hO n (vi_lt hs)).symm
          have hG : Hv (goP n (Tr u)) := goP_Hv hT n
          rw [eX5_gets_51]
          simp only [eX5_gets_0, eX5_gets_1, eX5_gets_2, eX5_gets_5, eX5_gets_8, eX5_gets_9, eX5_gets_10, eX5_gets_13, eX5_gets_16, eX5_gets_17, eX5_gets_18, eX5_gets_21, eX5_gets_22, eX5_gets_23, eX5_gets_26, eX5_gets_29, eX5_gets_32, eX5_gets_33, eX5_gets_34, eX5_gets_37, eX5_gets_38, eX5_gets_39, eX5_gets_42, eX5_gets_43, eX5_gets_46, eX5_gets_49, eX5_gets_50, eX5_gets_52, eX5_gets_55, eX5_gets_58, eX5_gets_59, eX5_gets_62, eX5_gets_65, eX5_gets_66, eX5_gets_67, eX5_gets_70, eX5_gets_71, eX5_gets_74, eX5_gets_75, eX5_gets_76, eX5_gets_77, eX5_gets_80, eX5_gets_81, eX5_gets_84, eX5_gets_87, eX5_gets_90, eX5_gets_91, eX5_gets_92, eX5_gets_95, kl_i, kl_r, kl_n, kl_l, true_and, and_true, true_implies, false_implies, not_true_eq_false, not_false_eq_true, i10, Classical.not_not, ok_x0, rfP, ok_x1, rfT, ok_x2, rfK, ok_x3, ix_x3, ok_x4, rf_x4, ok_x5, rf_x5, ok_x6, rf_x6, as_fdd, ai_fdd, xa_fdd, rd_fdd, ok_h0 w hqT, rf_h0 w hqT, ok_h1 w hqT, rf_h1 w hqT, ok_h2 w hqT, ix_h2 w hqT, ok_h3 w hqT, ix_h3 w hqT, ok_h4 w hqT, ix_h4 w hqT, ar_sa w hqT, rf_sa w hqT, ar_oa w hqT, rf_oa w hqT, hw_0, hw_1, hw_2, hu_0, hu_1, hu_2, on_vw, on_f, se_vw, se_f, vw_pv, pv_pv, ost_uI, sst_uI, sit_d, may_d, far_d, stay_d, goe_d, stp_d, hOk_h w hqT, hq_hA, hle2, h6, ok_se0 w hqT hs6, ix_se0 w hqT hs6, ok_se1 w hqT hs6, ix_se1 w hqT hs6, ok_se2 w hqT hs6, ix_se2 w hqT hs6, eOk_se w hqT hs6, fo_se w hqT hs6, vw_stT, e5, pX0_pass, hw, eq_true hG, pass1, Option.some.injEq, Value.int.injEq]
          refine ⟨fun d => ?_, fun d => ?_⟩
          · rw [if_neg d] at e
            rw [nI_1]
            exact ih (n + 1) (by omega) e
          · rw [if_pos d] at e
            rw [← e]
            refine xlr (S := vw u (91 * qP)) ?_
            rw [oGets, if_neg (fun z => z ⟨c1, c2⟩), if_neg c3, ← e, if_neg (by omega)]
      have := key 201 0 (by omega) rfl
      rw [show stT u (goP 0 (Tr u)) = mX0_become qT qP u from pv_vw _ _] at this
      exact this
    · simp only [eX5_gets_0, eX5_gets_1, eX5_gets_2, eX5_gets_5, eX5_gets_8, eX5_gets_9, eX5_gets_10, eX5_gets_13, eX5_gets_16, eX5_gets_17, eX5_gets_18, eX5_gets_21, eX5_gets_22, eX5_gets_23, eX5_gets_26, eX5_gets_29, eX5_gets_32, eX5_gets_33, eX5_gets_34, eX5_gets_37, eX5_gets_38, eX5_gets_39, eX5_gets_42, eX5_gets_43, eX5_gets_46, eX5_gets_49, eX5_gets_50, eX5_gets_52, eX5_gets_55, eX5_gets_58, eX5_gets_59, eX5_gets_62, eX5_gets_65, eX5_gets_66, eX5_gets_67, eX5_gets_70, eX5_gets_71, eX5_gets_74, eX5_gets_75, eX5_gets_76, eX5_gets_77, eX5_gets_80, eX5_gets_81, eX5_gets_84, eX5_gets_87, eX5_gets_90, eX5_gets_91, eX5_gets_92, eX5_gets_95, kl_i, kl_r, kl_n, kl_l, true_and, and_true, true_implies, false_implies, not_true_eq_false, not_false_eq_true, i10, Classical.not_not, ok_x0, rfP, ok_x1, rfT, ok_x2, rfK, ok_x3, ix_x3, ok_x4, rf_x4, ok_x5, rf_x5, ok_x6, rf_x6, as_fdd, ai_fdd, xa_fdd, rd_fdd, ok_h0 w hqP, rf_h0 w hqP, ok_h1 w hqP, rf_h1 w hqP, ok_h2 w hqP, ix_h2 w hqP, ok_h3 w hqP, ix_h3 w hqP, ok_h4 w hqP, ix_h4 w hqP, ar_sa w hqP, rf_sa w hqP, ar_oa w hqP, rf_oa w hqP, hw_0, hw_1, hw_2, hu_0, hu_1, hu_2, on_vw, on_f, se_vw, se_f, vw_pv, pv_pv, ost_uI, sst_uI, sit_d, may_d, far_d, stay_d, goe_d, stp_d, hOk_h w hqP, hq_hA, pX5_finding, mX5_finding, rfx0, rfx1, rfx2, rfx3, rfx4, rfx5, rfx6, N_0, N_1, N_2, N_3, N_4, N_5, N_6, v7_0, v7_1, v7_2, v7_3, v7_4, v7_5, v7_6, pX5_isOne, rX5_isOne, bi_t c1, pX5_isSeat, rX5_isSeat, bi_f c2, rX5_gets, mX5_gets, Option.some.injEq, Value.int.injEq]
      exact xl0 (by rw [oGets, if_pos (fun z => c2 z.2)])
  · simp only [eX5_gets_0, eX5_gets_1, eX5_gets_2, eX5_gets_5, eX5_gets_8, eX5_gets_9, eX5_gets_10, eX5_gets_13, eX5_gets_16, eX5_gets_17, eX5_gets_18, eX5_gets_21, eX5_gets_22, eX5_gets_23, eX5_gets_26, eX5_gets_29, eX5_gets_32, eX5_gets_33, eX5_gets_34, eX5_gets_37, eX5_gets_38, eX5_gets_39, eX5_gets_42, eX5_gets_43, eX5_gets_46, eX5_gets_49, eX5_gets_50, eX5_gets_52, eX5_gets_55, eX5_gets_58, eX5_gets_59, eX5_gets_62, eX5_gets_65, eX5_gets_66, eX5_gets_67, eX5_gets_70, eX5_gets_71, eX5_gets_74, eX5_gets_75, eX5_gets_76, eX5_gets_77, eX5_gets_80, eX5_gets_81, eX5_gets_84, eX5_gets_87, eX5_gets_90, eX5_gets_91, eX5_gets_92, eX5_gets_95, kl_i, kl_r, kl_n, kl_l, true_and, and_true, true_implies, false_implies, not_true_eq_false, not_false_eq_true, i10, Classical.not_not, ok_x0, rfP, ok_x1, rfT, ok_x2, rfK, ok_x3, ix_x3, ok_x4, rf_x4, ok_x5, rf_x5, ok_x6, rf_x6, as_fdd, ai_fdd, xa_fdd, rd_fdd, ok_h0 w hqP, rf_h0 w hqP, ok_h1 w hqP, rf_h1 w hqP, ok_h2 w hqP, ix_h2 w hqP, ok_h3 w hqP, ix_h3 w hqP, ok_h4 w hqP, ix_h4 w hqP, ar_sa w hqP, rf_sa w hqP, ar_oa w hqP, rf_oa w hqP, hw_0, hw_1, hw_2, hu_0, hu_1, hu_2, on_vw, on_f, se_vw, se_f, vw_pv, pv_pv, ost_uI, sst_uI, sit_d, may_d, far_d, stay_d, goe_d, stp_d, hOk_h w hqP, hq_hA, pX5_finding, mX5_finding, rfx0, rfx1, rfx2, rfx3, rfx4, rfx5, rfx6, N_0, N_1, N_2, N_3, N_4, N_5, N_6, v7_0, v7_1, v7_2, v7_3, v7_4, v7_5, v7_6, pX5_isOne, rX5_isOne, bi_f c1, rX5_gets, mX5_gets, Option.some.injEq, Value.int.injEq]
    exact xl0 (by rw [oGets, if_pos (fun z => c1 z.1)])
set_option maxRecDepth 20000 in
theorem KX5_gets_ok (w : WW) : KOk w MX5_gets (KX5_gets w) := KOk_mk flX5_ok ciX5_ok clX5_ok (fun _ _ h => by cases h) (fun _ _ h => by cases h) (List.forall_mem_cons.mpr ⟨itV (n := 52) (by decide) (COk_V (n := 1) (ci := 5) (ctX5_finding w) wcX5_52 nmX5_finding (by decide) (by decide) rfl (prX5_finding w)), List.forall_mem_cons.mpr ⟨itV (n := 67) (by decide) (COk_V (n := 1) (ci := 5) (ctX5_isSeat w) wcX5_67 nmX5_isSeat (by decide) (by decide) rfl (prX5_isSeat w)), List.forall_mem_cons.mpr ⟨itV (n := 99) (by decide) (COk_V (n := 1) (ci := 5) (ctX5_isOne w) wcX5_99 nmX5_isOne (by decide) (by decide) rfl (prX5_isOne w)), List.forall_mem_cons.mpr ⟨itV (n := 169) (by decide) (COk_V (n := 1) (ci := 5) (ctX5_isTooLateFor w) wcX5_169 nmX5_isTooLateFor (by decide) (by decide) rfl (prX5_isTooLateFor w)), List.forall_mem_cons.mpr ⟨itV (n := 172) (by decide) (COk_V (n := 1) (ci := 0) (ctX0_become w) wcX5_172 nmX0_become (by decide) (by decide) rfl (prX0_become w)), List.forall_mem_cons.mpr ⟨itV (n := 176) (by decide) (COk_V (n := 1) (ci := 0) (ctX0_pass w) wcX5_176 nmX0_pass (by decide) (by decide) rfl (prX0_pass w)), List.forall_mem_nil _⟩⟩⟩⟩⟩⟩)
theorem ctX5_gets (w : WW) : CT w yX5_gets MX5_gets (csX5_gets w).2.1 (csX5_gets w).2.2 := by
  refine CT_of (by decide) rfl TX5_gets_ok TX5_gets_v (KX5_gets_ok w) (fun as u h => ?_)
  obtain ⟨a0, a1, a2, rfl, h⟩ := sgRII h
  obtain ⟨rfl, hwok, hh⟩ := h
  refine ⟨Nat.le_of_ble_eq_true rfl, ?_⟩
  have key := vX5_gets w a1 a2 u hwok hh
  exact key
theorem prX5_gets (w : WW) : ∀ as u, (csX5_gets w).2.1 as u → ∃ a r, as = .ref a :: r ∧ r.length = 2 ∧ okO w a 5 := by
  intro as u h
  obtain ⟨a0, a1, a2, rfl, h⟩ := sgRII h
  exact ⟨_, _, rfl, rfl, okO_x h⟩
theorem vX5_rich (w : WW) : VX5_rich w := by
  intro n u hw h
  have hI : IX u := h
  have hv : Hv (vw u (91 * qP)) := h.1
  have hO := hv.1
  have hT := Tr_Hv hv
  have l := Tr_lv hO
  have hK := hO.K
  have lg := goP_lv l hO (NN n)
  by_cases d : 0 ≤ n ∧ n ≤ 200
  · by_cases k0 : vw u (91 * qP) 2 = 0
    · simp only [eX5_rich_0, eX5_rich_1, eX5_rich_2, eX5_rich_5, eX5_rich_8, eX5_rich_11, eX5_rich_12, eX5_rich_13, eX5_rich_16, eX5_rich_17, eX5_rich_18, eX5_rich_19, eX5_rich_22, eX5_rich_25, eX5_rich_26, eX5_rich_27, eX5_rich_30, eX5_rich_31, eX5_rich_32, eX5_rich_35, eX5_rich_38, eX5_rich_41, eX5_rich_42, eX5_rich_43, eX5_rich_46, eX5_rich_47, eX5_rich_48, eX5_rich_51, eX5_rich_52, eX5_rich_55, eX5_rich_58, eX5_rich_59, eX5_rich_62, eX5_rich_63, eX5_rich_66, eX5_rich_67, eX5_rich_70, eX5_rich_73, kl_i, kl_r, kl_n, kl_l, true_and, and_true, true_implies, false_implies, not_true_eq_false, not_false_eq_true, i10, Classical.not_not, ok_x0, rfP, ok_x1, rfT, ok_x2, rfK, ok_x3, ix_x3, ok_x4, rf_x4, ok_x5, rf_x5, ok_x6, rf_x6, as_fdd, ai_fdd, xa_fdd, rd_fdd, ok_h0 w hqP, rf_h0 w hqP, ok_h1 w hqP, rf_h1 w hqP, ok_h2 w hqP, ix_h2 w hqP, ok_h3 w hqP, ix_h3 w hqP, ok_h4 w hqP, ix_h4 w hqP, ar_sa w hqP, rf_sa w hqP, ar_oa w hqP, rf_oa w hqP, hw_0, hw_1, hw_2, hu_0, hu_1, hu_2, on_vw, on_f, se_vw, se_f, vw_pv, pv_pv, ost_uI, sst_uI, sit_d, may_d, far_d, stay_d, goe_d, stp_d, hOk_h w hqP, hq_hA, ok_h0 w hqT, rf_h0 w hqT, ok_h1 w hqT, rf_h1 w hqT, ok_h2 w hqT, ix_h2 w hqT, ok_h3 w hqT, ix_h3 w hqT, ok_h4 w hqT, ix_h4 w hqT, ar_sa w hqT, rf_sa w hqT, ar_oa w hqT, rf_oa w hqT, hw_0, hw_1, hw_2, hu_0, hu_1, hu_2, on_vw, on_f, se_vw, se_f, vw_pv, pv_pv, ost_uI, sst_uI, sit_d, may_d, far_d, stay_d, goe_d, stp_d, hOk_h w hqT, hq_hA, pX5_finding, mX5_finding, rfx0, rfx1, rfx2, rfx3, rfx4, rfx5, rfx6, N_0, N_1, N_2, N_3, N_4, N_5, N_6, v7_0, v7_1, v7_2, v7_3, v7_4, v7_5, v7_6, bi_0, pX5_isFromTo, rX5_isFromTo, bi_t d, pX5_isTooLateFor, eq_true hI, d, rX5_isTooLateFor, k0, rX5_rich, mX5_rich, Option.some.injEq, Value.int.injEq]
      refine ⟨fun f => xo3 ?_, fun f => xo4 ?_⟩
      · rw [oRich, if_neg (fun z => z d), if_neg f, k0, N_0, if_pos (show richN _ 0 < 0 from neg1)]
      · rw [oRich, if_neg (fun z => z d), if_pos f]
    · have kp : 0 < NN (vw u (91 * qP) 2) := Nat.pos_of_ne_zero (fun z => k0 (by rw [hK.2, z]; rfl))
      have e2 : goP (NN n) (Tr u) 2 = vw u (91 * qP) 2 := (goP_12 _).2.trans l.2.2.1.symm
      have hc : crtOk (goP (NN n) (Tr u)) := (goP_Ok hT.1 _).crt
      have hr : richN (goP (NN n) (Tr u)) (NN (vw u (91 * qP) 2)) = richN (goP (NN n) (vw u (91 * qP))) (NN (vw u (91 * qP) 2)) := richN_lv lg (by rw [(goP_12 _).2]; omega) _ (by rw [(goP_12 _).2]; exact Nat.le_refl _)
      have hn : ¬ richN (goP (NN n) (vw u (91 * qP))) (NN (vw u (91 * qP) 2)) < 0 := by
        obtain ⟨x, x1, x2⟩ := richN_r1 (goP (NN n) (vw u (91 * qP))) (NN (vw u (91 * qP) 2) - 1)
        rw [show NN (vw u (91 * qP) 2) - 1 + 1 = NN (vw u (91 * qP) 2) by omega] at x2
        rw [x2]; exact nI_pos (by omega)
      simp only [eX5_rich_0, eX5_rich_1, eX5_rich_2, eX5_rich_5, eX5_rich_8, eX5_rich_11, eX5_rich_12, eX5_rich_13, eX5_rich_16, eX5_rich_17, eX5_rich_18, eX5_rich_19, eX5_rich_22, eX5_rich_25, eX5_rich_26, eX5_rich_27, eX5_rich_30, eX5_rich_31, eX5_rich_32, eX5_rich_35, eX5_rich_38, eX5_rich_41, eX5_rich_42, eX5_rich_43, eX5_rich_46, eX5_rich_47, eX5_rich_48, eX5_rich_51, eX5_rich_52, eX5_rich_55, eX5_rich_58, eX5_rich_59, eX5_rich_62, eX5_rich_63, eX5_rich_66, eX5_rich_67, eX5_rich_70, eX5_rich_73, kl_i, kl_r, kl_n, kl_l, true_and, and_true, true_implies, false_implies, not_true_eq_false, not_false_eq_true, i10, Classical.not_not, ok_x0, rfP, ok_x1, rfT, ok_x2, rfK, ok_x3, ix_x3, ok_x4, rf_x4, ok_x5, rf_x5, ok_x6, rf_x6, as_fdd, ai_fdd, xa_fdd, rd_fdd, ok_h0 w hqP, rf_h0 w hqP, ok_h1 w hqP, rf_h1 w hqP, ok_h2 w hqP, ix_h2 w hqP, ok_h3 w hqP, ix_h3 w hqP, ok_h4 w hqP, ix_h4 w hqP, ar_sa w hqP, rf_sa w hqP, ar_oa w hqP, rf_oa w hqP, hw_0, hw_1, hw_2, hu_0, hu_1, hu_2, on_vw, on_f, se_vw, se_f, vw_pv, pv_pv, ost_uI, sst_uI, sit_d, may_d, far_d, stay_d, goe_d, stp_d, hOk_h w hqP, hq_hA, ok_h0 w hqT, rf_h0 w hqT, ok_h1 w hqT, rf_h1 w hqT, ok_h2 w hqT, ix_h2 w hqT, ok_h3 w hqT, ix_h3 w hqT, ok_h4 w hqT, ix_h4 w hqT, ar_sa w hqT, rf_sa w hqT, ar_oa w hqT, rf_oa w hqT, hw_0, hw_1, hw_2, hu_0, hu_1, hu_2, on_vw, on_f, se_vw, se_f, vw_pv, pv_pv, ost_uI, sst_uI, sit_d, may_d, far_d, stay_d, goe_d, stp_d, hOk_h w hqT, hq_hA, pX5_finding, mX5_finding, rfx0, rfx1, rfx2, rfx3, rfx4, rfx5, rfx6, N_0, N_1, N_2, N_3, N_4, N_5, N_6, v7_0, v7_1, v7_2, v7_3, v7_4, v7_5, v7_6, bi_0, pX5_isFromTo, rX5_isFromTo, bi_t d, pX5_isTooLateFor, eq_true hI, d, rX5_isTooLateFor, k0, pX0_become, neTP, eq_true hO, pX0_pass, hw, eq_true hT, pass_bec, vw_stT, pX0_richest, rX0_richest, eq_true hc, e2, kp, hr, rX5_rich, mX5_rich, Option.some.injEq, Value.int.injEq]
      refine ⟨fun f => xor_ (S := vw u (91 * qP)) ?_, fun f => xo4 ?_⟩
      · rw [oRich, if_neg (fun z => z d), if_neg f, if_neg hn]
      · rw [oRich, if_neg (fun z => z d), if_pos f]
  · simp only [eX5_rich_0, eX5_rich_1, eX5_rich_2, eX5_rich_5, eX5_rich_8, eX5_rich_11, eX5_rich_12, eX5_rich_13, eX5_rich_16, eX5_rich_17, eX5_rich_18, eX5_rich_19, eX5_rich_22, eX5_rich_25, eX5_rich_26, eX5_rich_27, eX5_rich_30, eX5_rich_31, eX5_rich_32, eX5_rich_35, eX5_rich_38, eX5_rich_41, eX5_rich_42, eX5_rich_43, eX5_rich_46, eX5_rich_47, eX5_rich_48, eX5_rich_51, eX5_rich_52, eX5_rich_55, eX5_rich_58, eX5_rich_59, eX5_rich_62, eX5_rich_63, eX5_rich_66, eX5_rich_67, eX5_rich_70, eX5_rich_73, kl_i, kl_r, kl_n, kl_l, true_and, and_true, true_implies, false_implies, not_true_eq_false, not_false_eq_true, i10, Classical.not_not, ok_x0, rfP, ok_x1, rfT, ok_x2, rfK, ok_x3, ix_x3, ok_x4, rf_x4, ok_x5, rf_x5, ok_x6, rf_x6, as_fdd, ai_fdd, xa_fdd, rd_fdd, ok_h0 w hqP, rf_h0 w hqP, ok_h1 w hqP, rf_h1 w hqP, ok_h2 w hqP, ix_h2 w hqP, ok_h3 w hqP, ix_h3 w hqP, ok_h4 w hqP, ix_h4 w hqP, ar_sa w hqP, rf_sa w hqP, ar_oa w hqP, rf_oa w hqP, hw_0, hw_1, hw_2, hu_0, hu_1, hu_2, on_vw, on_f, se_vw, se_f, vw_pv, pv_pv, ost_uI, sst_uI, sit_d, may_d, far_d, stay_d, goe_d, stp_d, hOk_h w hqP, hq_hA, pX5_finding, mX5_finding, rfx0, rfx1, rfx2, rfx3, rfx4, rfx5, rfx6, N_0, N_1, N_2, N_3, N_4, N_5, N_6, v7_0, v7_1, v7_2, v7_3, v7_4, v7_5, v7_6, pX5_isFromTo, rX5_isFromTo, bi_f d, rX5_rich, mX5_rich, Option.some.injEq, Value.int.injEq]
    exact xo0 (by rw [oRich, if_pos d])
theorem wcX5_199 : ∀ x ∈ wV1 RX5 199 yX0_richest MX0_richest, x ∈ Gt := by decide +kernel
theorem nmX0_richest : nmOk yX0_richest 0 = true := by decide +kernel
set_option maxRecDepth 20000 in
theorem KX5_rich_ok (w : WW) : KOk w MX5_rich (KX5_rich w) := KOk_mk flX5_ok ciX5_ok clX5_ok (fun _ _ h => by cases h) (fun _ _ h => by cases h) (List.forall_mem_cons.mpr ⟨itV (n := 52) (by decide) (COk_V (n := 1) (ci := 5) (ctX5_finding w) wcX5_52 nmX5_finding (by decide) (by decide) rfl (prX5_finding w)), List.forall_mem_cons.mpr ⟨itV (n := 169) (by decide) (COk_V (n := 1) (ci := 5) (ctX5_isTooLateFor w) wcX5_169 nmX5_isTooLateFor (by decide) (by decide) rfl (prX5_isTooLateFor w)), List.forall_mem_cons.mpr ⟨itV (n := 172) (by decide) (COk_V (n := 1) (ci := 0) (ctX0_become w) wcX5_172 nmX0_become (by decide) (by decide) rfl (prX0_become w)), List.forall_mem_cons.mpr ⟨itV (n := 176) (by decide) (COk_V (n := 1) (ci := 0) (ctX0_pass w) wcX5_176 nmX0_pass (by decide) (by decide) rfl (prX0_pass w)), List.forall_mem_cons.mpr ⟨itV (n := 199) (by decide) (COk_V (n := 0) (ci := 0) (ctX0_richest w) wcX5_199 nmX0_richest (by decide) (by decide) rfl (prX0_richest w)), List.forall_mem_cons.mpr ⟨itS (n := 48) (COk_S (n := 3) (ctX5_isFromTo w) wcX5_65584 nmX5_isFromTo (by decide)), List.forall_mem_nil _⟩⟩⟩⟩⟩⟩)
theorem ctX5_rich (w : WW) : CT w yX5_rich MX5_rich (csX5_rich w).2.1 (csX5_rich w).2.2 := by
  refine CT_of (by decide) rfl TX5_rich_ok TX5_rich_v (KX5_rich_ok w) (fun as u h => ?_)
  obtain ⟨a0, a1, rfl, h⟩ := sgRI h
  obtain ⟨rfl, hwok, hh⟩ := h
  refine ⟨Nat.le_of_ble_eq_true rfl, ?_⟩
  have key := vX5_rich w a1 u hwok hh
  exact key
theorem prX5_rich (w : WW) : ∀ as u, (csX5_rich w).2.1 as u → ∃ a r, as = .ref a :: r ∧ r.length = 1 ∧ okO w a 5 := by
  intro as u h
  obtain ⟨a0, a1, rfl, h⟩ := sgRI h
  exact ⟨_, _, rfl, rfl, okO_x h⟩
