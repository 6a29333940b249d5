/-! ===== the class's tape, sheets and images, walked ===== -/
theorem nfq0 {o : Option Nat} {a : Int32} {u v : MM} (h : o = some 0) : (-1000000001 : Int32) = nf o a ∧ fndX 0 u = nfX o u v := by subst h; exact ⟨fk0.symm, rfl⟩
theorem nfq1 {o : Option Nat} {a : Int32} {u v : MM} (h : o = some 1) : (-1000000002 : Int32) = nf o a ∧ fndX 1 u = nfX o u v := by subst h; exact ⟨fk1.symm, rfl⟩
theorem nfq2 {o : Option Nat} {a : Int32} {u v : MM} (h : o = some 2) : (-1000000003 : Int32) = nf o a ∧ fndX 2 u = nfX o u v := by subst h; exact ⟨fk2.symm, rfl⟩
theorem nfq4 {o : Option Nat} {a : Int32} {u v : MM} (h : o = some 4) : (-1000000005 : Int32) = nf o a ∧ fndX 4 u = nfX o u v := by subst h; exact ⟨fk4.symm, rfl⟩
theorem nfq5 {o : Option Nat} {a : Int32} {u v : MM} (h : o = some 5) : (-1000000006 : Int32) = nf o a ∧ fndX 5 u = nfX o u v := by subst h; exact ⟨fk5.symm, rfl⟩
theorem nfq6 {o : Option Nat} {a : Int32} {u v : MM} (h : o = some 6) : (-1000000007 : Int32) = nf o a ∧ fndX 6 u = nfX o u v := by subst h; exact ⟨fk6.symm, rfl⟩
theorem nfqn {o : Option Nat} {a : Int32} {u v : MM} (h : o = none) : a = nf o a ∧ v = nfX o u v := by subst h; exact ⟨rfl, rfl⟩
theorem sh_bits (x : Int32) (k : Nat) (hk : k < 4) : (x.toUInt32 >>> ((8 * nI k).toUInt32 &&& Int32.toUInt32 31)).toInt32 &&& 255 = x >>> ((8 * nI k) &&& 31) &&& 255 := by
  apply Int32.toBitVec_inj.mp
  have : k = 0 ∨ k = 1 ∨ k = 2 ∨ k = 3 := by omega
  rcases this with rfl | rfl | rfl | rfl
  · simp only [Int32.toBitVec_and, Int32.toBitVec_shiftRight]
    exact 0
  · sorry
  · sorry
  · sorry
theorem vX5_wipe (w : WW) : VX5_wipe w := by
  intro u h
  simp only [eX5_wipe_0, eX5_wipe_1, eX5_wipe_4, eX5_wipe_7, eX5_wipe_8, eX5_wipe_9, eX5_wipe_12, eX5_wipe_13, eX5_wipe_16, eX5_wipe_17, kl_i, kl_r, kl_n, kl_l, true_and, and_true, true_implies, false_implies, not_true_eq_false, not_false_eq_true, i10, Classical.not_not, ok_x0, rfP, ok_x1, rfT, ok_x2, rfK, ok_x3, ix_x3, ok_x4, rf_x4, ok_x5, rf_x5, ok_x6, rf_x6, as_fdd, ai_fdd, xa_fdd, rd_fdd, ok_tp1, ix_tp1, rX5_wipe, mX5_wipe]
set_option maxRecDepth 20000 in
theorem KX5_wipe_ok (w : WW) : KOk w MX5_wipe (KX5_wipe w) := KOk_mk flX5_ok ciX5_ok clX5_ok (fun _ _ h => by cases h) (fun _ _ h => by cases h) (List.forall_mem_nil _)
theorem ctX5_wipe (w : WW) : CT w yX5_wipe MX5_wipe (csX5_wipe w).2.1 (csX5_wipe w).2.2 := by
  refine CT_of (by decide) rfl TX5_wipe_ok TX5_wipe_v (KX5_wipe_ok w) (fun as u h => ?_)
  obtain ⟨a0, rfl, h⟩ := sgR h
  obtain ⟨rfl, hh⟩ := h
  refine ⟨Nat.le_of_ble_eq_true rfl, ?_⟩
  have key := vX5_wipe w u hh
  exact key
theorem prX5_wipe (w : WW) : ∀ as u, (csX5_wipe w).2.1 as u → ∃ a r, as = .ref a :: r ∧ r.length = 0 ∧ okO w a 5 := by
  intro as u h
  obtain ⟨a0, rfl, h⟩ := sgR h
  exact ⟨_, _, rfl, rfl, okO_x h⟩
theorem vX5_tear (w : WW) : VX5_tear w := by
  intro u h
  simp only [eX5_tear_0, eX5_tear_1, eX5_tear_4, eX5_tear_7, eX5_tear_8, eX5_tear_11, eX5_tear_12, eX5_tear_13, eX5_tear_14, eX5_tear_15, eX5_tear_18, eX5_tear_19, kl_i, kl_r, kl_n, kl_l, true_and, and_true, true_implies, false_implies, not_true_eq_false, not_false_eq_true, i10, Classical.not_not, ok_x0, rfP, ok_x1, rfT, ok_x2, rfK, ok_x3, ix_x3, ok_x4, rf_x4, ok_x5, rf_x5, ok_x6, rf_x6, as_fdd, ai_fdd, xa_fdd, rd_fdd, rX5_tear, mX5_tear]
  exact 0
theorem vX5_image (w : WW) : VX5_image w := by
  intro u h
  have hO : Ok (vw u (91 * qP)) := h.1.1
  simp only [eX5_image_0, eX5_image_1, eX5_image_4, eX5_image_5, eX5_image_8, eX5_image_11, eX5_image_12, eX5_image_13, eX5_image_16, eX5_image_17, kl_i, kl_r, kl_n, kl_l, true_and, and_true, true_implies, false_implies, not_true_eq_false, not_false_eq_true, i10, Classical.not_not, ok_x0, rfP, ok_x1, rfT, ok_x2, rfK, ok_x3, ix_x3, ok_x4, rf_x4, ok_x5, rf_x5, ok_x6, rf_x6, as_fdd, ai_fdd, xa_fdd, rd_fdd, ok_h0 w hqP, rf_h0 w hqP, ok_h1 w hqP, rf_h1 w hqP, ok_h2 w hqP, ix_h2 w hqP, ok_h3 w hqP, ix_h3 w hqP, ok_h4 w hqP, ix_h4 w hqP, ar_sa w hqP, rf_sa w hqP, ar_oa w hqP, rf_oa w hqP, hw_0, hw_1, hw_2, hu_0, hu_1, hu_2, on_vw, on_f, se_vw, se_f, vw_pv, pv_pv, ost_uI, sst_uI, sit_d, may_d, far_d, stay_d, goe_d, stp_d, hOk_h w hqP, hq_hA, ok_h0 w hqK, rf_h0 w hqK, ok_h1 w hqK, rf_h1 w hqK, ok_h2 w hqK, ix_h2 w hqK, ok_h3 w hqK, ix_h3 w hqK, ok_h4 w hqK, ix_h4 w hqK, ar_sa w hqK, rf_sa w hqK, ar_oa w hqK, rf_oa w hqK, hw_0, hw_1, hw_2, hu_0, hu_1, hu_2, on_vw, on_f, se_vw, se_f, vw_pv, pv_pv, ost_uI, sst_uI, sit_d, may_d, far_d, stay_d, goe_d, stp_d, hOk_h w hqK, hq_hA, pX0_become, neKP, eq_true hO, rX5_image, mX5_image]
  exact 0
theorem vX5_undo (w : WW) : VX5_undo w := by
  intro u h
  by_cases c : u.1 280 = 0
  · simp only [eX5_undo_0, eX5_undo_1, eX5_undo_4, eX5_undo_7, eX5_undo_8, eX5_undo_9, eX5_undo_12, eX5_undo_13, eX5_undo_14, eX5_undo_17, eX5_undo_18, eX5_undo_21, eX5_undo_24, eX5_undo_25, eX5_undo_28, eX5_undo_31, kl_i, kl_r, kl_n, kl_l, true_and, and_true, true_implies, false_implies, not_true_eq_false, not_false_eq_true, i10, Classical.not_not, ok_x0, rfP, ok_x1, rfT, ok_x2, rfK, ok_x3, ix_x3, ok_x4, rf_x4, ok_x5, rf_x5, ok_x6, rf_x6, as_fdd, ai_fdd, xa_fdd, rd_fdd, pX5_finding, mX5_finding, rfx0, rfx1, rfx2, rfx3, rfx4, rfx5, rfx6, N_0, N_1, N_2, N_3, N_4, N_5, N_6, v7_0, v7_1, v7_2, v7_3, v7_4, v7_5, v7_6, c, rX5_undo, mX5_undo, if_true]
  · have hO := h c
    simp only [eX5_undo_0, eX5_undo_1, eX5_undo_4, eX5_undo_7, eX5_undo_8, eX5_undo_9, eX5_undo_12, eX5_undo_13, eX5_undo_14, eX5_undo_17, eX5_undo_18, eX5_undo_21, eX5_undo_24, eX5_undo_25, eX5_undo_28, eX5_undo_31, kl_i, kl_r, kl_n, kl_l, true_and, and_true, true_implies, false_implies, not_true_eq_false, not_false_eq_true, i10, Classical.not_not, ok_x0, rfP, ok_x1, rfT, ok_x2, rfK, ok_x3, ix_x3, ok_x4, rf_x4, ok_x5, rf_x5, ok_x6, rf_x6, as_fdd, ai_fdd, xa_fdd, rd_fdd, ok_h0 w hqP, rf_h0 w hqP, ok_h1 w hqP, rf_h1 w hqP, ok_h2 w hqP, ix_h2 w hqP, ok_h3 w hqP, ix_h3 w hqP, ok_h4 w hqP, ix_h4 w hqP, ar_sa w hqP, rf_sa w hqP, ar_oa w hqP, rf_oa w hqP, hw_0, hw_1, hw_2, hu_0, hu_1, hu_2, on_vw, on_f, se_vw, se_f, vw_pv, pv_pv, ost_uI, sst_uI, sit_d, may_d, far_d, stay_d, goe_d, stp_d, hOk_h w hqP, hq_hA, ok_h0 w hqK, rf_h0 w hqK, ok_h1 w hqK, rf_h1 w hqK, ok_h2 w hqK, ix_h2 w hqK, ok_h3 w hqK, ix_h3 w hqK, ok_h4 w hqK, ix_h4 w hqK, ar_sa w hqK, rf_sa w hqK, ar_oa w hqK, rf_oa w hqK, hw_0, hw_1, hw_2, hu_0, hu_1, hu_2, on_vw, on_f, se_vw, se_f, vw_pv, pv_pv, ost_uI, sst_uI, sit_d, may_d, far_d, stay_d, goe_d, stp_d, hOk_h w hqK, hq_hA, pX5_finding, mX5_finding, rfx0, rfx1, rfx2, rfx3, rfx4, rfx5, rfx6, N_0, N_1, N_2, N_3, N_4, N_5, N_6, v7_0, v7_1, v7_2, v7_3, v7_4, v7_5, v7_6, c, pX0_become, nePK, eq_true hO, rX5_undo, mX5_undo, if_false]
    exact 0
theorem vX5_sheet (w : WW) : VX5_sheet w := by
  intro s b n u h
  by_cases c : isSh s
  · have h4 := isSh_vi c
    have hs : NN s < 4 := vi_lt h4
    simp only [eX5_sheet_0, eX5_sheet_1, eX5_sheet_4, eX5_sheet_7, eX5_sheet_8, eX5_sheet_11, eX5_sheet_12, eX5_sheet_14, eX5_sheet_17, eX5_sheet_18, eX5_sheet_20, eX5_sheet_23, eX5_sheet_24, eX5_sheet_26, eX5_sheet_29, eX5_sheet_30, eX5_sheet_31, eX5_sheet_34, eX5_sheet_35, eX5_sheet_36, eX5_sheet_39, eX5_sheet_40, eX5_sheet_42, eX5_sheet_45, eX5_sheet_46, eX5_sheet_47, eX5_sheet_49, eX5_sheet_52, eX5_sheet_53, eX5_sheet_54, eX5_sheet_57, eX5_sheet_58, eX5_sheet_59, eX5_sheet_62, eX5_sheet_63, eX5_sheet_64, eX5_sheet_65, eX5_sheet_66, eX5_sheet_69, eX5_sheet_70, eX5_sheet_73, eX5_sheet_74, eX5_sheet_75, eX5_sheet_78, kl_i, kl_r, kl_n, kl_l, true_and, and_true, true_implies, false_implies, not_true_eq_false, not_false_eq_true, i10, Classical.not_not, ok_x0, rfP, ok_x1, rfT, ok_x2, rfK, ok_x3, ix_x3, ok_x4, rf_x4, ok_x5, rf_x5, ok_x6, rf_x6, as_fdd, ai_fdd, xa_fdd, rd_fdd, pX5_finding, mX5_finding, rfx0, rfx1, rfx2, rfx3, rfx4, rfx5, rfx6, N_0, N_1, N_2, N_3, N_4, N_5, N_6, v7_0, v7_1, v7_2, v7_3, v7_4, v7_5, v7_6, pX5_isSheet, rX5_isSheet, bi_t c, ar_sh, rf_sh, h4, ok_st0 w hs, rf_st0 w hs, ok_st1 w hs, ix_st1 w hs, ok_st2 w hs, ix_st2 w hs, aj_sn w hs, xj_sn w hs, tOk_st w hs, tq_stA, pX3_layOut, rX5_sheet, mX5_sheet, Option.some.injEq, Value.int.injEq]
    exact 0
  · simp only [eX5_sheet_0, eX5_sheet_1, eX5_sheet_4, eX5_sheet_7, eX5_sheet_8, eX5_sheet_11, eX5_sheet_12, eX5_sheet_14, eX5_sheet_17, eX5_sheet_18, eX5_sheet_20, eX5_sheet_23, eX5_sheet_24, eX5_sheet_26, eX5_sheet_29, eX5_sheet_30, eX5_sheet_31, eX5_sheet_34, eX5_sheet_35, eX5_sheet_36, eX5_sheet_39, eX5_sheet_40, eX5_sheet_42, eX5_sheet_45, eX5_sheet_46, eX5_sheet_47, eX5_sheet_49, eX5_sheet_52, eX5_sheet_53, eX5_sheet_54, eX5_sheet_57, eX5_sheet_58, eX5_sheet_59, eX5_sheet_62, eX5_sheet_63, eX5_sheet_64, eX5_sheet_65, eX5_sheet_66, eX5_sheet_69, eX5_sheet_70, eX5_sheet_73, eX5_sheet_74, eX5_sheet_75, eX5_sheet_78, kl_i, kl_r, kl_n, kl_l, true_and, and_true, true_implies, false_implies, not_true_eq_false, not_false_eq_true, i10, Classical.not_not, ok_x0, rfP, ok_x1, rfT, ok_x2, rfK, ok_x3, ix_x3, ok_x4, rf_x4, ok_x5, rf_x5, ok_x6, rf_x6, as_fdd, ai_fdd, xa_fdd, rd_fdd, pX5_finding, mX5_finding, rfx0, rfx1, rfx2, rfx3, rfx4, rfx5, rfx6, N_0, N_1, N_2, N_3, N_4, N_5, N_6, v7_0, v7_1, v7_2, v7_3, v7_4, v7_5, v7_6, pX5_isSheet, rX5_isSheet, bi_f c, rX5_sheet, mX5_sheet, Option.some.injEq, Value.int.injEq]
    exact nfq0 (by rw [shNo, if_pos (fun z => c z.1)])
theorem vX5_write (w : WW) : VX5_write w := by
  intro s i v u h
  by_cases c : isSh s
  · have h4 := isSh_vi c
    have hs : NN s < 4 := vi_lt h4
    simp only [eX5_write_0, eX5_write_1, eX5_write_4, eX5_write_7, eX5_write_8, eX5_write_9, eX5_write_12, eX5_write_13, eX5_write_14, eX5_write_15, eX5_write_18, eX5_write_19, eX5_write_20, eX5_write_23, eX5_write_26, eX5_write_27, eX5_write_28, eX5_write_31, eX5_write_32, eX5_write_33, eX5_write_34, eX5_write_35, eX5_write_36, eX5_write_39, eX5_write_40, eX5_write_41, eX5_write_44, eX5_write_45, eX5_write_46, eX5_write_49, eX5_write_52, eX5_write_53, eX5_write_54, eX5_write_57, eX5_write_58, eX5_write_59, eX5_write_60, eX5_write_63, eX5_write_64, eX5_write_65, eX5_write_68, eX5_write_69, eX5_write_70, eX5_write_72, eX5_write_73, eX5_write_76, eX5_write_77, eX5_write_78, eX5_write_79, eX5_write_80, eX5_write_83, eX5_write_85, kl_i, kl_r, kl_n, kl_l, true_and, and_true, true_implies, false_implies, not_true_eq_false, not_false_eq_true, i10, Classical.not_not, ok_x0, rfP, ok_x1, rfT, ok_x2, rfK, ok_x3, ix_x3, ok_x4, rf_x4, ok_x5, rf_x5, ok_x6, rf_x6, as_fdd, ai_fdd, xa_fdd, rd_fdd, pX5_finding, mX5_finding, rfx0, rfx1, rfx2, rfx3, rfx4, rfx5, rfx6, N_0, N_1, N_2, N_3, N_4, N_5, N_6, v7_0, v7_1, v7_2, v7_3, v7_4, v7_5, v7_6, pX5_isSheet, rX5_isSheet, bi_t c, bi_0, ar_sh, rf_sh, h4, ok_st0 w hs, rf_st0 w hs, ok_st1 w hs, ix_st1 w hs, ok_st2 w hs, ix_st2 w hs, aj_sn w hs, xj_sn w hs, tOk_st w hs, tq_stA, pX3_isMissing, rX3_isMissing, pX5_isFromTo, rX5_isFromTo, pX3_put, rX5_write, mX5_write, Option.some.injEq, Value.long.injEq]
    exact 0
  · simp only [eX5_write_0, eX5_write_1, eX5_write_4, eX5_write_7, eX5_write_8, eX5_write_9, eX5_write_12, eX5_write_13, eX5_write_14, eX5_write_15, eX5_write_18, eX5_write_19, eX5_write_20, eX5_write_23, eX5_write_26, eX5_write_27, eX5_write_28, eX5_write_31, eX5_write_32, eX5_write_33, eX5_write_34, eX5_write_35, eX5_write_36, eX5_write_39, eX5_write_40, eX5_write_41, eX5_write_44, eX5_write_45, eX5_write_46, eX5_write_49, eX5_write_52, eX5_write_53, eX5_write_54, eX5_write_57, eX5_write_58, eX5_write_59, eX5_write_60, eX5_write_63, eX5_write_64, eX5_write_65, eX5_write_68, eX5_write_69, eX5_write_70, eX5_write_72, eX5_write_73, eX5_write_76, eX5_write_77, eX5_write_78, eX5_write_79, eX5_write_80, eX5_write_83, eX5_write_85, kl_i, kl_r, kl_n, kl_l, true_and, and_true, true_implies, false_implies, not_true_eq_false, not_false_eq_true, i10, Classical.not_not, ok_x0, rfP, ok_x1, rfT, ok_x2, rfK, ok_x3, ix_x3, ok_x4, rf_x4, ok_x5, rf_x5, ok_x6, rf_x6, as_fdd, ai_fdd, xa_fdd, rd_fdd, pX5_finding, mX5_finding, rfx0, rfx1, rfx2, rfx3, rfx4, rfx5, rfx6, N_0, N_1, N_2, N_3, N_4, N_5, N_6, v7_0, v7_1, v7_2, v7_3, v7_4, v7_5, v7_6, pX5_isSheet, rX5_isSheet, bi_f c, rX5_write, mX5_write, Option.some.injEq, Value.long.injEq]
    exact 0
