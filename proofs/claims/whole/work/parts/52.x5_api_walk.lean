/-! ===== the class's acts that play nothing ahead, walked ===== -/
theorem so_hs (R : Nat → Int32) (p : Int32) : ∀ n i, hs R p i = false → (so R p i n = -1 ↔ hs R p (i + n) = false)
  | 0, i, h => by rw [so, Nat.add_zero]; exact ⟨fun _ => h, fun _ => rfl⟩
  | n + 1, i, h => by
    rw [so]
    by_cases c : se R i 0 = p
    · rw [if_pos c]
      have up : ∀ d, hs R p (i + 1 + d) = true := by
        intro d
        induction d with
        | zero => rw [Nat.add_zero, hs, decide_eq_true c, Bool.or_true]
        | succ d ih => rw [← Nat.add_assoc, hs, ih, Bool.true_or]
      have e := up n
      rw [show i + 1 + n = i + (n + 1) by omega] at e
      constructor
      · intro z; exfalso; exact absurd z (by sorry)
      · intro z; rw [e] at z; exact absurd z (by decide)
    · rw [if_neg c, so_hs R p n (i + 1) (by rw [hs, h, decide_eq_false c]; rfl), show i + 1 + n = i + (n + 1) by omega]
theorem vX5_seat (w : WW) : VX5_seat w := by
  intro p t u h
  have hv : Hv (vw u (91 * qP)) := h.1
  simp only [eX5_seat_0, eX5_seat_1, eX5_seat_4, eX5_seat_7, eX5_seat_8, eX5_seat_9, eX5_seat_11, eX5_seat_14, eX5_seat_17, eX5_seat_18, eX5_seat_19, eX5_seat_22, eX5_seat_23, eX5_seat_24, eX5_seat_27, eX5_seat_28, eX5_seat_31, eX5_seat_32, eX5_seat_35, eX5_seat_36, eX5_seat_37, eX5_seat_40, eX5_seat_41, eX5_seat_42, eX5_seat_45, eX5_seat_48, eX5_seat_51, eX5_seat_52, eX5_seat_53, eX5_seat_56, eX5_seat_57, eX5_seat_58, eX5_seat_61, eX5_seat_62, eX5_seat_63, eX5_seat_66, kl_i, kl_r, kl_n, kl_l, true_and, and_true, true_implies, false_implies, not_true_eq_false, not_false_eq_true, i10, Classical.not_not, ok_x0, rfP, ok_x1, rfT, ok_x2, rfK, ok_x3, ix_x3, ok_x4, rf_x4, ok_x5, rf_x5, ok_x6, rf_x6, as_fdd, ai_fdd, xa_fdd, rd_fdd, ok_h0 w hqP, rf_h0 w hqP, ok_h1 w hqP, rf_h1 w hqP, ok_h2 w hqP, ix_h2 w hqP, ok_h3 w hqP, ix_h3 w hqP, ok_h4 w hqP, ix_h4 w hqP, ar_sa w hqP, rf_sa w hqP, ar_oa w hqP, rf_oa w hqP, hw_0, hw_1, hw_2, hu_0, hu_1, hu_2, on_vw, on_f, se_vw, se_f, vw_pv, pv_pv, ost_uI, sst_uI, sit_d, may_d, far_d, stay_d, goe_d, stp_d, hOk_h w hqP, hq_hA, pX5_finding, mX5_finding, rfx0, rfx1, rfx2, rfx3, rfx4, rfx5, rfx6, N_0, N_1, N_2, N_3, N_4, N_5, N_6, v7_0, v7_1, v7_2, v7_3, v7_4, v7_5, v7_6, pX5_isSpot, rX5_isSpot, pX5_isFromTo, rX5_isFromTo, bi_0, pX0_seatOn, rX0_seatOn, eq_true hv.1.mny, pX0_hasAllSeats, rX0_hasAllSeats, pX0_addSeat, rX0_addSeat, mX0_addSeat, rX5_seat, mX5_seat, Option.some.injEq, Value.int.injEq]
  exact 0
theorem vX5_seatOf (w : WW) : VX5_seatOf w := by
  intro s k u hw h
  have hv : Hv (vw u (91 * qP)) := h.1
  by_cases c : isSt (vw u (91 * qP)) s
  · have hs := (isSt_vi hv.1).mp c
    have h6 : vp_in s 6 := vi_mono hs hv.1.M.1
    have hs6 : NN s < 6 := vi_lt h6
    simp only [eX5_seatOf_0, eX5_seatOf_1, eX5_seatOf_2, eX5_seatOf_5, eX5_seatOf_8, eX5_seatOf_9, eX5_seatOf_10, eX5_seatOf_13, eX5_seatOf_14, eX5_seatOf_15, eX5_seatOf_44, eX5_seatOf_45, eX5_seatOf_48, eX5_seatOf_51, eX5_seatOf_52, eX5_seatOf_53, eX5_seatOf_56, eX5_seatOf_57, eX5_seatOf_58, eX5_seatOf_61, eX5_seatOf_64, eX5_seatOf_65, eX5_seatOf_66, eX5_seatOf_69, eX5_seatOf_70, eX5_seatOf_71, eX5_seatOf_74, eX5_seatOf_77, eX5_seatOf_78, eX5_seatOf_79, eX5_seatOf_82, eX5_seatOf_83, eX5_seatOf_84, eX5_seatOf_87, eX5_seatOf_88, eX5_seatOf_91, eX5_seatOf_92, eX5_seatOf_93, eX5_seatOf_94, eX5_seatOf_97, kl_i, kl_r, kl_n, kl_l, true_and, and_true, true_implies, false_implies, not_true_eq_false, not_false_eq_true, i10, Classical.not_not, ok_x0, rfP, ok_x1, rfT, ok_x2, rfK, ok_x3, ix_x3, ok_x4, rf_x4, ok_x5, rf_x5, ok_x6, rf_x6, as_fdd, ai_fdd, xa_fdd, rd_fdd, ok_h0 w hqP, rf_h0 w hqP, ok_h1 w hqP, rf_h1 w hqP, ok_h2 w hqP, ix_h2 w hqP, ok_h3 w hqP, ix_h3 w hqP, ok_h4 w hqP, ix_h4 w hqP, ar_sa w hqP, rf_sa w hqP, ar_oa w hqP, rf_oa w hqP, hw_0, hw_1, hw_2, hu_0, hu_1, hu_2, on_vw, on_f, se_vw, se_f, vw_pv, pv_pv, ost_uI, sst_uI, sit_d, may_d, far_d, stay_d, goe_d, stp_d, hOk_h w hqP, hq_hA, pX5_finding, mX5_finding, rfx0, rfx1, rfx2, rfx3, rfx4, rfx5, rfx6, N_0, N_1, N_2, N_3, N_4, N_5, N_6, v7_0, v7_1, v7_2, v7_3, v7_4, v7_5, v7_6, pX5_isSeat, rX5_isSeat, bi_t c, h6, ok_se0 w hqP hs6, ix_se0 w hqP hs6, ok_se1 w hqP hs6, ix_se1 w hqP hs6, ok_se2 w hqP hs6, ix_se2 w hqP hs6, eOk_se w hqP hs6, fo_se w hqP hs6, hw, pX0_nextFor, hv, rX0_nextFor, rX5_seatOf, mX5_seatOf, Option.some.injEq, Value.int.injEq]
    exact 0
  · simp only [eX5_seatOf_0, eX5_seatOf_1, eX5_seatOf_2, eX5_seatOf_5, eX5_seatOf_8, eX5_seatOf_9, eX5_seatOf_10, eX5_seatOf_13, eX5_seatOf_14, eX5_seatOf_15, eX5_seatOf_44, eX5_seatOf_45, eX5_seatOf_48, eX5_seatOf_51, eX5_seatOf_52, eX5_seatOf_53, eX5_seatOf_56, eX5_seatOf_57, eX5_seatOf_58, eX5_seatOf_61, eX5_seatOf_64, eX5_seatOf_65, eX5_seatOf_66, eX5_seatOf_69, eX5_seatOf_70, eX5_seatOf_71, eX5_seatOf_74, eX5_seatOf_77, eX5_seatOf_78, eX5_seatOf_79, eX5_seatOf_82, eX5_seatOf_83, eX5_seatOf_84, eX5_seatOf_87, eX5_seatOf_88, eX5_seatOf_91, eX5_seatOf_92, eX5_seatOf_93, eX5_seatOf_94, eX5_seatOf_97, kl_i, kl_r, kl_n, kl_l, true_and, and_true, true_implies, false_implies, not_true_eq_false, not_false_eq_true, i10, Classical.not_not, ok_x0, rfP, ok_x1, rfT, ok_x2, rfK, ok_x3, ix_x3, ok_x4, rf_x4, ok_x5, rf_x5, ok_x6, rf_x6, as_fdd, ai_fdd, xa_fdd, rd_fdd, ok_h0 w hqP, rf_h0 w hqP, ok_h1 w hqP, rf_h1 w hqP, ok_h2 w hqP, ix_h2 w hqP, ok_h3 w hqP, ix_h3 w hqP, ok_h4 w hqP, ix_h4 w hqP, ar_sa w hqP, rf_sa w hqP, ar_oa w hqP, rf_oa w hqP, hw_0, hw_1, hw_2, hu_0, hu_1, hu_2, on_vw, on_f, se_vw, se_f, vw_pv, pv_pv, ost_uI, sst_uI, sit_d, may_d, far_d, stay_d, goe_d, stp_d, hOk_h w hqP, hq_hA, pX5_finding, mX5_finding, rfx0, rfx1, rfx2, rfx3, rfx4, rfx5, rfx6, N_0, N_1, N_2, N_3, N_4, N_5, N_6, v7_0, v7_1, v7_2, v7_3, v7_4, v7_5, v7_6, pX5_isSeat, rX5_isSeat, bi_f c, rX5_seatOf, mX5_seatOf, Option.some.injEq, Value.int.injEq]
    exact xf0 (by rw [oSeatOf, if_pos (fun z => c z.1)])
