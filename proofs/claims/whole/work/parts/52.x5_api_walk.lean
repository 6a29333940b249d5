/-! ===== the class's acts that play nothing ahead, walked ===== -/
theorem so_hs (R : Nat → Int32) (p : Int32) : ∀ n i, i + n < 2 ^ 31 → hs R p i = false → (so R p i n = -1 ↔ hs R p (i + n) = false)
  | 0, i, _, h => by rw [so, Nat.add_zero]; exact ⟨fun _ => h, fun _ => rfl⟩
  | n + 1, i, hi, h => by
    rw [so]
    by_cases c : se R i 0 = p
    · rw [if_pos c]
      have up : ∀ d, hs R p (i + 1 + d) = true := by
        intro d
        induction d with
        | zero => rw [Nat.add_zero, hs, decide_eq_true c, Bool.or_true]
        | succ d ih => rw [← Nat.add_assoc, hs, ih, Bool.true_or]
      have e := up n
      rw [show i + 1 + n = i + (n + 1) by omega] at e
      constructor
      · intro z; exact absurd z (nI_ne1 (by omega))
      · intro z; rw [e] at z; exact absurd z (by decide)
    · rw [if_neg c, so_hs R p n (i + 1) (by omega) (by rw [hs, h, decide_eq_false c]; rfl), show i + 1 + n = i + (n + 1) by omega]
theorem so_0 {R : Nat → Int32} (hO : Ok R) (p : Int32) : so R p 0 (NN (R 1)) = -1 ↔ ¬ hs R p (NN (R 1)) = true := by
  have := so_hs R p (NN (R 1)) 0 (by have := hO.M.1; omega) rfl
  rw [Nat.zero_add] at this
  rw [this, Bool.not_eq_true]
theorem vX5_seat (w : WW) : VX5_seat w := by
  intro p t u h
  have hv : Hv (vw u (91 * qP)) := h.1
  have e6 : 6 ≤ vw u (91 * qP) 1 → vw u (91 * qP) 1 = 6 := fun z => by
    obtain ⟨M, hM, e⟩ := hv.1.1
    rw [e] at z ⊢
    have := (nI_leI (a := 6) (b := M) (by decide) (by omega)).mp z
    rw [show M = 6 by omega]; rfl
  simp only [eX5_seat_0, eX5_seat_1, eX5_seat_4, eX5_seat_7, eX5_seat_8, eX5_seat_9, eX5_seat_11, eX5_seat_14, eX5_seat_17, eX5_seat_18, eX5_seat_19, eX5_seat_22, eX5_seat_23, eX5_seat_24, eX5_seat_27, eX5_seat_28, eX5_seat_31, eX5_seat_32, eX5_seat_35, eX5_seat_36, eX5_seat_37, eX5_seat_40, eX5_seat_41, eX5_seat_42, eX5_seat_45, eX5_seat_48, eX5_seat_51, eX5_seat_52, eX5_seat_53, eX5_seat_56, eX5_seat_57, eX5_seat_58, eX5_seat_61, eX5_seat_62, eX5_seat_63, eX5_seat_66, kl_i, kl_r, kl_n, kl_l, true_and, and_true, true_implies, false_implies, not_true_eq_false, not_false_eq_true, i10, Classical.not_not, ok_x0, rfP, ok_x1, rfT, ok_x2, rfK, ok_x3, ix_x3, ok_x4, rf_x4, ok_x5, rf_x5, ok_x6, rf_x6, as_fdd, ai_fdd, xa_fdd, rd_fdd, ok_h0 w hqP, rf_h0 w hqP, ok_h1 w hqP, rf_h1 w hqP, ok_h2 w hqP, ix_h2 w hqP, ok_h3 w hqP, ix_h3 w hqP, ok_h4 w hqP, ix_h4 w hqP, ar_sa w hqP, rf_sa w hqP, ar_oa w hqP, rf_oa w hqP, hw_0, hw_1, hw_2, hu_0, hu_1, hu_2, on_vw, on_f, se_vw, se_f, vw_pv, pv_pv, ost_uI, sst_uI, sit_d, may_d, far_d, stay_d, goe_d, stp_d, hOk_h w hqP, hq_hA, pX5_finding, mX5_finding, rfx0, rfx1, rfx2, rfx3, rfx4, rfx5, rfx6, N_0, N_1, N_2, N_3, N_4, N_5, N_6, v7_0, v7_1, v7_2, v7_3, v7_4, v7_5, v7_6, pX5_isSpot, rX5_isSpot, pX5_isFromTo, rX5_isFromTo, bi_0, pX0_seatOn, rX0_seatOn, eq_true hv.1.mny, pX0_hasAllSeats, rX0_hasAllSeats, pX0_addSeat, rX0_addSeat, mX0_addSeat, rX5_seat, mX5_seat, Option.some.injEq, Value.int.injEq, so_0 hv.1]
  refine ⟨fun c1 => xf0 (by rw [oSeat, if_pos (fun z => c1 z.1)]), fun c1 => ⟨fun c2 => ⟨fun c3 => ⟨fun c4 => ⟨vp6_of hv.1 c4, xfr ?_⟩, fun c4 => xf1 ?_⟩, fun c3 => xf4 ?_⟩, fun c2 => xf0 (by rw [oSeat, if_pos (fun z => c2 z.2)])⟩⟩
  · rw [oSeat, if_neg (fun z => z ⟨c1, c2⟩), if_neg c3, if_neg (fun z => c4 (by rw [z]; exact Int32.le_refl _))]
  · rw [oSeat, if_neg (fun z => z ⟨c1, c2⟩), if_neg c3, if_pos (e6 c4)]
  · rw [oSeat, if_neg (fun z => z ⟨c1, c2⟩), if_pos c3]
theorem wcX5_52 : ∀ x ∈ wV1 RX5 52 yX5_finding MX5_finding, x ∈ Gt := by decide +kernel
theorem nmX5_finding : nmOk yX5_finding 1 = true := by decide +kernel
theorem wcX5_56 : ∀ x ∈ wV1 RX5 56 yX0_seatOn MX0_seatOn, x ∈ Gt := by decide +kernel
theorem wcX5_59 : ∀ x ∈ wV1 RX5 59 yX0_hasAllSeats MX0_hasAllSeats, x ∈ Gt := by decide +kernel
theorem wcX5_63 : ∀ x ∈ wV1 RX5 63 yX0_addSeat MX0_addSeat, x ∈ Gt := by decide +kernel
theorem wcX5_65580 : ∀ x ∈ wS1 RX5 44 yX5_isSpot MX5_isSpot, x ∈ Gt := by decide +kernel
theorem nmX5_isSpot : nmOk yX5_isSpot 1 = true := by decide +kernel
set_option maxRecDepth 20000 in
theorem KX5_seat_ok (w : WW) : KOk w MX5_seat (KX5_seat w) := KOk_mk flX5_ok ciX5_ok clX5_ok (fun _ _ h => by cases h) (fun _ _ h => by cases h) (List.forall_mem_cons.mpr ⟨itV (n := 52) (by decide) (COk_V (n := 1) (ci := 5) (ctX5_finding w) wcX5_52 nmX5_finding (by decide) (by decide) rfl (prX5_finding w)), List.forall_mem_cons.mpr ⟨itV (n := 56) (by decide) (COk_V (n := 1) (ci := 0) (ctX0_seatOn w) wcX5_56 nmX0_seatOn (by decide) (by decide) rfl (prX0_seatOn w)), List.forall_mem_cons.mpr ⟨itV (n := 59) (by decide) (COk_V (n := 0) (ci := 0) (ctX0_hasAllSeats w) wcX5_59 nmX0_hasAllSeats (by decide) (by decide) rfl (prX0_hasAllSeats w)), List.forall_mem_cons.mpr ⟨itV (n := 63) (by decide) (COk_V (n := 2) (ci := 0) (ctX0_addSeat w) wcX5_63 nmX0_addSeat (by decide) (by decide) rfl (prX0_addSeat w)), List.forall_mem_cons.mpr ⟨itS (n := 44) (COk_S (n := 1) (ctX5_isSpot w) wcX5_65580 nmX5_isSpot (by decide)), List.forall_mem_cons.mpr ⟨itS (n := 48) (COk_S (n := 3) (ctX5_isFromTo w) wcX5_65584 nmX5_isFromTo (by decide)), List.forall_mem_nil _⟩⟩⟩⟩⟩⟩)
theorem ctX5_seat (w : WW) : CT w yX5_seat MX5_seat (csX5_seat w).2.1 (csX5_seat w).2.2 := by
  refine CT_of (by decide) rfl TX5_seat_ok TX5_seat_v (KX5_seat_ok w) (fun as u h => ?_)
  obtain ⟨a0, a1, a2, rfl, h⟩ := sgRII h
  obtain ⟨rfl, hh⟩ := h
  refine ⟨Nat.le_of_ble_eq_true rfl, ?_⟩
  have key := vX5_seat w a1 a2 u hh
  exact key
theorem prX5_seat (w : WW) : ∀ as u, (csX5_seat w).2.1 as u → ∃ a r, as = .ref a :: r ∧ r.length = 2 ∧ okO w a 5 := by
  intro as u h
  obtain ⟨a0, a1, a2, rfl, h⟩ := sgRII h
  exact ⟨_, _, rfl, rfl, okO_x h⟩
theorem vX5_seatOf (w : WW) : VX5_seatOf w := by
  intro s k u hw h
  have hv : Hv (vw u (91 * qP)) := h.1
  by_cases c : isSt (vw u (91 * qP)) s
  · have hs := (isSt_vi hv.1).mp c
    have h6 : vp_in s 6 := vi_mono hs hv.1.M.1
    have hs6 : NN s < 6 := vi_lt h6
    simp only [eX5_seatOf_0, eX5_seatOf_1, eX5_seatOf_2, eX5_seatOf_5, eX5_seatOf_8, eX5_seatOf_9, eX5_seatOf_10, eX5_seatOf_13, eX5_seatOf_14, eX5_seatOf_15, eX5_seatOf_44, eX5_seatOf_45, eX5_seatOf_48, eX5_seatOf_51, eX5_seatOf_52, eX5_seatOf_53, eX5_seatOf_56, eX5_seatOf_57, eX5_seatOf_58, eX5_seatOf_61, eX5_seatOf_64, eX5_seatOf_65, eX5_seatOf_66, eX5_seatOf_69, eX5_seatOf_70, eX5_seatOf_71, eX5_seatOf_74, eX5_seatOf_77, eX5_seatOf_78, eX5_seatOf_79, eX5_seatOf_82, eX5_seatOf_83, eX5_seatOf_84, eX5_seatOf_87, eX5_seatOf_88, eX5_seatOf_91, eX5_seatOf_92, eX5_seatOf_93, eX5_seatOf_94, eX5_seatOf_97, kl_i, kl_r, kl_n, kl_l, true_and, and_true, true_implies, false_implies, not_true_eq_false, not_false_eq_true, i10, Classical.not_not, ok_x0, rfP, ok_x1, rfT, ok_x2, rfK, ok_x3, ix_x3, ok_x4, rf_x4, ok_x5, rf_x5, ok_x6, rf_x6, as_fdd, ai_fdd, xa_fdd, rd_fdd, ok_h0 w hqP, rf_h0 w hqP, ok_h1 w hqP, rf_h1 w hqP, ok_h2 w hqP, ix_h2 w hqP, ok_h3 w hqP, ix_h3 w hqP, ok_h4 w hqP, ix_h4 w hqP, ar_sa w hqP, rf_sa w hqP, ar_oa w hqP, rf_oa w hqP, hw_0, hw_1, hw_2, hu_0, hu_1, hu_2, on_vw, on_f, se_vw, se_f, vw_pv, pv_pv, ost_uI, sst_uI, sit_d, may_d, far_d, stay_d, goe_d, stp_d, hOk_h w hqP, hq_hA, pX5_finding, mX5_finding, rfx0, rfx1, rfx2, rfx3, rfx4, rfx5, rfx6, N_0, N_1, N_2, N_3, N_4, N_5, N_6, v7_0, v7_1, v7_2, v7_3, v7_4, v7_5, v7_6, pX5_isSeat, rX5_isSeat, bi_t c, h6, ok_se0 w hqP hs6, ix_se0 w hqP hs6, ok_se1 w hqP hs6, ix_se1 w hqP hs6, ok_se2 w hqP hs6, ix_se2 w hqP hs6, eOk_se w hqP hs6, fo_se w hqP hs6, hw, pX0_nextFor, hv, rX0_nextFor, rX5_seatOf, mX5_seatOf, Option.some.injEq, Value.int.injEq]
    refine ⟨fun e => ?_, fun n0 => ⟨fun e => ?_, fun n1 => ⟨fun e => ?_, fun n2 => ⟨fun e => ?_, fun n3 => xf0 ?_⟩⟩⟩⟩
    · subst e; exact xfq (by rw [oSeatOf, if_neg (fun z => z ⟨c, by decide, by decide⟩), if_neg (by decide), N_0])
    · subst e; exact xfq (by rw [oSeatOf, if_neg (fun z => z ⟨c, by decide, by decide⟩), if_neg (by decide), N_1])
    · subst e; exact xfq (by rw [oSeatOf, if_neg (fun z => z ⟨c, by decide, by decide⟩), if_neg (by decide), N_2])
    · subst e; exact xfq (by rw [oSeatOf, if_neg (fun z => z ⟨c, by decide, by decide⟩), if_pos rfl])
    · rw [oSeatOf, if_pos (fun z => ?_)]
      obtain ⟨j, hj, rfl⟩ := v0_le (m := 3) z.2.1 z.2.2 rfl
      have : j = 0 ∨ j = 1 ∨ j = 2 ∨ j = 3 := by omega
      rcases this with rfl | rfl | rfl | rfl
      · exact n0 rfl
      · exact n1 rfl
      · exact n2 rfl
      · exact n3 rfl
  · simp only [eX5_seatOf_0, eX5_seatOf_1, eX5_seatOf_2, eX5_seatOf_5, eX5_seatOf_8, eX5_seatOf_9, eX5_seatOf_10, eX5_seatOf_13, eX5_seatOf_14, eX5_seatOf_15, eX5_seatOf_44, eX5_seatOf_45, eX5_seatOf_48, eX5_seatOf_51, eX5_seatOf_52, eX5_seatOf_53, eX5_seatOf_56, eX5_seatOf_57, eX5_seatOf_58, eX5_seatOf_61, eX5_seatOf_64, eX5_seatOf_65, eX5_seatOf_66, eX5_seatOf_69, eX5_seatOf_70, eX5_seatOf_71, eX5_seatOf_74, eX5_seatOf_77, eX5_seatOf_78, eX5_seatOf_79, eX5_seatOf_82, eX5_seatOf_83, eX5_seatOf_84, eX5_seatOf_87, eX5_seatOf_88, eX5_seatOf_91, eX5_seatOf_92, eX5_seatOf_93, eX5_seatOf_94, eX5_seatOf_97, kl_i, kl_r, kl_n, kl_l, true_and, and_true, true_implies, false_implies, not_true_eq_false, not_false_eq_true, i10, Classical.not_not, ok_x0, rfP, ok_x1, rfT, ok_x2, rfK, ok_x3, ix_x3, ok_x4, rf_x4, ok_x5, rf_x5, ok_x6, rf_x6, as_fdd, ai_fdd, xa_fdd, rd_fdd, ok_h0 w hqP, rf_h0 w hqP, ok_h1 w hqP, rf_h1 w hqP, ok_h2 w hqP, ix_h2 w hqP, ok_h3 w hqP, ix_h3 w hqP, ok_h4 w hqP, ix_h4 w hqP, ar_sa w hqP, rf_sa w hqP, ar_oa w hqP, rf_oa w hqP, hw_0, hw_1, hw_2, hu_0, hu_1, hu_2, on_vw, on_f, se_vw, se_f, vw_pv, pv_pv, ost_uI, sst_uI, sit_d, may_d, far_d, stay_d, goe_d, stp_d, hOk_h w hqP, hq_hA, pX5_finding, mX5_finding, rfx0, rfx1, rfx2, rfx3, rfx4, rfx5, rfx6, N_0, N_1, N_2, N_3, N_4, N_5, N_6, v7_0, v7_1, v7_2, v7_3, v7_4, v7_5, v7_6, pX5_isSeat, rX5_isSeat, bi_f c, rX5_seatOf, mX5_seatOf, Option.some.injEq, Value.int.injEq]
    exact xf0 (by rw [oSeatOf, if_pos (fun z => c z.1)])
theorem wcX5_67 : ∀ x ∈ wV1 RX5 67 yX5_isSeat MX5_isSeat, x ∈ Gt := by decide +kernel
theorem nmX5_isSeat : nmOk yX5_isSeat 1 = true := by decide +kernel
set_option maxRecDepth 20000 in
theorem KX5_seatOf_ok (w : WW) : KOk w MX5_seatOf (KX5_seatOf w) := KOk_mk flX5_ok ciX5_ok clX5_ok (fun _ _ h => by cases h) (fun _ _ h => by cases h) (List.forall_mem_cons.mpr ⟨itV (n := 52) (by decide) (COk_V (n := 1) (ci := 5) (ctX5_finding w) wcX5_52 nmX5_finding (by decide) (by decide) rfl (prX5_finding w)), List.forall_mem_cons.mpr ⟨itV (n := 67) (by decide) (COk_V (n := 1) (ci := 5) (ctX5_isSeat w) wcX5_67 nmX5_isSeat (by decide) (by decide) rfl (prX5_isSeat w)), List.forall_mem_cons.mpr ⟨itV (n := 86) (by decide) (COk_V (n := 1) (ci := 0) (ctX0_nextFor w) wcX5_86 nmX0_nextFor (by decide) (by decide) rfl (prX0_nextFor w)), List.forall_mem_nil _⟩⟩⟩)
theorem ctX5_seatOf (w : WW) : CT w yX5_seatOf MX5_seatOf (csX5_seatOf w).2.1 (csX5_seatOf w).2.2 := by
  refine CT_of (by decide) rfl TX5_seatOf_ok TX5_seatOf_v (KX5_seatOf_ok w) (fun as u h => ?_)
  obtain ⟨a0, a1, a2, rfl, h⟩ := sgRII h
  obtain ⟨rfl, hwok, hh⟩ := h
  refine ⟨Nat.le_of_ble_eq_true rfl, ?_⟩
  have key := vX5_seatOf w a1 a2 u hwok hh
  exact key
theorem prX5_seatOf (w : WW) : ∀ as u, (csX5_seatOf w).2.1 as u → ∃ a r, as = .ref a :: r ∧ r.length = 2 ∧ okO w a 5 := by
  intro as u h
  obtain ⟨a0, a1, a2, rfl, h⟩ := sgRII h
  exact ⟨_, _, rfl, rfl, okO_x h⟩
theorem vX5_worth (w : WW) : VX5_worth w := by
  intro s v u h
  have hv : Hv (vw u (91 * qP)) := h.1
  by_cases c : isSt (vw u (91 * qP)) s
  · have hs := (isSt_vi hv.1).mp c
    have h6 : vp_in s 6 := vi_mono hs hv.1.M.1
    have hs6 : NN s < 6 := vi_lt h6
    simp only [eX5_worth_0, eX5_worth_1, eX5_worth_2, eX5_worth_5, eX5_worth_8, eX5_worth_9, eX5_worth_10, eX5_worth_12, eX5_worth_15, eX5_worth_18, eX5_worth_19, eX5_worth_20, eX5_worth_23, eX5_worth_24, eX5_worth_25, eX5_worth_28, eX5_worth_31, eX5_worth_32, eX5_worth_33, eX5_worth_36, eX5_worth_37, eX5_worth_38, eX5_worth_41, eX5_worth_44, eX5_worth_45, eX5_worth_46, eX5_worth_47, eX5_worth_50, eX5_worth_51, kl_i, kl_r, kl_n, kl_l, true_and, and_true, true_implies, false_implies, not_true_eq_false, not_false_eq_true, i10, Classical.not_not, ok_x0, rfP, ok_x1, rfT, ok_x2, rfK, ok_x3, ix_x3, ok_x4, rf_x4, ok_x5, rf_x5, ok_x6, rf_x6, as_fdd, ai_fdd, xa_fdd, rd_fdd, ok_h0 w hqP, rf_h0 w hqP, ok_h1 w hqP, rf_h1 w hqP, ok_h2 w hqP, ix_h2 w hqP, ok_h3 w hqP, ix_h3 w hqP, ok_h4 w hqP, ix_h4 w hqP, ar_sa w hqP, rf_sa w hqP, ar_oa w hqP, rf_oa w hqP, hw_0, hw_1, hw_2, hu_0, hu_1, hu_2, on_vw, on_f, se_vw, se_f, vw_pv, pv_pv, ost_uI, sst_uI, sit_d, may_d, far_d, stay_d, goe_d, stp_d, hOk_h w hqP, hq_hA, pX5_finding, mX5_finding, rfx0, rfx1, rfx2, rfx3, rfx4, rfx5, rfx6, N_0, N_1, N_2, N_3, N_4, N_5, N_6, v7_0, v7_1, v7_2, v7_3, v7_4, v7_5, v7_6, pX5_isSeat, rX5_isSeat, bi_t c, bi_0, h6, ok_se0 w hqP hs6, ix_se0 w hqP hs6, ok_se1 w hqP hs6, ix_se1 w hqP hs6, ok_se2 w hqP hs6, ix_se2 w hqP hs6, eOk_se w hqP hs6, fo_se w hqP hs6, pX5_isFromTo, rX5_isFromTo, rX5_worth, mX5_worth, Option.some.injEq, Value.int.injEq]
    refine ⟨fun d => xfr ?_, fun d => xf0 ?_⟩
    · rw [oWorth, if_neg (fun z => z ⟨c, d⟩)]
    · rw [oWorth, if_pos (fun z => d z.2)]
  · simp only [eX5_worth_0, eX5_worth_1, eX5_worth_2, eX5_worth_5, eX5_worth_8, eX5_worth_9, eX5_worth_10, eX5_worth_12, eX5_worth_15, eX5_worth_18, eX5_worth_19, eX5_worth_20, eX5_worth_23, eX5_worth_24, eX5_worth_25, eX5_worth_28, eX5_worth_31, eX5_worth_32, eX5_worth_33, eX5_worth_36, eX5_worth_37, eX5_worth_38, eX5_worth_41, eX5_worth_44, eX5_worth_45, eX5_worth_46, eX5_worth_47, eX5_worth_50, eX5_worth_51, kl_i, kl_r, kl_n, kl_l, true_and, and_true, true_implies, false_implies, not_true_eq_false, not_false_eq_true, i10, Classical.not_not, ok_x0, rfP, ok_x1, rfT, ok_x2, rfK, ok_x3, ix_x3, ok_x4, rf_x4, ok_x5, rf_x5, ok_x6, rf_x6, as_fdd, ai_fdd, xa_fdd, rd_fdd, ok_h0 w hqP, rf_h0 w hqP, ok_h1 w hqP, rf_h1 w hqP, ok_h2 w hqP, ix_h2 w hqP, ok_h3 w hqP, ix_h3 w hqP, ok_h4 w hqP, ix_h4 w hqP, ar_sa w hqP, rf_sa w hqP, ar_oa w hqP, rf_oa w hqP, hw_0, hw_1, hw_2, hu_0, hu_1, hu_2, on_vw, on_f, se_vw, se_f, vw_pv, pv_pv, ost_uI, sst_uI, sit_d, may_d, far_d, stay_d, goe_d, stp_d, hOk_h w hqP, hq_hA, pX5_finding, mX5_finding, rfx0, rfx1, rfx2, rfx3, rfx4, rfx5, rfx6, N_0, N_1, N_2, N_3, N_4, N_5, N_6, v7_0, v7_1, v7_2, v7_3, v7_4, v7_5, v7_6, pX5_isSeat, rX5_isSeat, bi_f c, rX5_worth, mX5_worth, Option.some.injEq, Value.int.injEq]
    exact xf0 (by rw [oWorth, if_pos (fun z => c z.1)])
set_option maxRecDepth 20000 in
theorem KX5_worth_ok (w : WW) : KOk w MX5_worth (KX5_worth w) := KOk_mk flX5_ok ciX5_ok clX5_ok (fun _ _ h => by cases h) (fun _ _ h => by cases h) (List.forall_mem_cons.mpr ⟨itV (n := 52) (by decide) (COk_V (n := 1) (ci := 5) (ctX5_finding w) wcX5_52 nmX5_finding (by decide) (by decide) rfl (prX5_finding w)), List.forall_mem_cons.mpr ⟨itV (n := 67) (by decide) (COk_V (n := 1) (ci := 5) (ctX5_isSeat w) wcX5_67 nmX5_isSeat (by decide) (by decide) rfl (prX5_isSeat w)), List.forall_mem_cons.mpr ⟨itS (n := 48) (COk_S (n := 3) (ctX5_isFromTo w) wcX5_65584 nmX5_isFromTo (by decide)), List.forall_mem_nil _⟩⟩⟩)
theorem ctX5_worth (w : WW) : CT w yX5_worth MX5_worth (csX5_worth w).2.1 (csX5_worth w).2.2 := by
  refine CT_of (by decide) rfl TX5_worth_ok TX5_worth_v (KX5_worth_ok w) (fun as u h => ?_)
  obtain ⟨a0, a1, a2, rfl, h⟩ := sgRII h
  obtain ⟨rfl, hh⟩ := h
  refine ⟨Nat.le_of_ble_eq_true rfl, ?_⟩
  have key := vX5_worth w a1 a2 u hh
  exact key
theorem prX5_worth (w : WW) : ∀ as u, (csX5_worth w).2.1 as u → ∃ a r, as = .ref a :: r ∧ r.length = 2 ∧ okO w a 5 := by
  intro as u h
  obtain ⟨a0, a1, a2, rfl, h⟩ := sgRII h
  exact ⟨_, _, rfl, rfl, okO_x h⟩
theorem vX5_comes (w : WW) : VX5_comes w := by
  intro k p t u h
  have hv : Hv (vw u (91 * qP)) := h.1
  have e10 : 10 ≤ vw u (91 * qP) 2 → vw u (91 * qP) 2 = 10 := fun z => by
    obtain ⟨M, hM, e⟩ := hv.1.2.1
    rw [e] at z ⊢
    have := (nI_leI (a := 10) (b := M) (by decide) (by omega)).mp z
    rw [show M = 10 by omega]; rfl
  simp only [eX5_comes_0, eX5_comes_1, eX5_comes_4, eX5_comes_7, eX5_comes_8, eX5_comes_11, eX5_comes_14, eX5_comes_15, eX5_comes_16, eX5_comes_18, eX5_comes_21, eX5_comes_24, eX5_comes_25, eX5_comes_26, eX5_comes_29, eX5_comes_30, eX5_comes_31, eX5_comes_34, eX5_comes_37, eX5_comes_40, eX5_comes_41, eX5_comes_42, eX5_comes_45, eX5_comes_46, eX5_comes_47, eX5_comes_50, eX5_comes_51, eX5_comes_52, eX5_comes_53, eX5_comes_56, kl_i, kl_r, kl_n, kl_l, true_and, and_true, true_implies, false_implies, not_true_eq_false, not_false_eq_true, i10, Classical.not_not, ok_x0, rfP, ok_x1, rfT, ok_x2, rfK, ok_x3, ix_x3, ok_x4, rf_x4, ok_x5, rf_x5, ok_x6, rf_x6, as_fdd, ai_fdd, xa_fdd, rd_fdd, ok_h0 w hqP, rf_h0 w hqP, ok_h1 w hqP, rf_h1 w hqP, ok_h2 w hqP, ix_h2 w hqP, ok_h3 w hqP, ix_h3 w hqP, ok_h4 w hqP, ix_h4 w hqP, ar_sa w hqP, rf_sa w hqP, ar_oa w hqP, rf_oa w hqP, hw_0, hw_1, hw_2, hu_0, hu_1, hu_2, on_vw, on_f, se_vw, se_f, vw_pv, pv_pv, ost_uI, sst_uI, sit_d, may_d, far_d, stay_d, goe_d, stp_d, hOk_h w hqP, hq_hA, pX5_finding, mX5_finding, rfx0, rfx1, rfx2, rfx3, rfx4, rfx5, rfx6, N_0, N_1, N_2, N_3, N_4, N_5, N_6, v7_0, v7_1, v7_2, v7_3, v7_4, v7_5, v7_6, pX5_isKind, rX5_isKind, pX5_isSpot, rX5_isSpot, pX5_isFromTo, rX5_isFromTo, bi_0, pX0_hasAllOnes, rX0_hasAllOnes, pX0_addOne, rX0_addOne, mX0_addOne, rX5_comes, mX5_comes, Option.some.injEq, Value.int.injEq]
  refine ⟨fun c1 => xf0 (by rw [oComes, if_pos (fun z => c1 z.1)]), fun c1 => ⟨fun c2 => xf0 (by rw [oComes, if_pos (fun z => c2 z.2.1)]), fun c2 => ⟨fun c3 => ⟨fun c4 => ⟨vp10_of hv.1 c4, xfr ?_⟩, fun c4 => xf1 ?_⟩, fun c3 => xf0 (by rw [oComes, if_pos (fun z => c3 z.2.2)])⟩⟩⟩
  · rw [oComes, if_neg (fun z => z ⟨c1, c2, c3⟩), if_neg (fun z => c4 (by rw [z]; exact Int32.le_refl _))]
  · rw [oComes, if_neg (fun z => z ⟨c1, c2, c3⟩), if_pos (e10 c4)]
theorem wcX5_92 : ∀ x ∈ wV1 RX5 92 yX0_hasAllOnes MX0_hasAllOnes, x ∈ Gt := by decide +kernel
theorem wcX5_95 : ∀ x ∈ wV1 RX5 95 yX0_addOne MX0_addOne, x ∈ Gt := by decide +kernel
theorem wcX5_65625 : ∀ x ∈ wS1 RX5 89 yX5_isKind MX5_isKind, x ∈ Gt := by decide +kernel
theorem nmX5_isKind : nmOk yX5_isKind 1 = true := by decide +kernel
set_option maxRecDepth 20000 in
theorem KX5_comes_ok (w : WW) : KOk w MX5_comes (KX5_comes w) := KOk_mk flX5_ok ciX5_ok clX5_ok (fun _ _ h => by cases h) (fun _ _ h => by cases h) (List.forall_mem_cons.mpr ⟨itV (n := 52) (by decide) (COk_V (n := 1) (ci := 5) (ctX5_finding w) wcX5_52 nmX5_finding (by decide) (by decide) rfl (prX5_finding w)), List.forall_mem_cons.mpr ⟨itV (n := 92) (by decide) (COk_V (n := 0) (ci := 0) (ctX0_hasAllOnes w) wcX5_92 nmX0_hasAllOnes (by decide) (by decide) rfl (prX0_hasAllOnes w)), List.forall_mem_cons.mpr ⟨itV (n := 95) (by decide) (COk_V (n := 3) (ci := 0) (ctX0_addOne w) wcX5_95 nmX0_addOne (by decide) (by decide) rfl (prX0_addOne w)), List.forall_mem_cons.mpr ⟨itS (n := 44) (COk_S (n := 1) (ctX5_isSpot w) wcX5_65580 nmX5_isSpot (by decide)), List.forall_mem_cons.mpr ⟨itS (n := 48) (COk_S (n := 3) (ctX5_isFromTo w) wcX5_65584 nmX5_isFromTo (by decide)), List.forall_mem_cons.mpr ⟨itS (n := 89) (COk_S (n := 1) (ctX5_isKind w) wcX5_65625 nmX5_isKind (by decide)), List.forall_mem_nil _⟩⟩⟩⟩⟩⟩)
theorem ctX5_comes (w : WW) : CT w yX5_comes MX5_comes (csX5_comes w).2.1 (csX5_comes w).2.2 := by
  refine CT_of (by decide) rfl TX5_comes_ok TX5_comes_v (KX5_comes_ok w) (fun as u h => ?_)
  obtain ⟨a0, a1, a2, a3, rfl, h⟩ := sgRIII h
  obtain ⟨rfl, hh⟩ := h
  refine ⟨Nat.le_of_ble_eq_true rfl, ?_⟩
  have key := vX5_comes w a1 a2 a3 u hh
  exact key
theorem prX5_comes (w : WW) : ∀ as u, (csX5_comes w).2.1 as u → ∃ a r, as = .ref a :: r ∧ r.length = 3 ∧ okO w a 5 := by
  intro as u h
  obtain ⟨a0, a1, a2, a3, rfl, h⟩ := sgRIII h
  exact ⟨_, _, rfl, rfl, okO_x h⟩
theorem lean_d (u : MM) (b c : Nat) : rX1_leans (b + (21 + 7 * c)) u = lean (on (vw u b) c 0) (on (vw u b) c 2) := by simp only [rX1_leans, on_f]
theorem vX5_of (w : WW) : VX5_of w := by
  intro s k u hw h
  have hv : Hv (vw u (91 * qP)) := h.1
  by_cases c : isOn (vw u (91 * qP)) s
  · have hs := (isOn_vi hv.1).mp c
    have h6 : vp_in s 10 := vi_mono hs hv.1.K.1
    have hs6 : NN s < 10 := vi_lt h6
    have hk : kO (on (vw u (91 * qP)) (NN s) 0) := (Hv.c hv (vi_lt hs)).1
    simp only [eX5_of_0, eX5_of_1, eX5_of_2, eX5_of_5, eX5_of_8, eX5_of_9, eX5_of_10, eX5_of_13, eX5_of_14, eX5_of_15, eX5_of_18, eX5_of_21, eX5_of_22, eX5_of_23, eX5_of_24, eX5_of_25, eX5_of_80, eX5_of_81, eX5_of_84, eX5_of_85, eX5_of_86, eX5_of_89, eX5_of_90, eX5_of_91, eX5_of_94, eX5_of_95, eX5_of_96, eX5_of_99, eX5_of_100, eX5_of_101, eX5_of_104, eX5_of_105, eX5_of_106, eX5_of_109, eX5_of_110, eX5_of_111, eX5_of_114, eX5_of_115, eX5_of_116, eX5_of_119, eX5_of_120, eX5_of_121, eX5_of_124, eX5_of_125, eX5_of_126, eX5_of_127, eX5_of_130, eX5_of_133, eX5_of_136, eX5_of_137, eX5_of_138, eX5_of_139, eX5_of_142, kl_i, kl_r, kl_n, kl_l, true_and, and_true, true_implies, false_implies, not_true_eq_false, not_false_eq_true, i10, Classical.not_not, ok_x0, rfP, ok_x1, rfT, ok_x2, rfK, ok_x3, ix_x3, ok_x4, rf_x4, ok_x5, rf_x5, ok_x6, rf_x6, as_fdd, ai_fdd, xa_fdd, rd_fdd, ok_h0 w hqP, rf_h0 w hqP, ok_h1 w hqP, rf_h1 w hqP, ok_h2 w hqP, ix_h2 w hqP, ok_h3 w hqP, ix_h3 w hqP, ok_h4 w hqP, ix_h4 w hqP, ar_sa w hqP, rf_sa w hqP, ar_oa w hqP, rf_oa w hqP, hw_0, hw_1, hw_2, hu_0, hu_1, hu_2, on_vw, on_f, se_vw, se_f, vw_pv, pv_pv, ost_uI, sst_uI, sit_d, may_d, far_d, stay_d, goe_d, stp_d, hOk_h w hqP, hq_hA, pX5_finding, mX5_finding, rfx0, rfx1, rfx2, rfx3, rfx4, rfx5, rfx6, N_0, N_1, N_2, N_3, N_4, N_5, N_6, v7_0, v7_1, v7_2, v7_3, v7_4, v7_5, v7_6, pX5_isOne, rX5_isOne, bi_t c, h6, ok_on0 w hqP hs6, ix_on0 w hqP hs6, ok_on1 w hqP hs6, ix_on1 w hqP hs6, ok_on2 w hqP hs6, ix_on2 w hqP hs6, ok_on3 w hqP hs6, ix_on3 w hqP hs6, ok_on4 w hqP hs6, ix_on4 w hqP hs6, ok_on5 w hqP hs6, ix_on5 w hqP hs6, ok_on6 w hqP hs6, ix_on6 w hqP hs6, oOk_on w hqP hs6, fo_on w hqP hs6, hw, pX1_leans, pX1_stays, pX1_goes, hk, lean_d, rX5_of, mX5_of, Option.some.injEq, Value.int.injEq]
    have key : ∀ (j : Nat) (a : Int32), j ≤ 9 → k = nI j → a = ofK (vw u (91 * qP)) (NN s) (nI j) → a = an (oOf (vw u (91 * qP)) s k) ∧ u = moX (oOf (vw u (91 * qP)) s k) u := fun j a hj ek ea => by
      subst ek
      exact xfq (by rw [oOf, if_neg (fun z => z ⟨c, nI_pos' (by omega), nI_le (a := j) (b := 9) hj (by decide)⟩), ea])
    refine ⟨fun e => key 0 _ (by decide) e rfl, fun n0 => ⟨fun e => key 1 _ (by decide) e rfl, fun n1 => ⟨fun e => key 2 _ (by decide) e rfl, fun n2 => ⟨fun e => key 3 _ (by decide) e rfl, fun n3 => ⟨fun e => key 4 _ (by decide) e rfl, fun n4 => ⟨fun e => key 5 _ (by decide) e rfl, fun n5 => ⟨fun e => key 6 _ (by decide) e rfl, fun n6 => ⟨fun e => key 7 _ (by decide) e rfl, fun n7 => ⟨fun e => key 8 _ (by decide) e rfl, fun n8 => ⟨fun e => key 9 _ (by decide) e rfl, fun n9 => xf0 ?_⟩⟩⟩⟩⟩⟩⟩⟩⟩⟩
    rw [oOf, if_pos (fun z => ?_)]
    obtain ⟨j, hj, rfl⟩ := v0_le (m := 9) z.2.1 z.2.2 rfl
    have : j = 0 ∨ j = 1 ∨ j = 2 ∨ j = 3 ∨ j = 4 ∨ j = 5 ∨ j = 6 ∨ j = 7 ∨ j = 8 ∨ j = 9 := by omega
    rcases this with rfl | rfl | rfl | rfl | rfl | rfl | rfl | rfl | rfl | rfl
    · exact n0 rfl
    · exact n1 rfl
    · exact n2 rfl
    · exact n3 rfl
    · exact n4 rfl
    · exact n5 rfl
    · exact n6 rfl
    · exact n7 rfl
    · exact n8 rfl
    · exact n9 rfl
  · simp only [eX5_of_0, eX5_of_1, eX5_of_2, eX5_of_5, eX5_of_8, eX5_of_9, eX5_of_10, eX5_of_13, eX5_of_14, eX5_of_15, eX5_of_18, eX5_of_21, eX5_of_22, eX5_of_23, eX5_of_24, eX5_of_25, eX5_of_80, eX5_of_81, eX5_of_84, eX5_of_85, eX5_of_86, eX5_of_89, eX5_of_90, eX5_of_91, eX5_of_94, eX5_of_95, eX5_of_96, eX5_of_99, eX5_of_100, eX5_of_101, eX5_of_104, eX5_of_105, eX5_of_106, eX5_of_109, eX5_of_110, eX5_of_111, eX5_of_114, eX5_of_115, eX5_of_116, eX5_of_119, eX5_of_120, eX5_of_121, eX5_of_124, eX5_of_125, eX5_of_126, eX5_of_127, eX5_of_130, eX5_of_133, eX5_of_136, eX5_of_137, eX5_of_138, eX5_of_139, eX5_of_142, kl_i, kl_r, kl_n, kl_l, true_and, and_true, true_implies, false_implies, not_true_eq_false, not_false_eq_true, i10, Classical.not_not, ok_x0, rfP, ok_x1, rfT, ok_x2, rfK, ok_x3, ix_x3, ok_x4, rf_x4, ok_x5, rf_x5, ok_x6, rf_x6, as_fdd, ai_fdd, xa_fdd, rd_fdd, ok_h0 w hqP, rf_h0 w hqP, ok_h1 w hqP, rf_h1 w hqP, ok_h2 w hqP, ix_h2 w hqP, ok_h3 w hqP, ix_h3 w hqP, ok_h4 w hqP, ix_h4 w hqP, ar_sa w hqP, rf_sa w hqP, ar_oa w hqP, rf_oa w hqP, hw_0, hw_1, hw_2, hu_0, hu_1, hu_2, on_vw, on_f, se_vw, se_f, vw_pv, pv_pv, ost_uI, sst_uI, sit_d, may_d, far_d, stay_d, goe_d, stp_d, hOk_h w hqP, hq_hA, pX5_finding, mX5_finding, rfx0, rfx1, rfx2, rfx3, rfx4, rfx5, rfx6, N_0, N_1, N_2, N_3, N_4, N_5, N_6, v7_0, v7_1, v7_2, v7_3, v7_4, v7_5, v7_6, pX5_isOne, rX5_isOne, bi_f c, rX5_of, mX5_of, Option.some.injEq, Value.int.injEq]
    exact xf0 (by rw [oOf, if_pos (fun z => c z.1)])
theorem wcX5_99 : ∀ x ∈ wV1 RX5 99 yX5_isOne MX5_isOne, x ∈ Gt := by decide +kernel
theorem nmX5_isOne : nmOk yX5_isOne 1 = true := by decide +kernel
theorem wcX5_127 : ∀ x ∈ wV1 RX5 127 yX1_leans MX1_leans, x ∈ Gt := by decide +kernel
theorem wcX5_131 : ∀ x ∈ wV1 RX5 131 yX1_stays MX1_stays, x ∈ Gt := by decide +kernel
theorem wcX5_137 : ∀ x ∈ wV1 RX5 137 yX1_goes MX1_goes, x ∈ Gt := by decide +kernel
set_option maxRecDepth 20000 in
theorem KX5_of_ok (w : WW) : KOk w MX5_of (KX5_of w) := KOk_mk flX5_ok ciX5_ok clX5_ok (fun _ _ h => by cases h) (fun _ _ h => by cases h) (List.forall_mem_cons.mpr ⟨itV (n := 52) (by decide) (COk_V (n := 1) (ci := 5) (ctX5_finding w) wcX5_52 nmX5_finding (by decide) (by decide) rfl (prX5_finding w)), List.forall_mem_cons.mpr ⟨itV (n := 99) (by decide) (COk_V (n := 1) (ci := 5) (ctX5_isOne w) wcX5_99 nmX5_isOne (by decide) (by decide) rfl (prX5_isOne w)), List.forall_mem_cons.mpr ⟨itV (n := 127) (by decide) (COk_V (n := 0) (ci := 1) (ctX1_leans w) wcX5_127 nmX1_leans (by decide) (by decide) rfl (prX1_leans w)), List.forall_mem_cons.mpr ⟨itV (n := 131) (by decide) (COk_V (n := 0) (ci := 1) (ctX1_stays w) wcX5_131 nmX1_stays (by decide) (by decide) rfl (prX1_stays w)), List.forall_mem_cons.mpr ⟨itV (n := 137) (by decide) (COk_V (n := 1) (ci := 1) (ctX1_goes w) wcX5_137 nmX1_goes (by decide) (by decide) rfl (prX1_goes w)), List.forall_mem_nil _⟩⟩⟩⟩⟩)
theorem ctX5_of (w : WW) : CT w yX5_of MX5_of (csX5_of w).2.1 (csX5_of w).2.2 := by
  refine CT_of (by decide) rfl TX5_of_ok TX5_of_v (KX5_of_ok w) (fun as u h => ?_)
  obtain ⟨a0, a1, a2, rfl, h⟩ := sgRII h
  obtain ⟨rfl, hwok, hh⟩ := h
  refine ⟨Nat.le_of_ble_eq_true rfl, ?_⟩
  have key := vX5_of w a1 a2 u hwok hh
  exact key
theorem prX5_of (w : WW) : ∀ as u, (csX5_of w).2.1 as u → ∃ a r, as = .ref a :: r ∧ r.length = 2 ∧ okO w a 5 := by
  intro as u h
  obtain ⟨a0, a1, a2, rfl, h⟩ := sgRII h
  exact ⟨_, _, rfl, rfl, okO_x h⟩
theorem so1 {R : Nat → Int32} {v : Int32} : setOk R 1 v ↔ in99 v := by unfold setOk; rw [if_neg (by decide), if_neg (by decide)]
theorem so2 {R : Nat → Int32} {v : Int32} : setOk R 2 v ↔ in99 v := by unfold setOk; rw [if_neg (by decide), if_neg (by decide)]
theorem so3 {R : Nat → Int32} (hO : Ok R) {v : Int32} : setOk R 3 v ↔ v = -1 ∨ isSt R v := by
  unfold setOk; rw [if_pos rfl, if_pos rfl]
  obtain ⟨M, hM, e⟩ := hO.1
  constructor
  · rintro ⟨a, b⟩
    by_cases c : v = -1
    · exact Or.inl c
    · refine Or.inr ⟨?_, b⟩
      have h1 := Int32.le_iff_toInt_le.mp a
      have e1 : (-1 : Int32).toInt = -1 := by decide
      have e0 : (0 : Int32).toInt = 0 := by decide
      rw [e1] at h1
      apply Int32.le_iff_toInt_le.mpr
      rw [e0]
      have : v.toInt ≠ -1 := fun z => c (Int32.toInt_inj.mp (by rw [z, e1]))
      omega
  · rintro (rfl | ⟨a, b⟩)
    · refine ⟨Int32.le_refl _, ?_⟩
      rw [e]
      have : M = 0 ∨ M = 1 ∨ M = 2 ∨ M = 3 ∨ M = 4 ∨ M = 5 ∨ M = 6 := by omega
      rcases this with rfl | rfl | rfl | rfl | rfl | rfl | rfl <;> decide
    · exact ⟨Int32.le_trans (by decide) a, b⟩
theorem vX5_changeSpot (w : WW) : VX5_changeSpot w := by
  intro a v u ha h
  obtain ⟨q', c', h1, h2, rfl⟩ := ha
  obtain ⟨hI, c, hcK, eb⟩ := h
  have hv : Hv (vw u (91 * qP)) := hI.1
  have hK := hv.1.K.1
  rw [fo_on w h1 h2] at eb ⊢
  have e1 : q' = qP := by omega
  subst e1
  have e2 : c' = c := by omega
  subst e2
  have hci := Hv.c hv hcK
  have hon : isOn (vw u (91 * qP)) (nI c') := (isOn_vi hv.1).mpr (vi_nI hcK (by omega))
  have hN : NN (nI c') = c' := NN_nI (by omega)
  simp only [eX5_changeSpot_0, eX5_changeSpot_1, eX5_changeSpot_4, eX5_changeSpot_7, eX5_changeSpot_8, eX5_changeSpot_9, eX5_changeSpot_12, eX5_changeSpot_13, eX5_changeSpot_14, eX5_changeSpot_17, eX5_changeSpot_20, eX5_changeSpot_21, eX5_changeSpot_22, eX5_changeSpot_25, eX5_changeSpot_26, eX5_changeSpot_27, eX5_changeSpot_30, eX5_changeSpot_31, eX5_changeSpot_32, eX5_changeSpot_33, eX5_changeSpot_36, eX5_changeSpot_37, kl_i, kl_r, kl_n, kl_l, true_and, and_true, true_implies, false_implies, not_true_eq_false, not_false_eq_true, i10, Classical.not_not, ok_x0, rfP, ok_x1, rfT, ok_x2, rfK, ok_x3, ix_x3, ok_x4, rf_x4, ok_x5, rf_x5, ok_x6, rf_x6, as_fdd, ai_fdd, xa_fdd, rd_fdd, ok_h0 w hqP, rf_h0 w hqP, ok_h1 w hqP, rf_h1 w hqP, ok_h2 w hqP, ix_h2 w hqP, ok_h3 w hqP, ix_h3 w hqP, ok_h4 w hqP, ix_h4 w hqP, ar_sa w hqP, rf_sa w hqP, ar_oa w hqP, rf_oa w hqP, hw_0, hw_1, hw_2, hu_0, hu_1, hu_2, on_vw, on_f, se_vw, se_f, vw_pv, pv_pv, ost_uI, sst_uI, sit_d, may_d, far_d, stay_d, goe_d, stp_d, hOk_h w hqP, hq_hA, pX5_finding, mX5_finding, rfx0, rfx1, rfx2, rfx3, rfx4, rfx5, rfx6, N_0, N_1, N_2, N_3, N_4, N_5, N_6, v7_0, v7_1, v7_2, v7_3, v7_4, v7_5, v7_6, ok_on0 w hqP h2, ix_on0 w hqP h2, ok_on1 w hqP h2, ix_on1 w hqP h2, ok_on2 w hqP h2, ix_on2 w hqP h2, ok_on3 w hqP h2, ix_on3 w hqP h2, ok_on4 w hqP h2, ix_on4 w hqP h2, ok_on5 w hqP h2, ix_on5 w hqP h2, ok_on6 w hqP h2, ix_on6 w hqP h2, oOk_on w hqP h2, fo_on w hqP h2, pX5_isSpot, rX5_isSpot, bi_0, pX1_sits, rX5_changeSpot, mX5_changeSpot, oc_eq, Option.some.injEq, Value.int.injEq]
  refine ⟨fun d => ⟨fun f => xfr ?_, fun f => xf4 ?_⟩, fun d => xf0 ?_⟩
  · rw [oSet, if_neg (fun z => z ⟨hon, ⟨by decide, by decide⟩, so1.mpr d⟩), if_neg (fun z => z.2 (by rw [hN]; exact hci.sit.mpr f)), hN, N_1]
  · rw [oSet, if_neg (fun z => z ⟨hon, ⟨by decide, by decide⟩, so1.mpr d⟩), if_pos ⟨rfl, fun z => f (hci.sit.mp (by rw [hN] at z; exact z))⟩]
  · rw [oSet, if_pos (fun z => d (so1.mp z.2.2))]
theorem wcX5_150 : ∀ x ∈ wV1 RX5 150 yX1_sits MX1_sits, x ∈ Gt := by decide +kernel
set_option maxRecDepth 20000 in
theorem KX5_changeSpot_ok (w : WW) : KOk w MX5_changeSpot (KX5_changeSpot w) := KOk_mk flX5_ok ciX5_ok clX5_ok (fun _ _ h => by cases h) (fun _ _ h => by cases h) (List.forall_mem_cons.mpr ⟨itV (n := 52) (by decide) (COk_V (n := 1) (ci := 5) (ctX5_finding w) wcX5_52 nmX5_finding (by decide) (by decide) rfl (prX5_finding w)), List.forall_mem_cons.mpr ⟨itV (n := 150) (by decide) (COk_V (n := 0) (ci := 1) (ctX1_sits w) wcX5_150 nmX1_sits (by decide) (by decide) rfl (prX1_sits w)), List.forall_mem_cons.mpr ⟨itS (n := 44) (COk_S (n := 1) (ctX5_isSpot w) wcX5_65580 nmX5_isSpot (by decide)), List.forall_mem_nil _⟩⟩⟩)
theorem ctX5_changeSpot (w : WW) : CT w yX5_changeSpot MX5_changeSpot (csX5_changeSpot w).2.1 (csX5_changeSpot w).2.2 := by
  refine CT_of (by decide) rfl TX5_changeSpot_ok TX5_changeSpot_v (KX5_changeSpot_ok w) (fun as u h => ?_)
  obtain ⟨a0, a1, a2, rfl, h⟩ := sgRRI h
  obtain ⟨rfl, h1, hh⟩ := h
  refine ⟨Nat.le_of_ble_eq_true rfl, ?_⟩
  have key := vX5_changeSpot w a1 a2 u h1 hh
  exact key
theorem prX5_changeSpot (w : WW) : ∀ as u, (csX5_changeSpot w).2.1 as u → ∃ a r, as = .ref a :: r ∧ r.length = 2 ∧ okO w a 5 := by
  intro as u h
  obtain ⟨a0, a1, a2, rfl, h⟩ := sgRRI h
  exact ⟨_, _, rfl, rfl, okO_x h⟩
theorem vX5_changeToes (w : WW) : VX5_changeToes w := by
  intro a v u ha h
  obtain ⟨q', c', h1, h2, rfl⟩ := ha
  obtain ⟨hI, c, hcK, eb⟩ := h
  have hv : Hv (vw u (91 * qP)) := hI.1
  have hK := hv.1.K.1
  rw [fo_on w h1 h2] at eb ⊢
  have e1 : q' = qP := by omega
  subst e1
  have e2 : c' = c := by omega
  subst e2
  have hon : isOn (vw u (91 * qP)) (nI c') := (isOn_vi hv.1).mpr (vi_nI hcK (by omega))
  have hN : NN (nI c') = c' := NN_nI (by omega)
  simp only [eX5_changeToes_0, eX5_changeToes_1, eX5_changeToes_2, eX5_changeToes_4, eX5_changeToes_7, eX5_changeToes_10, eX5_changeToes_11, eX5_changeToes_12, eX5_changeToes_15, eX5_changeToes_16, eX5_changeToes_17, eX5_changeToes_20, eX5_changeToes_21, eX5_changeToes_22, eX5_changeToes_23, eX5_changeToes_26, eX5_changeToes_27, kl_i, kl_r, kl_n, kl_l, true_and, and_true, true_implies, false_implies, not_true_eq_false, not_false_eq_true, i10, Classical.not_not, ok_x0, rfP, ok_x1, rfT, ok_x2, rfK, ok_x3, ix_x3, ok_x4, rf_x4, ok_x5, rf_x5, ok_x6, rf_x6, as_fdd, ai_fdd, xa_fdd, rd_fdd, ok_h0 w hqP, rf_h0 w hqP, ok_h1 w hqP, rf_h1 w hqP, ok_h2 w hqP, ix_h2 w hqP, ok_h3 w hqP, ix_h3 w hqP, ok_h4 w hqP, ix_h4 w hqP, ar_sa w hqP, rf_sa w hqP, ar_oa w hqP, rf_oa w hqP, hw_0, hw_1, hw_2, hu_0, hu_1, hu_2, on_vw, on_f, se_vw, se_f, vw_pv, pv_pv, ost_uI, sst_uI, sit_d, may_d, far_d, stay_d, goe_d, stp_d, hOk_h w hqP, hq_hA, pX5_finding, mX5_finding, rfx0, rfx1, rfx2, rfx3, rfx4, rfx5, rfx6, N_0, N_1, N_2, N_3, N_4, N_5, N_6, v7_0, v7_1, v7_2, v7_3, v7_4, v7_5, v7_6, ok_on0 w hqP h2, ix_on0 w hqP h2, ok_on1 w hqP h2, ix_on1 w hqP h2, ok_on2 w hqP h2, ix_on2 w hqP h2, ok_on3 w hqP h2, ix_on3 w hqP h2, ok_on4 w hqP h2, ix_on4 w hqP h2, ok_on5 w hqP h2, ix_on5 w hqP h2, ok_on6 w hqP h2, ix_on6 w hqP h2, oOk_on w hqP h2, fo_on w hqP h2, pX5_isFromTo, rX5_isFromTo, bi_0, rX5_changeToes, mX5_changeToes, oc_eq, Option.some.injEq, Value.int.injEq]
  refine ⟨fun d => xfr ?_, fun d => xf0 ?_⟩
  · rw [oSet, if_neg (fun z => z ⟨hon, ⟨by decide, by decide⟩, so2.mpr d⟩), if_neg (fun z => absurd z.1 (by decide)), hN, N_2]
  · rw [oSet, if_pos (fun z => d (so2.mp z.2.2))]
set_option maxRecDepth 20000 in
theorem KX5_changeToes_ok (w : WW) : KOk w MX5_changeToes (KX5_changeToes w) := KOk_mk flX5_ok ciX5_ok clX5_ok (fun _ _ h => by cases h) (fun _ _ h => by cases h) (List.forall_mem_cons.mpr ⟨itV (n := 52) (by decide) (COk_V (n := 1) (ci := 5) (ctX5_finding w) wcX5_52 nmX5_finding (by decide) (by decide) rfl (prX5_finding w)), List.forall_mem_cons.mpr ⟨itS (n := 48) (COk_S (n := 3) (ctX5_isFromTo w) wcX5_65584 nmX5_isFromTo (by decide)), List.forall_mem_nil _⟩⟩)
theorem ctX5_changeToes (w : WW) : CT w yX5_changeToes MX5_changeToes (csX5_changeToes w).2.1 (csX5_changeToes w).2.2 := by
  refine CT_of (by decide) rfl TX5_changeToes_ok TX5_changeToes_v (KX5_changeToes_ok w) (fun as u h => ?_)
  obtain ⟨a0, a1, a2, rfl, h⟩ := sgRRI h
  obtain ⟨rfl, h1, hh⟩ := h
  refine ⟨Nat.le_of_ble_eq_true rfl, ?_⟩
  have key := vX5_changeToes w a1 a2 u h1 hh
  exact key
theorem prX5_changeToes (w : WW) : ∀ as u, (csX5_changeToes w).2.1 as u → ∃ a r, as = .ref a :: r ∧ r.length = 2 ∧ okO w a 5 := by
  intro as u h
  obtain ⟨a0, a1, a2, rfl, h⟩ := sgRRI h
  exact ⟨_, _, rfl, rfl, okO_x h⟩
theorem vX5_changeWill (w : WW) : VX5_changeWill w := by
  intro a v u ha h
  obtain ⟨q', c', h1, h2, rfl⟩ := ha
  obtain ⟨hI, c, hcK, eb⟩ := h
  have hv : Hv (vw u (91 * qP)) := hI.1
  have hK := hv.1.K.1
  rw [fo_on w h1 h2] at eb ⊢
  have e1 : q' = qP := by omega
  subst e1
  have e2 : c' = c := by omega
  subst e2
  have hon : isOn (vw u (91 * qP)) (nI c') := (isOn_vi hv.1).mpr (vi_nI hcK (by omega))
  have hN : NN (nI c') = c' := NN_nI (by omega)
  have ok : v = -1 ∨ isSt (vw u (91 * qP)) v → oSet (vw u (91 * qP)) (nI c') 3 v = .inr (on (vw u (91 * qP)) c' 3, ost (vw u (91 * qP)) c' 3 v) := fun d => by
    rw [oSet, if_neg (fun z => z ⟨hon, ⟨by decide, by decide⟩, (so3 hv.1).mpr d⟩), if_neg (fun z => absurd z.1 (by decide)), hN, N_3]
  simp only [eX5_changeWill_0, eX5_changeWill_1, eX5_changeWill_2, eX5_changeWill_5, eX5_changeWill_6, eX5_changeWill_7, eX5_changeWill_10, eX5_changeWill_13, eX5_changeWill_14, eX5_changeWill_15, eX5_changeWill_18, eX5_changeWill_19, eX5_changeWill_20, eX5_changeWill_23, eX5_changeWill_24, eX5_changeWill_25, eX5_changeWill_26, eX5_changeWill_29, eX5_changeWill_30, kl_i, kl_r, kl_n, kl_l, true_and, and_true, true_implies, false_implies, not_true_eq_false, not_false_eq_true, i10, Classical.not_not, ok_x0, rfP, ok_x1, rfT, ok_x2, rfK, ok_x3, ix_x3, ok_x4, rf_x4, ok_x5, rf_x5, ok_x6, rf_x6, as_fdd, ai_fdd, xa_fdd, rd_fdd, ok_h0 w hqP, rf_h0 w hqP, ok_h1 w hqP, rf_h1 w hqP, ok_h2 w hqP, ix_h2 w hqP, ok_h3 w hqP, ix_h3 w hqP, ok_h4 w hqP, ix_h4 w hqP, ar_sa w hqP, rf_sa w hqP, ar_oa w hqP, rf_oa w hqP, hw_0, hw_1, hw_2, hu_0, hu_1, hu_2, on_vw, on_f, se_vw, se_f, vw_pv, pv_pv, ost_uI, sst_uI, sit_d, may_d, far_d, stay_d, goe_d, stp_d, hOk_h w hqP, hq_hA, pX5_finding, mX5_finding, rfx0, rfx1, rfx2, rfx3, rfx4, rfx5, rfx6, N_0, N_1, N_2, N_3, N_4, N_5, N_6, v7_0, v7_1, v7_2, v7_3, v7_4, v7_5, v7_6, ok_on0 w hqP h2, ix_on0 w hqP h2, ok_on1 w hqP h2, ix_on1 w hqP h2, ok_on2 w hqP h2, ix_on2 w hqP h2, ok_on3 w hqP h2, ix_on3 w hqP h2, ok_on4 w hqP h2, ix_on4 w hqP h2, ok_on5 w hqP h2, ix_on5 w hqP h2, ok_on6 w hqP h2, ix_on6 w hqP h2, oOk_on w hqP h2, fo_on w hqP h2, pX5_isSeat, rX5_isSeat, bi_0, rX5_changeWill, mX5_changeWill, oc_eq, Option.some.injEq, Value.int.injEq]
  refine ⟨fun d => xfr (ok (Or.inl d)), fun d => ⟨fun f => xfr (ok (Or.inr f)), fun f => xf0 ?_⟩⟩
  rw [oSet, if_pos (fun z => ((so3 hv.1).mp z.2.2).elim d f)]
set_option maxRecDepth 20000 in
theorem KX5_changeWill_ok (w : WW) : KOk w MX5_changeWill (KX5_changeWill w) := KOk_mk flX5_ok ciX5_ok clX5_ok (fun _ _ h => by cases h) (fun _ _ h => by cases h) (List.forall_mem_cons.mpr ⟨itV (n := 52) (by decide) (COk_V (n := 1) (ci := 5) (ctX5_finding w) wcX5_52 nmX5_finding (by decide) (by decide) rfl (prX5_finding w)), List.forall_mem_cons.mpr ⟨itV (n := 67) (by decide) (COk_V (n := 1) (ci := 5) (ctX5_isSeat w) wcX5_67 nmX5_isSeat (by decide) (by decide) rfl (prX5_isSeat w)), List.forall_mem_nil _⟩⟩)
theorem ctX5_changeWill (w : WW) : CT w yX5_changeWill MX5_changeWill (csX5_changeWill w).2.1 (csX5_changeWill w).2.2 := by
  refine CT_of (by decide) rfl TX5_changeWill_ok TX5_changeWill_v (KX5_changeWill_ok w) (fun as u h => ?_)
  obtain ⟨a0, a1, a2, rfl, h⟩ := sgRRI h
  obtain ⟨rfl, h1, hh⟩ := h
  refine ⟨Nat.le_of_ble_eq_true rfl, ?_⟩
  have key := vX5_changeWill w a1 a2 u h1 hh
  exact key
theorem prX5_changeWill (w : WW) : ∀ as u, (csX5_changeWill w).2.1 as u → ∃ a r, as = .ref a :: r ∧ r.length = 2 ∧ okO w a 5 := by
  intro as u h
  obtain ⟨a0, a1, a2, rfl, h⟩ := sgRRI h
  exact ⟨_, _, rfl, rfl, okO_x h⟩
theorem vX5_set (w : WW) : VX5_set w := by
  intro s k v u h
  have hv : Hv (vw u (91 * qP)) := h.1
  by_cases c : isOn (vw u (91 * qP)) s
  · have hs := (isOn_vi hv.1).mp c
    have h6 : vp_in s 10 := vi_mono hs hv.1.K.1
    have hs6 : NN s < 10 := vi_lt h6
    have es : nI (NN s) = s := (vi_eq h6).symm
    have hp : pOn (91 * qP + (21 + 7 * NN s)) u := ⟨h, NN s, vi_lt hs, rfl⟩
    simp only [eX5_set_0, eX5_set_1, eX5_set_2, eX5_set_5, eX5_set_8, eX5_set_9, eX5_set_10, eX5_set_13, eX5_set_14, eX5_set_15, eX5_set_40, eX5_set_41, eX5_set_42, eX5_set_45, eX5_set_48, eX5_set_49, eX5_set_50, eX5_set_51, eX5_set_54, eX5_set_55, eX5_set_56, eX5_set_57, eX5_set_60, eX5_set_63, eX5_set_64, eX5_set_65, eX5_set_66, eX5_set_69, eX5_set_70, eX5_set_71, eX5_set_72, eX5_set_75, eX5_set_78, eX5_set_79, eX5_set_80, eX5_set_81, eX5_set_84, eX5_set_85, eX5_set_86, eX5_set_87, eX5_set_90, kl_i, kl_r, kl_n, kl_l, true_and, and_true, true_implies, false_implies, not_true_eq_false, not_false_eq_true, i10, Classical.not_not, ok_x0, rfP, ok_x1, rfT, ok_x2, rfK, ok_x3, ix_x3, ok_x4, rf_x4, ok_x5, rf_x5, ok_x6, rf_x6, as_fdd, ai_fdd, xa_fdd, rd_fdd, ok_h0 w hqP, rf_h0 w hqP, ok_h1 w hqP, rf_h1 w hqP, ok_h2 w hqP, ix_h2 w hqP, ok_h3 w hqP, ix_h3 w hqP, ok_h4 w hqP, ix_h4 w hqP, ar_sa w hqP, rf_sa w hqP, ar_oa w hqP, rf_oa w hqP, hw_0, hw_1, hw_2, hu_0, hu_1, hu_2, on_vw, on_f, se_vw, se_f, vw_pv, pv_pv, ost_uI, sst_uI, sit_d, may_d, far_d, stay_d, goe_d, stp_d, hOk_h w hqP, hq_hA, pX5_finding, mX5_finding, rfx0, rfx1, rfx2, rfx3, rfx4, rfx5, rfx6, N_0, N_1, N_2, N_3, N_4, N_5, N_6, v7_0, v7_1, v7_2, v7_3, v7_4, v7_5, v7_6, pX5_isOne, rX5_isOne, bi_t c, h6, ok_on0 w hqP hs6, ix_on0 w hqP hs6, ok_on1 w hqP hs6, ix_on1 w hqP hs6, ok_on2 w hqP hs6, ix_on2 w hqP hs6, ok_on3 w hqP hs6, ix_on3 w hqP hs6, ok_on4 w hqP hs6, ix_on4 w hqP hs6, ok_on5 w hqP hs6, ix_on5 w hqP hs6, ok_on6 w hqP hs6, ix_on6 w hqP hs6, oOk_on w hqP hs6, fo_on w hqP hs6, pX5_changeSpot, pX5_changeToes, pX5_changeWill, eq_true hp, rX5_changeSpot, rX5_changeToes, rX5_changeWill, mX5_changeSpot, mX5_changeToes, mX5_changeWill, oc_eq, es, rX5_set, mX5_set, Option.some.injEq, Value.int.injEq]
    refine ⟨fun e => by rw [e]; exact ⟨rfl, rfl⟩, fun n1 => ⟨fun e => by rw [e]; exact ⟨rfl, rfl⟩, fun n2 => ⟨fun e => by rw [e]; exact ⟨rfl, rfl⟩, fun n3 => xf0 ?_⟩⟩⟩
    rw [oSet, if_pos (fun z => ?_)]
    obtain ⟨j, hj, rfl⟩ := v0_le (m := 3) (Int32.le_trans (by decide) z.2.1.1) z.2.1.2 rfl
    have : j = 0 ∨ j = 1 ∨ j = 2 ∨ j = 3 := by omega
    rcases this with rfl | rfl | rfl | rfl
    · exact absurd z.2.1.1 (by decide)
    · exact n1 rfl
    · exact n2 rfl
    · exact n3 rfl
  · simp only [eX5_set_0, eX5_set_1, eX5_set_2, eX5_set_5, eX5_set_8, eX5_set_9, eX5_set_10, eX5_set_13, eX5_set_14, eX5_set_15, eX5_set_40, eX5_set_41, eX5_set_42, eX5_set_45, eX5_set_48, eX5_set_49, eX5_set_50, eX5_set_51, eX5_set_54, eX5_set_55, eX5_set_56, eX5_set_57, eX5_set_60, eX5_set_63, eX5_set_64, eX5_set_65, eX5_set_66, eX5_set_69, eX5_set_70, eX5_set_71, eX5_set_72, eX5_set_75, eX5_set_78, eX5_set_79, eX5_set_80, eX5_set_81, eX5_set_84, eX5_set_85, eX5_set_86, eX5_set_87, eX5_set_90, kl_i, kl_r, kl_n, kl_l, true_and, and_true, true_implies, false_implies, not_true_eq_false, not_false_eq_true, i10, Classical.not_not, ok_x0, rfP, ok_x1, rfT, ok_x2, rfK, ok_x3, ix_x3, ok_x4, rf_x4, ok_x5, rf_x5, ok_x6, rf_x6, as_fdd, ai_fdd, xa_fdd, rd_fdd, ok_h0 w hqP, rf_h0 w hqP, ok_h1 w hqP, rf_h1 w hqP, ok_h2 w hqP, ix_h2 w hqP, ok_h3 w hqP, ix_h3 w hqP, ok_h4 w hqP, ix_h4 w hqP, ar_sa w hqP, rf_sa w hqP, ar_oa w hqP, rf_oa w hqP, hw_0, hw_1, hw_2, hu_0, hu_1, hu_2, on_vw, on_f, se_vw, se_f, vw_pv, pv_pv, ost_uI, sst_uI, sit_d, may_d, far_d, stay_d, goe_d, stp_d, hOk_h w hqP, hq_hA, pX5_finding, mX5_finding, rfx0, rfx1, rfx2, rfx3, rfx4, rfx5, rfx6, N_0, N_1, N_2, N_3, N_4, N_5, N_6, v7_0, v7_1, v7_2, v7_3, v7_4, v7_5, v7_6, pX5_isOne, rX5_isOne, bi_f c, rX5_set, mX5_set, Option.some.injEq, Value.int.injEq]
    exact xf0 (by rw [oSet, if_pos (fun z => c z.1)])
theorem wcX5_140 : ∀ x ∈ wV1 RX5 140 yX5_changeSpot MX5_changeSpot, x ∈ Gt := by decide +kernel
theorem nmX5_changeSpot : nmOk yX5_changeSpot 2 = true := by decide +kernel
theorem wcX5_144 : ∀ x ∈ wV1 RX5 144 yX5_changeToes MX5_changeToes, x ∈ Gt := by decide +kernel
theorem nmX5_changeToes : nmOk yX5_changeToes 2 = true := by decide +kernel
theorem wcX5_147 : ∀ x ∈ wV1 RX5 147 yX5_changeWill MX5_changeWill, x ∈ Gt := by decide +kernel
theorem nmX5_changeWill : nmOk yX5_changeWill 2 = true := by decide +kernel
set_option maxRecDepth 20000 in
theorem KX5_set_ok (w : WW) : KOk w MX5_set (KX5_set w) := KOk_mk flX5_ok ciX5_ok clX5_ok (fun _ _ h => by cases h) (fun _ _ h => by cases h) (List.forall_mem_cons.mpr ⟨itV (n := 52) (by decide) (COk_V (n := 1) (ci := 5) (ctX5_finding w) wcX5_52 nmX5_finding (by decide) (by decide) rfl (prX5_finding w)), List.forall_mem_cons.mpr ⟨itV (n := 99) (by decide) (COk_V (n := 1) (ci := 5) (ctX5_isOne w) wcX5_99 nmX5_isOne (by decide) (by decide) rfl (prX5_isOne w)), List.forall_mem_cons.mpr ⟨itV (n := 140) (by decide) (COk_V (n := 2) (ci := 5) (ctX5_changeSpot w) wcX5_140 nmX5_changeSpot (by decide) (by decide) rfl (prX5_changeSpot w)), List.forall_mem_cons.mpr ⟨itV (n := 144) (by decide) (COk_V (n := 2) (ci := 5) (ctX5_changeToes w) wcX5_144 nmX5_changeToes (by decide) (by decide) rfl (prX5_changeToes w)), List.forall_mem_cons.mpr ⟨itV (n := 147) (by decide) (COk_V (n := 2) (ci := 5) (ctX5_changeWill w) wcX5_147 nmX5_changeWill (by decide) (by decide) rfl (prX5_changeWill w)), List.forall_mem_nil _⟩⟩⟩⟩⟩)
theorem ctX5_set (w : WW) : CT w yX5_set MX5_set (csX5_set w).2.1 (csX5_set w).2.2 := by
  refine CT_of (by decide) rfl TX5_set_ok TX5_set_v (KX5_set_ok w) (fun as u h => ?_)
  obtain ⟨a0, a1, a2, a3, rfl, h⟩ := sgRIII h
  obtain ⟨rfl, hh⟩ := h
  refine ⟨Nat.le_of_ble_eq_true rfl, ?_⟩
  have key := vX5_set w a1 a2 a3 u hh
  exact key
theorem prX5_set (w : WW) : ∀ as u, (csX5_set w).2.1 as u → ∃ a r, as = .ref a :: r ∧ r.length = 3 ∧ okO w a 5 := by
  intro as u h
  obtain ⟨a0, a1, a2, a3, rfl, h⟩ := sgRIII h
  exact ⟨_, _, rfl, rfl, okO_x h⟩
theorem vX5_turn (w : WW) : VX5_turn w := by
  intro s k u h
  have hv : Hv (vw u (91 * qP)) := h.1
  by_cases c : isOn (vw u (91 * qP)) s
  · have hs := (isOn_vi hv.1).mp c
    have h6 : vp_in s 10 := vi_mono hs hv.1.K.1
    have hs6 : NN s < 10 := vi_lt h6
    simp only [eX5_turn_0, eX5_turn_1, eX5_turn_2, eX5_turn_5, eX5_turn_8, eX5_turn_9, eX5_turn_12, eX5_turn_15, eX5_turn_16, eX5_turn_17, eX5_turn_20, eX5_turn_21, eX5_turn_22, eX5_turn_25, eX5_turn_28, eX5_turn_29, eX5_turn_30, eX5_turn_33, eX5_turn_34, eX5_turn_35, eX5_turn_38, eX5_turn_41, eX5_turn_42, eX5_turn_43, eX5_turn_44, eX5_turn_47, eX5_turn_48, kl_i, kl_r, kl_n, kl_l, true_and, and_true, true_implies, false_implies, not_true_eq_false, not_false_eq_true, i10, Classical.not_not, ok_x0, rfP, ok_x1, rfT, ok_x2, rfK, ok_x3, ix_x3, ok_x4, rf_x4, ok_x5, rf_x5, ok_x6, rf_x6, as_fdd, ai_fdd, xa_fdd, rd_fdd, ok_h0 w hqP, rf_h0 w hqP, ok_h1 w hqP, rf_h1 w hqP, ok_h2 w hqP, ix_h2 w hqP, ok_h3 w hqP, ix_h3 w hqP, ok_h4 w hqP, ix_h4 w hqP, ar_sa w hqP, rf_sa w hqP, ar_oa w hqP, rf_oa w hqP, hw_0, hw_1, hw_2, hu_0, hu_1, hu_2, on_vw, on_f, se_vw, se_f, vw_pv, pv_pv, ost_uI, sst_uI, sit_d, may_d, far_d, stay_d, goe_d, stp_d, hOk_h w hqP, hq_hA, pX5_finding, mX5_finding, rfx0, rfx1, rfx2, rfx3, rfx4, rfx5, rfx6, N_0, N_1, N_2, N_3, N_4, N_5, N_6, v7_0, v7_1, v7_2, v7_3, v7_4, v7_5, v7_6, pX5_isOne, rX5_isOne, bi_t c, bi_0, h6, ok_on0 w hqP hs6, ix_on0 w hqP hs6, ok_on1 w hqP hs6, ix_on1 w hqP hs6, ok_on2 w hqP hs6, ix_on2 w hqP hs6, ok_on3 w hqP hs6, ix_on3 w hqP hs6, ok_on4 w hqP hs6, ix_on4 w hqP hs6, ok_on5 w hqP hs6, ix_on5 w hqP hs6, ok_on6 w hqP hs6, ix_on6 w hqP hs6, oOk_on w hqP hs6, fo_on w hqP hs6, pX5_isKind, rX5_isKind, rX5_turn, mX5_turn, Option.some.injEq, Value.int.injEq]
    refine ⟨fun d => xfr ?_, fun d => xf0 ?_⟩
    · rw [oTurn, if_neg (fun z => z ⟨c, d⟩)]
    · rw [oTurn, if_pos (fun z => d z.2)]
  · simp only [eX5_turn_0, eX5_turn_1, eX5_turn_2, eX5_turn_5, eX5_turn_8, eX5_turn_9, eX5_turn_12, eX5_turn_15, eX5_turn_16, eX5_turn_17, eX5_turn_20, eX5_turn_21, eX5_turn_22, eX5_turn_25, eX5_turn_28, eX5_turn_29, eX5_turn_30, eX5_turn_33, eX5_turn_34, eX5_turn_35, eX5_turn_38, eX5_turn_41, eX5_turn_42, eX5_turn_43, eX5_turn_44, eX5_turn_47, eX5_turn_48, kl_i, kl_r, kl_n, kl_l, true_and, and_true, true_implies, false_implies, not_true_eq_false, not_false_eq_true, i10, Classical.not_not, ok_x0, rfP, ok_x1, rfT, ok_x2, rfK, ok_x3, ix_x3, ok_x4, rf_x4, ok_x5, rf_x5, ok_x6, rf_x6, as_fdd, ai_fdd, xa_fdd, rd_fdd, ok_h0 w hqP, rf_h0 w hqP, ok_h1 w hqP, rf_h1 w hqP, ok_h2 w hqP, ix_h2 w hqP, ok_h3 w hqP, ix_h3 w hqP, ok_h4 w hqP, ix_h4 w hqP, ar_sa w hqP, rf_sa w hqP, ar_oa w hqP, rf_oa w hqP, hw_0, hw_1, hw_2, hu_0, hu_1, hu_2, on_vw, on_f, se_vw, se_f, vw_pv, pv_pv, ost_uI, sst_uI, sit_d, may_d, far_d, stay_d, goe_d, stp_d, hOk_h w hqP, hq_hA, pX5_finding, mX5_finding, rfx0, rfx1, rfx2, rfx3, rfx4, rfx5, rfx6, N_0, N_1, N_2, N_3, N_4, N_5, N_6, v7_0, v7_1, v7_2, v7_3, v7_4, v7_5, v7_6, pX5_isOne, rX5_isOne, bi_f c, rX5_turn, mX5_turn, Option.some.injEq, Value.int.injEq]
    exact xf0 (by rw [oTurn, if_pos (fun z => c z.1)])
set_option maxRecDepth 20000 in
theorem KX5_turn_ok (w : WW) : KOk w MX5_turn (KX5_turn w) := KOk_mk flX5_ok ciX5_ok clX5_ok (fun _ _ h => by cases h) (fun _ _ h => by cases h) (List.forall_mem_cons.mpr ⟨itV (n := 52) (by decide) (COk_V (n := 1) (ci := 5) (ctX5_finding w) wcX5_52 nmX5_finding (by decide) (by decide) rfl (prX5_finding w)), List.forall_mem_cons.mpr ⟨itV (n := 99) (by decide) (COk_V (n := 1) (ci := 5) (ctX5_isOne w) wcX5_99 nmX5_isOne (by decide) (by decide) rfl (prX5_isOne w)), List.forall_mem_cons.mpr ⟨itS (n := 89) (COk_S (n := 1) (ctX5_isKind w) wcX5_65625 nmX5_isKind (by decide)), List.forall_mem_nil _⟩⟩⟩)
theorem ctX5_turn (w : WW) : CT w yX5_turn MX5_turn (csX5_turn w).2.1 (csX5_turn w).2.2 := by
  refine CT_of (by decide) rfl TX5_turn_ok TX5_turn_v (KX5_turn_ok w) (fun as u h => ?_)
  obtain ⟨a0, a1, a2, rfl, h⟩ := sgRII h
  obtain ⟨rfl, hh⟩ := h
  refine ⟨Nat.le_of_ble_eq_true rfl, ?_⟩
  have key := vX5_turn w a1 a2 u hh
  exact key
theorem prX5_turn (w : WW) : ∀ as u, (csX5_turn w).2.1 as u → ∃ a r, as = .ref a :: r ∧ r.length = 2 ∧ okO w a 5 := by
  intro as u h
  obtain ⟨a0, a1, a2, rfl, h⟩ := sgRII h
  exact ⟨_, _, rfl, rfl, okO_x h⟩
theorem ofk_d (u : MM) (b c : Nat) (k : Int32) : rX1_isOfKind (b + (21 + 7 * c)) k u = bi (under (on (vw u b) c 0) k) := by simp only [rX1_isOfKind, on_f]
theorem vX5_as (w : WW) : VX5_as w := by
  intro s k u hw h
  have hv : Hv (vw u (91 * qP)) := h.1
  by_cases c : isOn (vw u (91 * qP)) s
  · have hs := (isOn_vi hv.1).mp c
    have h6 : vp_in s 10 := vi_mono hs hv.1.K.1
    have hs6 : NN s < 10 := vi_lt h6
    have hk : kO (on (vw u (91 * qP)) (NN s) 0) := (Hv.c hv (vi_lt hs)).1
    simp only [eX5_as_0, eX5_as_1, eX5_as_2, eX5_as_5, eX5_as_8, eX5_as_9, eX5_as_12, eX5_as_15, eX5_as_16, eX5_as_17, eX5_as_20, eX5_as_21, eX5_as_22, eX5_as_25, eX5_as_28, eX5_as_29, eX5_as_30, eX5_as_31, eX5_as_34, eX5_as_37, eX5_as_38, eX5_as_39, eX5_as_42, eX5_as_43, eX5_as_44, eX5_as_47, eX5_as_50, eX5_as_51, eX5_as_52, eX5_as_55, kl_i, kl_r, kl_n, kl_l, true_and, and_true, true_implies, false_implies, not_true_eq_false, not_false_eq_true, i10, Classical.not_not, ok_x0, rfP, ok_x1, rfT, ok_x2, rfK, ok_x3, ix_x3, ok_x4, rf_x4, ok_x5, rf_x5, ok_x6, rf_x6, as_fdd, ai_fdd, xa_fdd, rd_fdd, ok_h0 w hqP, rf_h0 w hqP, ok_h1 w hqP, rf_h1 w hqP, ok_h2 w hqP, ix_h2 w hqP, ok_h3 w hqP, ix_h3 w hqP, ok_h4 w hqP, ix_h4 w hqP, ar_sa w hqP, rf_sa w hqP, ar_oa w hqP, rf_oa w hqP, hw_0, hw_1, hw_2, hu_0, hu_1, hu_2, on_vw, on_f, se_vw, se_f, vw_pv, pv_pv, ost_uI, sst_uI, sit_d, may_d, far_d, stay_d, goe_d, stp_d, hOk_h w hqP, hq_hA, pX5_finding, mX5_finding, rfx0, rfx1, rfx2, rfx3, rfx4, rfx5, rfx6, N_0, N_1, N_2, N_3, N_4, N_5, N_6, v7_0, v7_1, v7_2, v7_3, v7_4, v7_5, v7_6, pX5_isOne, rX5_isOne, bi_t c, bi_0, h6, ok_on0 w hqP hs6, ix_on0 w hqP hs6, ok_on1 w hqP hs6, ix_on1 w hqP hs6, ok_on2 w hqP hs6, ix_on2 w hqP hs6, ok_on3 w hqP hs6, ix_on3 w hqP hs6, ok_on4 w hqP hs6, ix_on4 w hqP hs6, ok_on5 w hqP hs6, ix_on5 w hqP hs6, ok_on6 w hqP hs6, ix_on6 w hqP hs6, oOk_on w hqP hs6, fo_on w hqP hs6, hw, pX5_isKind, rX5_isKind, pX1_isOfKind, hk, ofk_d, rX5_as, mX5_as, Option.some.injEq, Value.int.injEq]
    refine ⟨fun d => ⟨fun f => xfq ?_, fun f => xf2 ?_⟩, fun d => xf0 ?_⟩
    · rw [oAs, if_neg (fun z => z ⟨c, d⟩), if_pos f]
    · rw [oAs, if_neg (fun z => z ⟨c, d⟩), if_neg f]
    · rw [oAs, if_pos (fun z => d z.2)]
  · simp only [eX5_as_0, eX5_as_1, eX5_as_2, eX5_as_5, eX5_as_8, eX5_as_9, eX5_as_12, eX5_as_15, eX5_as_16, eX5_as_17, eX5_as_20, eX5_as_21, eX5_as_22, eX5_as_25, eX5_as_28, eX5_as_29, eX5_as_30, eX5_as_31, eX5_as_34, eX5_as_37, eX5_as_38, eX5_as_39, eX5_as_42, eX5_as_43, eX5_as_44, eX5_as_47, eX5_as_50, eX5_as_51, eX5_as_52, eX5_as_55, kl_i, kl_r, kl_n, kl_l, true_and, and_true, true_implies, false_implies, not_true_eq_false, not_false_eq_true, i10, Classical.not_not, ok_x0, rfP, ok_x1, rfT, ok_x2, rfK, ok_x3, ix_x3, ok_x4, rf_x4, ok_x5, rf_x5, ok_x6, rf_x6, as_fdd, ai_fdd, xa_fdd, rd_fdd, ok_h0 w hqP, rf_h0 w hqP, ok_h1 w hqP, rf_h1 w hqP, ok_h2 w hqP, ix_h2 w hqP, ok_h3 w hqP, ix_h3 w hqP, ok_h4 w hqP, ix_h4 w hqP, ar_sa w hqP, rf_sa w hqP, ar_oa w hqP, rf_oa w hqP, hw_0, hw_1, hw_2, hu_0, hu_1, hu_2, on_vw, on_f, se_vw, se_f, vw_pv, pv_pv, ost_uI, sst_uI, sit_d, may_d, far_d, stay_d, goe_d, stp_d, hOk_h w hqP, hq_hA, pX5_finding, mX5_finding, rfx0, rfx1, rfx2, rfx3, rfx4, rfx5, rfx6, N_0, N_1, N_2, N_3, N_4, N_5, N_6, v7_0, v7_1, v7_2, v7_3, v7_4, v7_5, v7_6, pX5_isOne, rX5_isOne, bi_f c, rX5_as, mX5_as, Option.some.injEq, Value.int.injEq]
    exact xf0 (by rw [oAs, if_pos (fun z => c z.1)])
theorem wcX5_153 : ∀ x ∈ wV1 RX5 153 yX1_isOfKind MX1_isOfKind, x ∈ Gt := by decide +kernel
theorem nmX1_isOfKind : nmOk yX1_isOfKind 1 = true := by decide +kernel
set_option maxRecDepth 20000 in
theorem KX5_as_ok (w : WW) : KOk w MX5_as (KX5_as w) := KOk_mk flX5_ok ciX5_ok clX5_ok (fun _ _ h => by cases h) (fun _ _ h => by cases h) (List.forall_mem_cons.mpr ⟨itV (n := 52) (by decide) (COk_V (n := 1) (ci := 5) (ctX5_finding w) wcX5_52 nmX5_finding (by decide) (by decide) rfl (prX5_finding w)), List.forall_mem_cons.mpr ⟨itV (n := 99) (by decide) (COk_V (n := 1) (ci := 5) (ctX5_isOne w) wcX5_99 nmX5_isOne (by decide) (by decide) rfl (prX5_isOne w)), List.forall_mem_cons.mpr ⟨itV (n := 153) (by decide) (COk_V (n := 1) (ci := 1) (ctX1_isOfKind w) wcX5_153 nmX1_isOfKind (by decide) (by decide) rfl (prX1_isOfKind w)), List.forall_mem_cons.mpr ⟨itS (n := 89) (COk_S (n := 1) (ctX5_isKind w) wcX5_65625 nmX5_isKind (by decide)), List.forall_mem_nil _⟩⟩⟩⟩)
theorem ctX5_as (w : WW) : CT w yX5_as MX5_as (csX5_as w).2.1 (csX5_as w).2.2 := by
  refine CT_of (by decide) rfl TX5_as_ok TX5_as_v (KX5_as_ok w) (fun as u h => ?_)
  obtain ⟨a0, a1, a2, rfl, h⟩ := sgRII h
  obtain ⟨rfl, hwok, hh⟩ := h
  refine ⟨Nat.le_of_ble_eq_true rfl, ?_⟩
  have key := vX5_as w a1 a2 u hwok hh
  exact key
theorem prX5_as (w : WW) : ∀ as u, (csX5_as w).2.1 as u → ∃ a r, as = .ref a :: r ∧ r.length = 2 ∧ okO w a 5 := by
  intro as u h
  obtain ⟨a0, a1, a2, rfl, h⟩ := sgRII h
  exact ⟨_, _, rfl, rfl, okO_x h⟩
theorem vX5_far (w : WW) : VX5_far w := by
  intro s p u hw h
  have hv : Hv (vw u (91 * qP)) := h.1
  by_cases c : isOn (vw u (91 * qP)) s
  · have hs := (isOn_vi hv.1).mp c
    have h6 : vp_in s 10 := vi_mono hs hv.1.K.1
    have hs6 : NN s < 10 := vi_lt h6
    have hk : kO (on (vw u (91 * qP)) (NN s) 0) := (Hv.c hv (vi_lt hs)).1
    simp only [eX5_far_0, eX5_far_1, eX5_far_2, eX5_far_5, eX5_far_8, eX5_far_9, eX5_far_12, eX5_far_15, eX5_far_16, eX5_far_17, eX5_far_20, eX5_far_21, eX5_far_22, eX5_far_25, eX5_far_28, eX5_far_29, eX5_far_30, eX5_far_31, eX5_far_34, kl_i, kl_r, kl_n, kl_l, true_and, and_true, true_implies, false_implies, not_true_eq_false, not_false_eq_true, i10, Classical.not_not, ok_x0, rfP, ok_x1, rfT, ok_x2, rfK, ok_x3, ix_x3, ok_x4, rf_x4, ok_x5, rf_x5, ok_x6, rf_x6, as_fdd, ai_fdd, xa_fdd, rd_fdd, ok_h0 w hqP, rf_h0 w hqP, ok_h1 w hqP, rf_h1 w hqP, ok_h2 w hqP, ix_h2 w hqP, ok_h3 w hqP, ix_h3 w hqP, ok_h4 w hqP, ix_h4 w hqP, ar_sa w hqP, rf_sa w hqP, ar_oa w hqP, rf_oa w hqP, hw_0, hw_1, hw_2, hu_0, hu_1, hu_2, on_vw, on_f, se_vw, se_f, vw_pv, pv_pv, ost_uI, sst_uI, sit_d, may_d, far_d, stay_d, goe_d, stp_d, hOk_h w hqP, hq_hA, pX5_finding, mX5_finding, rfx0, rfx1, rfx2, rfx3, rfx4, rfx5, rfx6, N_0, N_1, N_2, N_3, N_4, N_5, N_6, v7_0, v7_1, v7_2, v7_3, v7_4, v7_5, v7_6, pX5_isOne, rX5_isOne, bi_t c, bi_0, h6, ok_on0 w hqP hs6, ix_on0 w hqP hs6, ok_on1 w hqP hs6, ix_on1 w hqP hs6, ok_on2 w hqP hs6, ix_on2 w hqP hs6, ok_on3 w hqP hs6, ix_on3 w hqP hs6, ok_on4 w hqP hs6, ix_on4 w hqP hs6, ok_on5 w hqP hs6, ix_on5 w hqP hs6, ok_on6 w hqP hs6, ix_on6 w hqP hs6, oOk_on w hqP hs6, fo_on w hqP hs6, hw, pX5_isSpot, rX5_isSpot, pX1_distance, hk, rX5_far, mX5_far, Option.some.injEq, Value.int.injEq]
    refine ⟨fun d => xfq ?_, fun d => xf0 ?_⟩
    · rw [oFar, if_neg (fun z => z ⟨c, d⟩)]
    · rw [oFar, if_pos (fun z => d z.2)]
  · simp only [eX5_far_0, eX5_far_1, eX5_far_2, eX5_far_5, eX5_far_8, eX5_far_9, eX5_far_12, eX5_far_15, eX5_far_16, eX5_far_17, eX5_far_20, eX5_far_21, eX5_far_22, eX5_far_25, eX5_far_28, eX5_far_29, eX5_far_30, eX5_far_31, eX5_far_34, kl_i, kl_r, kl_n, kl_l, true_and, and_true, true_implies, false_implies, not_true_eq_false, not_false_eq_true, i10, Classical.not_not, ok_x0, rfP, ok_x1, rfT, ok_x2, rfK, ok_x3, ix_x3, ok_x4, rf_x4, ok_x5, rf_x5, ok_x6, rf_x6, as_fdd, ai_fdd, xa_fdd, rd_fdd, ok_h0 w hqP, rf_h0 w hqP, ok_h1 w hqP, rf_h1 w hqP, ok_h2 w hqP, ix_h2 w hqP, ok_h3 w hqP, ix_h3 w hqP, ok_h4 w hqP, ix_h4 w hqP, ar_sa w hqP, rf_sa w hqP, ar_oa w hqP, rf_oa w hqP, hw_0, hw_1, hw_2, hu_0, hu_1, hu_2, on_vw, on_f, se_vw, se_f, vw_pv, pv_pv, ost_uI, sst_uI, sit_d, may_d, far_d, stay_d, goe_d, stp_d, hOk_h w hqP, hq_hA, pX5_finding, mX5_finding, rfx0, rfx1, rfx2, rfx3, rfx4, rfx5, rfx6, N_0, N_1, N_2, N_3, N_4, N_5, N_6, v7_0, v7_1, v7_2, v7_3, v7_4, v7_5, v7_6, pX5_isOne, rX5_isOne, bi_f c, rX5_far, mX5_far, Option.some.injEq, Value.int.injEq]
    exact xf0 (by rw [oFar, if_pos (fun z => c z.1)])
theorem wcX5_156 : ∀ x ∈ wV1 RX5 156 yX1_distance MX1_distance, x ∈ Gt := by decide +kernel
set_option maxRecDepth 20000 in
theorem KX5_far_ok (w : WW) : KOk w MX5_far (KX5_far w) := KOk_mk flX5_ok ciX5_ok clX5_ok (fun _ _ h => by cases h) (fun _ _ h => by cases h) (List.forall_mem_cons.mpr ⟨itV (n := 52) (by decide) (COk_V (n := 1) (ci := 5) (ctX5_finding w) wcX5_52 nmX5_finding (by decide) (by decide) rfl (prX5_finding w)), List.forall_mem_cons.mpr ⟨itV (n := 99) (by decide) (COk_V (n := 1) (ci := 5) (ctX5_isOne w) wcX5_99 nmX5_isOne (by decide) (by decide) rfl (prX5_isOne w)), List.forall_mem_cons.mpr ⟨itV (n := 156) (by decide) (COk_V (n := 1) (ci := 1) (ctX1_distance w) wcX5_156 nmX1_distance (by decide) (by decide) rfl (prX1_distance w)), List.forall_mem_cons.mpr ⟨itS (n := 44) (COk_S (n := 1) (ctX5_isSpot w) wcX5_65580 nmX5_isSpot (by decide)), List.forall_mem_nil _⟩⟩⟩⟩)
theorem ctX5_far (w : WW) : CT w yX5_far MX5_far (csX5_far w).2.1 (csX5_far w).2.2 := by
  refine CT_of (by decide) rfl TX5_far_ok TX5_far_v (KX5_far_ok w) (fun as u h => ?_)
  obtain ⟨a0, a1, a2, rfl, h⟩ := sgRII h
  obtain ⟨rfl, hwok, hh⟩ := h
  refine ⟨Nat.le_of_ble_eq_true rfl, ?_⟩
  have key := vX5_far w a1 a2 u hwok hh
  exact key
theorem prX5_far (w : WW) : ∀ as u, (csX5_far w).2.1 as u → ∃ a r, as = .ref a :: r ∧ r.length = 2 ∧ okO w a 5 := by
  intro as u h
  obtain ⟨a0, a1, a2, rfl, h⟩ := sgRII h
  exact ⟨_, _, rfl, rfl, okO_x h⟩
theorem vX5_on (w : WW) : VX5_on w := by
  intro p u h
  have hv : Hv (vw u (91 * qP)) := h.1
  simp only [eX5_on_0, eX5_on_1, eX5_on_4, eX5_on_7, eX5_on_8, eX5_on_9, eX5_on_12, eX5_on_13, eX5_on_14, eX5_on_17, eX5_on_18, eX5_on_21, kl_i, kl_r, kl_n, kl_l, true_and, and_true, true_implies, false_implies, not_true_eq_false, not_false_eq_true, i10, Classical.not_not, ok_x0, rfP, ok_x1, rfT, ok_x2, rfK, ok_x3, ix_x3, ok_x4, rf_x4, ok_x5, rf_x5, ok_x6, rf_x6, as_fdd, ai_fdd, xa_fdd, rd_fdd, ok_h0 w hqP, rf_h0 w hqP, ok_h1 w hqP, rf_h1 w hqP, ok_h2 w hqP, ix_h2 w hqP, ok_h3 w hqP, ix_h3 w hqP, ok_h4 w hqP, ix_h4 w hqP, ar_sa w hqP, rf_sa w hqP, ar_oa w hqP, rf_oa w hqP, hw_0, hw_1, hw_2, hu_0, hu_1, hu_2, on_vw, on_f, se_vw, se_f, vw_pv, pv_pv, ost_uI, sst_uI, sit_d, may_d, far_d, stay_d, goe_d, stp_d, hOk_h w hqP, hq_hA, pX5_finding, mX5_finding, rfx0, rfx1, rfx2, rfx3, rfx4, rfx5, rfx6, N_0, N_1, N_2, N_3, N_4, N_5, N_6, v7_0, v7_1, v7_2, v7_3, v7_4, v7_5, v7_6, bi_0, pX5_isSpot, rX5_isSpot, pX0_standersOn, hv, rX0_standersOn, rX5_on, mX5_on, Option.some.injEq, Value.int.injEq]
  exact ⟨fun d => xfq (by rw [oOn, if_neg (fun z => z d)]), fun d => xf0 (by rw [oOn, if_pos d])⟩
theorem wcX5_159 : ∀ x ∈ wV1 RX5 159 yX0_standersOn MX0_standersOn, x ∈ Gt := by decide +kernel
theorem nmX0_standersOn : nmOk yX0_standersOn 1 = true := by decide +kernel
set_option maxRecDepth 20000 in
theorem KX5_on_ok (w : WW) : KOk w MX5_on (KX5_on w) := KOk_mk flX5_ok ciX5_ok clX5_ok (fun _ _ h => by cases h) (fun _ _ h => by cases h) (List.forall_mem_cons.mpr ⟨itV (n := 52) (by decide) (COk_V (n := 1) (ci := 5) (ctX5_finding w) wcX5_52 nmX5_finding (by decide) (by decide) rfl (prX5_finding w)), List.forall_mem_cons.mpr ⟨itV (n := 159) (by decide) (COk_V (n := 1) (ci := 0) (ctX0_standersOn w) wcX5_159 nmX0_standersOn (by decide) (by decide) rfl (prX0_standersOn w)), List.forall_mem_cons.mpr ⟨itS (n := 44) (COk_S (n := 1) (ctX5_isSpot w) wcX5_65580 nmX5_isSpot (by decide)), List.forall_mem_nil _⟩⟩⟩)
theorem ctX5_on (w : WW) : CT w yX5_on MX5_on (csX5_on w).2.1 (csX5_on w).2.2 := by
  refine CT_of (by decide) rfl TX5_on_ok TX5_on_v (KX5_on_ok w) (fun as u h => ?_)
  obtain ⟨a0, a1, rfl, h⟩ := sgRI h
  obtain ⟨rfl, hh⟩ := h
  refine ⟨Nat.le_of_ble_eq_true rfl, ?_⟩
  have key := vX5_on w a1 u hh
  exact key
theorem prX5_on (w : WW) : ∀ as u, (csX5_on w).2.1 as u → ∃ a r, as = .ref a :: r ∧ r.length = 1 ∧ okO w a 5 := by
  intro as u h
  obtain ⟨a0, a1, rfl, h⟩ := sgRI h
  exact ⟨_, _, rfl, rfl, okO_x h⟩
theorem vX5_cough (w : WW) : VX5_cough w := by
  intro s u hw h
  have hv : Hv (vw u (91 * qP)) := h.1
  by_cases c : isSt (vw u (91 * qP)) s
  · have hs := (isSt_vi hv.1).mp c
    have h6 : vp_in s 6 := vi_mono hs hv.1.M.1
    have hs6 : NN s < 6 := vi_lt h6
    have hb := Hv.b hv (vi_lt hs)
    by_cases d : se (vw u (91 * qP)) (NN s) 2 = -1
    · have nt : ¬ ¬ se (vw u (91 * qP)) (NN s) 2 = -1 := fun z => z d
      simp only [eX5_cough_0, eX5_cough_1, eX5_cough_2, eX5_cough_5, eX5_cough_8, eX5_cough_9, eX5_cough_10, eX5_cough_13, eX5_cough_14, eX5_cough_15, eX5_cough_18, eX5_cough_19, eX5_cough_22, eX5_cough_25, eX5_cough_26, eX5_cough_27, eX5_cough_30, eX5_cough_31, eX5_cough_32, eX5_cough_35, eX5_cough_36, eX5_cough_39, eX5_cough_40, eX5_cough_43, eX5_cough_46, eX5_cough_47, eX5_cough_48, eX5_cough_51, kl_i, kl_r, kl_n, kl_l, true_and, and_true, true_implies, false_implies, not_true_eq_false, not_false_eq_true, i10, Classical.not_not, ok_x0, rfP, ok_x1, rfT, ok_x2, rfK, ok_x3, ix_x3, ok_x4, rf_x4, ok_x5, rf_x5, ok_x6, rf_x6, as_fdd, ai_fdd, xa_fdd, rd_fdd, ok_h0 w hqP, rf_h0 w hqP, ok_h1 w hqP, rf_h1 w hqP, ok_h2 w hqP, ix_h2 w hqP, ok_h3 w hqP, ix_h3 w hqP, ok_h4 w hqP, ix_h4 w hqP, ar_sa w hqP, rf_sa w hqP, ar_oa w hqP, rf_oa w hqP, hw_0, hw_1, hw_2, hu_0, hu_1, hu_2, on_vw, on_f, se_vw, se_f, vw_pv, pv_pv, ost_uI, sst_uI, sit_d, may_d, far_d, stay_d, goe_d, stp_d, hOk_h w hqP, hq_hA, pX5_finding, mX5_finding, rfx0, rfx1, rfx2, rfx3, rfx4, rfx5, rfx6, N_0, N_1, N_2, N_3, N_4, N_5, N_6, v7_0, v7_1, v7_2, v7_3, v7_4, v7_5, v7_6, pX5_isSeat, rX5_isSeat, bi_t c, h6, pX0_isHeld, rX0_isHeld, bi_f nt, rX5_cough, mX5_cough, Option.some.injEq, Value.int.injEq]
      exact xf4 (by rw [oCough, if_neg (fun z => z c), if_pos (hb.neg.mpr d)])
    · simp only [eX5_cough_0, eX5_cough_1, eX5_cough_2, eX5_cough_5, eX5_cough_8, eX5_cough_9, eX5_cough_10, eX5_cough_13, eX5_cough_14, eX5_cough_15, eX5_cough_18, eX5_cough_19, eX5_cough_22, eX5_cough_25, eX5_cough_26, eX5_cough_27, eX5_cough_30, eX5_cough_31, eX5_cough_32, eX5_cough_35, eX5_cough_36, eX5_cough_39, eX5_cough_40, eX5_cough_43, eX5_cough_46, eX5_cough_47, eX5_cough_48, eX5_cough_51, kl_i, kl_r, kl_n, kl_l, true_and, and_true, true_implies, false_implies, not_true_eq_false, not_false_eq_true, i10, Classical.not_not, ok_x0, rfP, ok_x1, rfT, ok_x2, rfK, ok_x3, ix_x3, ok_x4, rf_x4, ok_x5, rf_x5, ok_x6, rf_x6, as_fdd, ai_fdd, xa_fdd, rd_fdd, ok_h0 w hqP, rf_h0 w hqP, ok_h1 w hqP, rf_h1 w hqP, ok_h2 w hqP, ix_h2 w hqP, ok_h3 w hqP, ix_h3 w hqP, ok_h4 w hqP, ix_h4 w hqP, ar_sa w hqP, rf_sa w hqP, ar_oa w hqP, rf_oa w hqP, hw_0, hw_1, hw_2, hu_0, hu_1, hu_2, on_vw, on_f, se_vw, se_f, vw_pv, pv_pv, ost_uI, sst_uI, sit_d, may_d, far_d, stay_d, goe_d, stp_d, hOk_h w hqP, hq_hA, pX5_finding, mX5_finding, rfx0, rfx1, rfx2, rfx3, rfx4, rfx5, rfx6, N_0, N_1, N_2, N_3, N_4, N_5, N_6, v7_0, v7_1, v7_2, v7_3, v7_4, v7_5, v7_6, pX5_isSeat, rX5_isSeat, bi_t c, h6, ok_se0 w hqP hs6, ix_se0 w hqP hs6, ok_se1 w hqP hs6, ix_se1 w hqP hs6, ok_se2 w hqP hs6, ix_se2 w hqP hs6, eOk_se w hqP hs6, fo_se w hqP hs6, hw, pX0_isHeld, rX0_isHeld, bi_t d, pX0_makeRise, hs, hv, mX0_makeRise, d, if_false, rX5_cough, mX5_cough, Option.some.injEq, Value.int.injEq]
      have ho : oCough (vw u (91 * qP)) s = .inr (se (risesP (vw u (91 * qP)) s) (NN s) 2, risesP (vw u (91 * qP)) s) := by rw [oCough, if_neg (fun z => z c), if_neg (fun z => d (hb.neg.mp z))]
      exact ⟨fun _ => xfr ho, fun z => absurd ((bi_t trivial).symm.trans z) (by decide)⟩
  · simp only [eX5_cough_0, eX5_cough_1, eX5_cough_2, eX5_cough_5, eX5_cough_8, eX5_cough_9, eX5_cough_10, eX5_cough_13, eX5_cough_14, eX5_cough_15, eX5_cough_18, eX5_cough_19, eX5_cough_22, eX5_cough_25, eX5_cough_26, eX5_cough_27, eX5_cough_30, eX5_cough_31, eX5_cough_32, eX5_cough_35, eX5_cough_36, eX5_cough_39, eX5_cough_40, eX5_cough_43, eX5_cough_46, eX5_cough_47, eX5_cough_48, eX5_cough_51, kl_i, kl_r, kl_n, kl_l, true_and, and_true, true_implies, false_implies, not_true_eq_false, not_false_eq_true, i10, Classical.not_not, ok_x0, rfP, ok_x1, rfT, ok_x2, rfK, ok_x3, ix_x3, ok_x4, rf_x4, ok_x5, rf_x5, ok_x6, rf_x6, as_fdd, ai_fdd, xa_fdd, rd_fdd, ok_h0 w hqP, rf_h0 w hqP, ok_h1 w hqP, rf_h1 w hqP, ok_h2 w hqP, ix_h2 w hqP, ok_h3 w hqP, ix_h3 w hqP, ok_h4 w hqP, ix_h4 w hqP, ar_sa w hqP, rf_sa w hqP, ar_oa w hqP, rf_oa w hqP, hw_0, hw_1, hw_2, hu_0, hu_1, hu_2, on_vw, on_f, se_vw, se_f, vw_pv, pv_pv, ost_uI, sst_uI, sit_d, may_d, far_d, stay_d, goe_d, stp_d, hOk_h w hqP, hq_hA, pX5_finding, mX5_finding, rfx0, rfx1, rfx2, rfx3, rfx4, rfx5, rfx6, N_0, N_1, N_2, N_3, N_4, N_5, N_6, v7_0, v7_1, v7_2, v7_3, v7_4, v7_5, v7_6, pX5_isSeat, rX5_isSeat, bi_f c, rX5_cough, mX5_cough, Option.some.injEq, Value.int.injEq]
    exact xf0 (by rw [oCough, if_pos c])
set_option maxRecDepth 20000 in
theorem KX5_cough_ok (w : WW) : KOk w MX5_cough (KX5_cough w) := KOk_mk flX5_ok ciX5_ok clX5_ok (fun _ _ h => by cases h) (fun _ _ h => by cases h) (List.forall_mem_cons.mpr ⟨itV (n := 52) (by decide) (COk_V (n := 1) (ci := 5) (ctX5_finding w) wcX5_52 nmX5_finding (by decide) (by decide) rfl (prX5_finding w)), List.forall_mem_cons.mpr ⟨itV (n := 67) (by decide) (COk_V (n := 1) (ci := 5) (ctX5_isSeat w) wcX5_67 nmX5_isSeat (by decide) (by decide) rfl (prX5_isSeat w)), List.forall_mem_cons.mpr ⟨itV (n := 162) (by decide) (COk_V (n := 1) (ci := 0) (ctX0_isHeld w) wcX5_162 nmX0_isHeld (by decide) (by decide) rfl (prX0_isHeld w)), List.forall_mem_cons.mpr ⟨itV (n := 165) (by decide) (COk_V (n := 1) (ci := 0) (ctX0_makeRise w) wcX5_165 nmX0_makeRise (by decide) (by decide) rfl (prX0_makeRise w)), List.forall_mem_nil _⟩⟩⟩⟩)
theorem ctX5_cough (w : WW) : CT w yX5_cough MX5_cough (csX5_cough w).2.1 (csX5_cough w).2.2 := by
  refine CT_of (by decide) rfl TX5_cough_ok TX5_cough_v (KX5_cough_ok w) (fun as u h => ?_)
  obtain ⟨a0, a1, rfl, h⟩ := sgRI h
  obtain ⟨rfl, hwok, hh⟩ := h
  refine ⟨Nat.le_of_ble_eq_true rfl, ?_⟩
  have key := vX5_cough w a1 u hwok hh
  exact key
theorem prX5_cough (w : WW) : ∀ as u, (csX5_cough w).2.1 as u → ∃ a r, as = .ref a :: r ∧ r.length = 1 ∧ okO w a 5 := by
  intro as u h
  obtain ⟨a0, a1, rfl, h⟩ := sgRI h
  exact ⟨_, _, rfl, rfl, okO_x h⟩
def pcn (m : Nat) : Nat := m % 2 + m / 2 % 2 + m / 4 % 2 + m / 8 % 2 + m / 16 % 2 + m / 32 % 2 + m / 64 % 2 + m / 128 % 2 + m / 256 % 2 + m / 512 % 2
theorem pcn_st : ∀ n, n < 10 → ∀ m, m < 2 ^ n → (nI m ||| (1 <<< (nI n &&& 31)) = nI (m + 2 ^ n) ∧ pcn (m + 2 ^ n) = pcn m + 1) := by decide +kernel
theorem bc_pcn : ∀ m, m < 1024 → bcI (nI m) = nI (pcn m) := by decide +kernel
theorem sit_pcn (R : Nat → Int32) : ∀ n, n ≤ 10 → ∃ m, m < 2 ^ n ∧ sitSet R n = nI m ∧ sitN R n = nI (pcn m)
  | 0, _ => ⟨0, by decide, rfl, rfl⟩
  | n + 1, hn => by
    obtain ⟨m, h1, h2, h3⟩ := sit_pcn R n (by omega)
    obtain ⟨k1, k2⟩ := pcn_st n (by omega) m h1
    simp only [sitSet, sitN]
    have hp : 2 ^ (n + 1) = 2 ^ n + 2 ^ n := by rw [Nat.pow_succ]; omega
    split
    · exact ⟨m, by omega, by rw [h2, Int32.or_zero], by rw [h3, Int32.add_zero]⟩
    · exact ⟨m + 2 ^ n, by omega, by rw [h2, k1], by rw [h3, k2, nI_1]⟩
theorem bc_sit (R : Nat → Int32) {n : Nat} (hn : n ≤ 10) : bcI (sitSet R n) = sitN R n := by
  obtain ⟨m, h1, h2, h3⟩ := sit_pcn R n hn
  have : 2 ^ n ≤ 2 ^ 10 := Nat.pow_le_pow_right (by decide) hn
  rw [h2, h3, bc_pcn m (by omega)]
theorem vX5_now (w : WW) : VX5_now w := by
  intro k u h
  have hv : Hv (vw u (91 * qP)) := h.1
  simp only [eX5_now_0, eX5_now_1, eX5_now_32, eX5_now_33, eX5_now_36, eX5_now_39, eX5_now_40, eX5_now_41, eX5_now_44, eX5_now_47, eX5_now_50, eX5_now_51, eX5_now_52, eX5_now_55, eX5_now_58, eX5_now_59, eX5_now_60, eX5_now_63, eX5_now_66, eX5_now_67, eX5_now_68, eX5_now_69, eX5_now_72, kl_i, kl_r, kl_n, kl_l, true_and, and_true, true_implies, false_implies, not_true_eq_false, not_false_eq_true, i10, Classical.not_not, ok_x0, rfP, ok_x1, rfT, ok_x2, rfK, ok_x3, ix_x3, ok_x4, rf_x4, ok_x5, rf_x5, ok_x6, rf_x6, as_fdd, ai_fdd, xa_fdd, rd_fdd, ok_h0 w hqP, rf_h0 w hqP, ok_h1 w hqP, rf_h1 w hqP, ok_h2 w hqP, ix_h2 w hqP, ok_h3 w hqP, ix_h3 w hqP, ok_h4 w hqP, ix_h4 w hqP, ar_sa w hqP, rf_sa w hqP, ar_oa w hqP, rf_oa w hqP, hw_0, hw_1, hw_2, hu_0, hu_1, hu_2, on_vw, on_f, se_vw, se_f, vw_pv, pv_pv, ost_uI, sst_uI, sit_d, may_d, far_d, stay_d, goe_d, stp_d, hOk_h w hqP, hq_hA, pX5_finding, mX5_finding, rfx0, rfx1, rfx2, rfx3, rfx4, rfx5, rfx6, N_0, N_1, N_2, N_3, N_4, N_5, N_6, v7_0, v7_1, v7_2, v7_3, v7_4, v7_5, v7_6, pX0_sitters, rX0_sitters, pJ6_bitCount_0f7a4, rJ6_bitCount_0f7a4, pX0_emptySeats, rX0_emptySeats, pX0_allCoins, eq_true hv.1.crt, rX0_allCoins, hv, bc_sit _ hv.1.K.1, rX5_now, mX5_now, Option.some.injEq, Value.int.injEq]
  refine ⟨fun e => xfq (by rw [oNow, if_pos e]), fun n0 => ⟨fun e => xfq (by rw [oNow, if_neg n0, if_pos e]), fun n1 => ⟨fun e => xfq (by rw [oNow, if_neg n0, if_neg n1, if_pos e]), fun n2 => ⟨fun e => xfq (by rw [oNow, if_neg n0, if_neg n1, if_neg n2, if_pos e]), fun n3 => xf0 (by rw [oNow, if_neg n0, if_neg n1, if_neg n2, if_neg n3])⟩⟩⟩⟩
theorem wcX5_182 : ∀ x ∈ wV1 RX5 182 yX0_sitters MX0_sitters, x ∈ Gt := by decide +kernel
theorem nmX0_sitters : nmOk yX0_sitters 0 = true := by decide +kernel
theorem wcX5_190 : ∀ x ∈ wV1 RX5 190 yX0_emptySeats MX0_emptySeats, x ∈ Gt := by decide +kernel
theorem nmX0_emptySeats : nmOk yX0_emptySeats 0 = true := by decide +kernel
theorem wcX5_193 : ∀ x ∈ wV1 RX5 193 yX0_allCoins MX0_allCoins, x ∈ Gt := by decide +kernel
theorem nmX0_allCoins : nmOk yX0_allCoins 0 = true := by decide +kernel
theorem wcX5_65721 : ∀ x ∈ wS1 RX5 185 yJ6_bitCount_0f7a4 MJ6_bitCount_0f7a4, x ∈ Gt := by decide +kernel
theorem nmJ6_bitCount_0f7a4 : nmOk yJ6_bitCount_0f7a4 1 = true := by decide +kernel
set_option maxRecDepth 20000 in
theorem KX5_now_ok (w : WW) : KOk w MX5_now (KX5_now w) := KOk_mk flX5_ok ciX5_ok clX5_ok (fun _ _ h => by cases h) (fun _ _ h => by cases h) (List.forall_mem_cons.mpr ⟨itV (n := 52) (by decide) (COk_V (n := 1) (ci := 5) (ctX5_finding w) wcX5_52 nmX5_finding (by decide) (by decide) rfl (prX5_finding w)), List.forall_mem_cons.mpr ⟨itV (n := 182) (by decide) (COk_V (n := 0) (ci := 0) (ctX0_sitters w) wcX5_182 nmX0_sitters (by decide) (by decide) rfl (prX0_sitters w)), List.forall_mem_cons.mpr ⟨itV (n := 190) (by decide) (COk_V (n := 0) (ci := 0) (ctX0_emptySeats w) wcX5_190 nmX0_emptySeats (by decide) (by decide) rfl (prX0_emptySeats w)), List.forall_mem_cons.mpr ⟨itV (n := 193) (by decide) (COk_V (n := 0) (ci := 0) (ctX0_allCoins w) wcX5_193 nmX0_allCoins (by decide) (by decide) rfl (prX0_allCoins w)), List.forall_mem_cons.mpr ⟨itS (n := 185) (COk_S (n := 1) (ctJ6_bitCount_0f7a4 w) wcX5_65721 nmJ6_bitCount_0f7a4 (by decide)), List.forall_mem_nil _⟩⟩⟩⟩⟩)
theorem ctX5_now (w : WW) : CT w yX5_now MX5_now (csX5_now w).2.1 (csX5_now w).2.2 := by
  refine CT_of (by decide) rfl TX5_now_ok TX5_now_v (KX5_now_ok w) (fun as u h => ?_)
  obtain ⟨a0, a1, rfl, h⟩ := sgRI h
  obtain ⟨rfl, hh⟩ := h
  refine ⟨Nat.le_of_ble_eq_true rfl, ?_⟩
  have key := vX5_now w a1 u hh
  exact key
theorem prX5_now (w : WW) : ∀ as u, (csX5_now w).2.1 as u → ∃ a r, as = .ref a :: r ∧ r.length = 1 ∧ okO w a 5 := by
  intro as u h
  obtain ⟨a0, a1, rfl, h⟩ := sgRI h
  exact ⟨_, _, rfl, rfl, okO_x h⟩
theorem vX5_count (w : WW) : VX5_count w := by
  intro k u h
  have hv : Hv (vw u (91 * qP)) := h.1
  simp only [eX5_count_0, eX5_count_1, eX5_count_32, eX5_count_33, eX5_count_36, eX5_count_39, eX5_count_40, eX5_count_41, eX5_count_44, eX5_count_47, eX5_count_48, eX5_count_49, eX5_count_52, eX5_count_55, eX5_count_56, eX5_count_57, eX5_count_60, eX5_count_63, eX5_count_64, eX5_count_65, eX5_count_66, eX5_count_69, kl_i, kl_r, kl_n, kl_l, true_and, and_true, true_implies, false_implies, not_true_eq_false, not_false_eq_true, i10, Classical.not_not, ok_x0, rfP, ok_x1, rfT, ok_x2, rfK, ok_x3, ix_x3, ok_x4, rf_x4, ok_x5, rf_x5, ok_x6, rf_x6, as_fdd, ai_fdd, xa_fdd, rd_fdd, ok_h0 w hqP, rf_h0 w hqP, ok_h1 w hqP, rf_h1 w hqP, ok_h2 w hqP, ix_h2 w hqP, ok_h3 w hqP, ix_h3 w hqP, ok_h4 w hqP, ix_h4 w hqP, ar_sa w hqP, rf_sa w hqP, ar_oa w hqP, rf_oa w hqP, hw_0, hw_1, hw_2, hu_0, hu_1, hu_2, on_vw, on_f, se_vw, se_f, vw_pv, pv_pv, ost_uI, sst_uI, sit_d, may_d, far_d, stay_d, goe_d, stp_d, hOk_h w hqP, hq_hA, pX5_finding, mX5_finding, rfx0, rfx1, rfx2, rfx3, rfx4, rfx5, rfx6, N_0, N_1, N_2, N_3, N_4, N_5, N_6, v7_0, v7_1, v7_2, v7_3, v7_4, v7_5, v7_6, ok_tp1, ix_tp1, pX0_sitters, rX0_sitters, hv, rX5_count, mX5_count, Option.some.injEq, Value.int.injEq]
  refine ⟨fun e => xfq (by rw [oCount, if_pos e]), fun n0 => ⟨fun e => xfq (by rw [oCount, if_neg n0, if_pos e]), fun n1 => ⟨fun e => xfq (by rw [oCount, if_neg n0, if_neg n1, if_pos e]), fun n2 => ⟨fun e => xfq (by rw [oCount, if_neg n0, if_neg n1, if_neg n2, if_pos e]), fun n3 => xf0 (by rw [oCount, if_neg n0, if_neg n1, if_neg n2, if_neg n3])⟩⟩⟩⟩
set_option maxRecDepth 20000 in
theorem KX5_count_ok (w : WW) : KOk w MX5_count (KX5_count w) := KOk_mk flX5_ok ciX5_ok clX5_ok (fun _ _ h => by cases h) (fun _ _ h => by cases h) (List.forall_mem_cons.mpr ⟨itV (n := 52) (by decide) (COk_V (n := 1) (ci := 5) (ctX5_finding w) wcX5_52 nmX5_finding (by decide) (by decide) rfl (prX5_finding w)), List.forall_mem_cons.mpr ⟨itV (n := 182) (by decide) (COk_V (n := 0) (ci := 0) (ctX0_sitters w) wcX5_182 nmX0_sitters (by decide) (by decide) rfl (prX0_sitters w)), List.forall_mem_nil _⟩⟩)
theorem ctX5_count (w : WW) : CT w yX5_count MX5_count (csX5_count w).2.1 (csX5_count w).2.2 := by
  refine CT_of (by decide) rfl TX5_count_ok TX5_count_v (KX5_count_ok w) (fun as u h => ?_)
  obtain ⟨a0, a1, rfl, h⟩ := sgRI h
  obtain ⟨rfl, hh⟩ := h
  refine ⟨Nat.le_of_ble_eq_true rfl, ?_⟩
  have key := vX5_count w a1 u hh
  exact key
theorem prX5_count (w : WW) : ∀ as u, (csX5_count w).2.1 as u → ∃ a r, as = .ref a :: r ∧ r.length = 1 ∧ okO w a 5 := by
  intro as u h
  obtain ⟨a0, a1, rfl, h⟩ := sgRI h
  exact ⟨_, _, rfl, rfl, okO_x h⟩
/-- who holds a seat when its holder rose: who was next -/
theorem rise_nx {R : Nat → Int32} {s : Nat} (h : Hv R) (hs : s < NN (R 1)) (hh : ¬ se R s 2 < 0) : se (risesP R (nI s)) s 2 = nx R (se R s 0) (-1) (NN (R 2)) := by
  have hM := h.1.M.1
  have hN : NN (nI s) = s := NN_nI (by omega)
  unfold risesP
  rw [se_falls (by omega) (by decide), hN, if_pos ⟨rfl, rfl⟩, nx_up h hs hh _ _ (Nat.le_refl _)]
theorem lX5_coughFor {w : WW} (hw : wOk w) {c : Int32} {u : MM} (h : Hv (vw u (91 * qP))) {M : Nat} (hM : M ≤ 6) (eM : vw u (91 * qP) 1 = nI M) {Q : Option Value → MM → Prop} (hQ1 : cfN (vw u (91 * qP)) c M = -1 → Q (some (.int (-1000000004))) (fndX 3 u)) (hQ2 : ¬ cfN (vw u (91 * qP)) c M = -1 → Q (some (.int (cfN (vw u (91 * qP)) c M))) u) :
    ∀ (n i : Nat) (j : Option Value), i + n = M → GX5_coughFor w Q 39 [some (.ref (xA w)), some (.int c), some (.int (cfN (vw u (91 * qP)) c i)), some (.int (nI i)), j] [] u := by
  intro n
  induction n with
  | zero =>
    intro i j hi
    have e : i = M := by omega
    subst e
    have hle : nI i ≤ nI i := nI_le (Nat.le_refl i) (by omega)
    rw [eX5_coughFor_39]
    simp only [eX5_coughFor_0, eX5_coughFor_1, eX5_coughFor_2, eX5_coughFor_5, eX5_coughFor_8, eX5_coughFor_9, eX5_coughFor_10, eX5_coughFor_13, eX5_coughFor_14, eX5_coughFor_15, eX5_coughFor_18, eX5_coughFor_21, eX5_coughFor_22, eX5_coughFor_23, eX5_coughFor_26, eX5_coughFor_29, eX5_coughFor_30, eX5_coughFor_31, eX5_coughFor_34, eX5_coughFor_35, eX5_coughFor_36, eX5_coughFor_37, eX5_coughFor_38, eX5_coughFor_40, eX5_coughFor_41, eX5_coughFor_44, eX5_coughFor_47, eX5_coughFor_50, eX5_coughFor_51, eX5_coughFor_52, eX5_coughFor_55, eX5_coughFor_56, eX5_coughFor_59, eX5_coughFor_62, eX5_coughFor_63, eX5_coughFor_64, eX5_coughFor_67, eX5_coughFor_68, eX5_coughFor_71, eX5_coughFor_74, eX5_coughFor_75, eX5_coughFor_76, eX5_coughFor_79, eX5_coughFor_82, eX5_coughFor_83, eX5_coughFor_86, eX5_coughFor_87, eX5_coughFor_89, eX5_coughFor_91, eX5_coughFor_94, eX5_coughFor_95, eX5_coughFor_98, eX5_coughFor_99, eX5_coughFor_102, eX5_coughFor_105, eX5_coughFor_106, eX5_coughFor_109, eX5_coughFor_110, eX5_coughFor_113, eX5_coughFor_114, eX5_coughFor_117, eX5_coughFor_118, eX5_coughFor_119, eX5_coughFor_122, eX5_coughFor_125, eX5_coughFor_126, eX5_coughFor_127, eX5_coughFor_130, eX5_coughFor_131, eX5_coughFor_132, eX5_coughFor_135, eX5_coughFor_138, eX5_coughFor_139, kl_i, kl_r, kl_n, kl_l, true_and, and_true, true_implies, false_implies, not_true_eq_false, not_false_eq_true, i10, Classical.not_not, ok_x0, rfP, ok_x1, rfT, ok_x2, rfK, ok_x3, ix_x3, ok_x4, rf_x4, ok_x5, rf_x5, ok_x6, rf_x6, as_fdd, ai_fdd, xa_fdd, rd_fdd, ok_h0 w hqP, rf_h0 w hqP, ok_h1 w hqP, rf_h1 w hqP, ok_h2 w hqP, ix_h2 w hqP, ok_h3 w hqP, ix_h3 w hqP, ok_h4 w hqP, ix_h4 w hqP, ar_sa w hqP, rf_sa w hqP, ar_oa w hqP, rf_oa w hqP, hw_0, hw_1, hw_2, hu_0, hu_1, hu_2, on_vw, on_f, se_vw, se_f, vw_pv, pv_pv, ost_uI, sst_uI, sit_d, may_d, far_d, stay_d, goe_d, stp_d, hOk_h w hqP, hq_hA, pX5_finding, mX5_finding, rfx0, rfx1, rfx2, rfx3, rfx4, rfx5, rfx6, N_0, N_1, N_2, N_3, N_4, N_5, N_6, v7_0, v7_1, v7_2, v7_3, v7_4, v7_5, v7_6, eM, hle]
    exact ⟨hQ2, hQ1⟩
  | succ n ih =>
    intro i j hi
    have hlt : ¬ nI M ≤ nI i := nI_ge (by omega) (by omega)
    have hs : i < 6 := by omega
    have hvi : vp_in (nI i) 6 := vi_nI hs
    have hN : NN (nI i) = i := NN_nI (by omega)
    have iM : i < NN (vw u (91 * qP) 1) := by rw [eM, NN_nI (by omega)]; omega
    have hb := Hv.b h iM
    have go : ∀ (x : Int32) (j : Option Value), x = cfN (vw u (91 * qP)) c (i + 1) → GX5_coughFor w Q 39 [some (.ref (xA w)), some (.int c), some (.int x), some (.int (nI i + 1)), j] [] u := fun x j e => by rw [nI_1, e]; exact ih (i + 1) j (by omega)
    have hno : ∀ x, x = cfN (vw u (91 * qP)) c i → ¬ (¬ se (vw u (91 * qP)) i 2 < 0 ∧ se (risesP (vw u (91 * qP)) (nI i)) i 2 = c ∧ (cfN (vw u (91 * qP)) c i < 0 ∨ se (vw u (91 * qP)) (NN (cfN (vw u (91 * qP)) c i)) 1 < se (vw u (91 * qP)) i 1)) → x = cfN (vw u (91 * qP)) c (i + 1) := fun x ex z => by rw [cfN, if_neg z]; exact ex
    have hye : (¬ se (vw u (91 * qP)) i 2 < 0 ∧ se (risesP (vw u (91 * qP)) (nI i)) i 2 = c ∧ (cfN (vw u (91 * qP)) c i < 0 ∨ se (vw u (91 * qP)) (NN (cfN (vw u (91 * qP)) c i)) 1 < se (vw u (91 * qP)) i 1)) → nI i = cfN (vw u (91 * qP)) c (i + 1) := fun z => by rw [cfN, if_pos z]
    have nx1 : ∀ d : ¬ se (vw u (91 * qP)) i 2 = -1, se (risesP (vw u (91 * qP)) (nI i)) i 2 = nx (vw u (91 * qP)) (se (vw u (91 * qP)) i 0) (-1) (NN (vw u (91 * qP) 2)) := fun d => rise_nx h iM (fun z => d (hb.neg.mp z))
    rw [eX5_coughFor_39]
    rcases cfN_rng (vw u (91 * qP)) c i with e | ⟨b, b1, b2⟩
    · rw [e] at hno hye ⊢
      simp only [eX5_coughFor_0, eX5_coughFor_1, eX5_coughFor_2, eX5_coughFor_5, eX5_coughFor_8, eX5_coughFor_9, eX5_coughFor_10, eX5_coughFor_13, eX5_coughFor_14, eX5_coughFor_15, eX5_coughFor_18, eX5_coughFor_21, eX5_coughFor_22, eX5_coughFor_23, eX5_coughFor_26, eX5_coughFor_29, eX5_coughFor_30, eX5_coughFor_31, eX5_coughFor_34, eX5_coughFor_35, eX5_coughFor_36, eX5_coughFor_37, eX5_coughFor_38, eX5_coughFor_40, eX5_coughFor_41, eX5_coughFor_44, eX5_coughFor_47, eX5_coughFor_50, eX5_coughFor_51, eX5_coughFor_52, eX5_coughFor_55, eX5_coughFor_56, eX5_coughFor_59, eX5_coughFor_62, eX5_coughFor_63, eX5_coughFor_64, eX5_coughFor_67, eX5_coughFor_68, eX5_coughFor_71, eX5_coughFor_74, eX5_coughFor_75, eX5_coughFor_76, eX5_coughFor_79, eX5_coughFor_82, eX5_coughFor_83, eX5_coughFor_86, eX5_coughFor_87, eX5_coughFor_89, eX5_coughFor_91, eX5_coughFor_94, eX5_coughFor_95, eX5_coughFor_98, eX5_coughFor_99, eX5_coughFor_102, eX5_coughFor_105, eX5_coughFor_106, eX5_coughFor_109, eX5_coughFor_110, eX5_coughFor_113, eX5_coughFor_114, eX5_coughFor_117, eX5_coughFor_118, eX5_coughFor_119, eX5_coughFor_122, eX5_coughFor_125, eX5_coughFor_126, eX5_coughFor_127, eX5_coughFor_130, eX5_coughFor_131, eX5_coughFor_132, eX5_coughFor_135, eX5_coughFor_138, eX5_coughFor_139, kl_i, kl_r, kl_n, kl_l, true_and, and_true, true_implies, false_implies, not_true_eq_false, not_false_eq_true, i10, Classical.not_not, ok_x0, rfP, ok_x1, rfT, ok_x2, rfK, ok_x3, ix_x3, ok_x4, rf_x4, ok_x5, rf_x5, ok_x6, rf_x6, as_fdd, ai_fdd, xa_fdd, rd_fdd, ok_h0 w hqP, rf_h0 w hqP, ok_h1 w hqP, rf_h1 w hqP, ok_h2 w hqP, ix_h2 w hqP, ok_h3 w hqP, ix_h3 w hqP, ok_h4 w hqP, ix_h4 w hqP, ar_sa w hqP, rf_sa w hqP, ar_oa w hqP, rf_oa w hqP, hw_0, hw_1, hw_2, hu_0, hu_1, hu_2, on_vw, on_f, se_vw, se_f, vw_pv, pv_pv, ost_uI, sst_uI, sit_d, may_d, far_d, stay_d, goe_d, stp_d, hOk_h w hqP, hq_hA, pX5_finding, mX5_finding, rfx0, rfx1, rfx2, rfx3, rfx4, rfx5, rfx6, N_0, N_1, N_2, N_3, N_4, N_5, N_6, v7_0, v7_1, v7_2, v7_3, v7_4, v7_5, v7_6, hN, eM, hlt, hvi, pX0_isHeld, rX0_isHeld, bi_0, hw, pX0_nextFor, eq_true h, rX0_nextFor]
      refine ⟨fun d => go _ _ (hno _ rfl (fun z => z.1 (hb.neg.mpr d))), fun d => ⟨fun f => go _ _ (hno _ rfl (fun z => f (by rw [← nx1 d]; exact z.2.1))), fun f => go _ _ (hye ⟨fun z => d (hb.neg.mp z), (nx1 d).trans f, Or.inl neg1⟩)⟩⟩
    · rw [b2] at hno hye ⊢
      have hb6 : b < 6 := by omega
      have hvb : vp_in (nI b) 6 := vi_nI hb6
      have hNb : NN (nI b) = b := NN_nI (by omega)
      have n1 : ¬ nI b = -1 := nI_ne1 (by omega)
      have n0 : ¬ nI b < 0 := nI_pos (by omega)
      rw [hNb] at hno hye
      simp only [eX5_coughFor_0, eX5_coughFor_1, eX5_coughFor_2, eX5_coughFor_5, eX5_coughFor_8, eX5_coughFor_9, eX5_coughFor_10, eX5_coughFor_13, eX5_coughFor_14, eX5_coughFor_15, eX5_coughFor_18, eX5_coughFor_21, eX5_coughFor_22, eX5_coughFor_23, eX5_coughFor_26, eX5_coughFor_29, eX5_coughFor_30, eX5_coughFor_31, eX5_coughFor_34, eX5_coughFor_35, eX5_coughFor_36, eX5_coughFor_37, eX5_coughFor_38, eX5_coughFor_40, eX5_coughFor_41, eX5_coughFor_44, eX5_coughFor_47, eX5_coughFor_50, eX5_coughFor_51, eX5_coughFor_52, eX5_coughFor_55, eX5_coughFor_56, eX5_coughFor_59, eX5_coughFor_62, eX5_coughFor_63, eX5_coughFor_64, eX5_coughFor_67, eX5_coughFor_68, eX5_coughFor_71, eX5_coughFor_74, eX5_coughFor_75, eX5_coughFor_76, eX5_coughFor_79, eX5_coughFor_82, eX5_coughFor_83, eX5_coughFor_86, eX5_coughFor_87, eX5_coughFor_89, eX5_coughFor_91, eX5_coughFor_94, eX5_coughFor_95, eX5_coughFor_98, eX5_coughFor_99, eX5_coughFor_102, eX5_coughFor_105, eX5_coughFor_106, eX5_coughFor_109, eX5_coughFor_110, eX5_coughFor_113, eX5_coughFor_114, eX5_coughFor_117, eX5_coughFor_118, eX5_coughFor_119, eX5_coughFor_122, eX5_coughFor_125, eX5_coughFor_126, eX5_coughFor_127, eX5_coughFor_130, eX5_coughFor_131, eX5_coughFor_132, eX5_coughFor_135, eX5_coughFor_138, eX5_coughFor_139, kl_i, kl_r, kl_n, kl_l, true_and, and_true, true_implies, false_implies, not_true_eq_false, not_false_eq_true, i10, Classical.not_not, ok_x0, rfP, ok_x1, rfT, ok_x2, rfK, ok_x3, ix_x3, ok_x4, rf_x4, ok_x5, rf_x5, ok_x6, rf_x6, as_fdd, ai_fdd, xa_fdd, rd_fdd, ok_h0 w hqP, rf_h0 w hqP, ok_h1 w hqP, rf_h1 w hqP, ok_h2 w hqP, ix_h2 w hqP, ok_h3 w hqP, ix_h3 w hqP, ok_h4 w hqP, ix_h4 w hqP, ar_sa w hqP, rf_sa w hqP, ar_oa w hqP, rf_oa w hqP, hw_0, hw_1, hw_2, hu_0, hu_1, hu_2, on_vw, on_f, se_vw, se_f, vw_pv, pv_pv, ost_uI, sst_uI, sit_d, may_d, far_d, stay_d, goe_d, stp_d, hOk_h w hqP, hq_hA, pX5_finding, mX5_finding, rfx0, rfx1, rfx2, rfx3, rfx4, rfx5, rfx6, N_0, N_1, N_2, N_3, N_4, N_5, N_6, v7_0, v7_1, v7_2, v7_3, v7_4, v7_5, v7_6, hN, ok_se0 w hqP hs, ix_se0 w hqP hs, ok_se1 w hqP hs, ix_se1 w hqP hs, ok_se2 w hqP hs, ix_se2 w hqP hs, eOk_se w hqP hs, fo_se w hqP hs, hNb, ok_se0 w hqP hb6, ix_se0 w hqP hb6, ok_se1 w hqP hb6, ix_se1 w hqP hb6, ok_se2 w hqP hb6, ix_se2 w hqP hb6, eOk_se w hqP hb6, fo_se w hqP hb6, eM, hlt, hvi, hvb, n1, pX0_isHeld, rX0_isHeld, bi_0, hw, pX0_nextFor, eq_true h, rX0_nextFor]
      refine ⟨fun f => go _ _ (hno _ rfl (fun z => z.2.2.elim n0 (fun y => absurd y (Int32.not_lt.mpr f)))), fun f => ⟨fun d => go _ _ (hno _ rfl (fun z => z.1 (hb.neg.mpr d))), fun d => ⟨fun g => go _ _ (hno _ rfl (fun z => g (by rw [← nx1 d]; exact z.2.1))), fun g => go _ _ (hye ⟨fun z => d (hb.neg.mp z), (nx1 d).trans g, Or.inr (Int32.not_le.mp f)⟩)⟩⟩⟩
theorem vX5_coughFor (w : WW) : VX5_coughFor w := by
  intro s u hw h
  have hv : Hv (vw u (91 * qP)) := h.1
  by_cases c : isOn (vw u (91 * qP)) s
  · have hs := (isOn_vi hv.1).mp c
    have h6 : vp_in s 10 := vi_mono hs hv.1.K.1
    have hs6 : NN s < 10 := vi_lt h6
    have hc := Hv.c hv (vi_lt hs)
    obtain ⟨M, hM, eM⟩ := hv.1.1
    have eN : NN (vw u (91 * qP) 1) = M := by rw [eM, NN_nI (by omega)]
    simp only [eX5_coughFor_0, eX5_coughFor_1, eX5_coughFor_2, eX5_coughFor_5, eX5_coughFor_8, eX5_coughFor_9, eX5_coughFor_10, eX5_coughFor_13, eX5_coughFor_14, eX5_coughFor_15, eX5_coughFor_18, eX5_coughFor_21, eX5_coughFor_22, eX5_coughFor_23, eX5_coughFor_26, eX5_coughFor_29, eX5_coughFor_30, eX5_coughFor_31, eX5_coughFor_34, eX5_coughFor_35, eX5_coughFor_36, eX5_coughFor_37, eX5_coughFor_38, eX5_coughFor_40, eX5_coughFor_41, eX5_coughFor_44, eX5_coughFor_47, eX5_coughFor_50, eX5_coughFor_51, eX5_coughFor_52, eX5_coughFor_55, eX5_coughFor_56, eX5_coughFor_59, eX5_coughFor_62, eX5_coughFor_63, eX5_coughFor_64, eX5_coughFor_67, eX5_coughFor_68, eX5_coughFor_71, eX5_coughFor_74, eX5_coughFor_75, eX5_coughFor_76, eX5_coughFor_79, eX5_coughFor_82, eX5_coughFor_83, eX5_coughFor_86, eX5_coughFor_87, eX5_coughFor_89, eX5_coughFor_91, eX5_coughFor_94, eX5_coughFor_95, eX5_coughFor_98, eX5_coughFor_99, eX5_coughFor_102, eX5_coughFor_105, eX5_coughFor_106, eX5_coughFor_109, eX5_coughFor_110, eX5_coughFor_113, eX5_coughFor_114, eX5_coughFor_117, eX5_coughFor_118, eX5_coughFor_119, eX5_coughFor_122, eX5_coughFor_125, eX5_coughFor_126, eX5_coughFor_127, eX5_coughFor_130, eX5_coughFor_131, eX5_coughFor_132, eX5_coughFor_135, eX5_coughFor_138, eX5_coughFor_139, kl_i, kl_r, kl_n, kl_l, true_and, and_true, true_implies, false_implies, not_true_eq_false, not_false_eq_true, i10, Classical.not_not, ok_x0, rfP, ok_x1, rfT, ok_x2, rfK, ok_x3, ix_x3, ok_x4, rf_x4, ok_x5, rf_x5, ok_x6, rf_x6, as_fdd, ai_fdd, xa_fdd, rd_fdd, ok_h0 w hqP, rf_h0 w hqP, ok_h1 w hqP, rf_h1 w hqP, ok_h2 w hqP, ix_h2 w hqP, ok_h3 w hqP, ix_h3 w hqP, ok_h4 w hqP, ix_h4 w hqP, ar_sa w hqP, rf_sa w hqP, ar_oa w hqP, rf_oa w hqP, hw_0, hw_1, hw_2, hu_0, hu_1, hu_2, on_vw, on_f, se_vw, se_f, vw_pv, pv_pv, ost_uI, sst_uI, sit_d, may_d, far_d, stay_d, goe_d, stp_d, hOk_h w hqP, hq_hA, pX5_finding, mX5_finding, rfx0, rfx1, rfx2, rfx3, rfx4, rfx5, rfx6, N_0, N_1, N_2, N_3, N_4, N_5, N_6, v7_0, v7_1, v7_2, v7_3, v7_4, v7_5, v7_6, pX5_isOne, rX5_isOne, bi_t c, bi_0, h6, ok_on0 w hqP hs6, ix_on0 w hqP hs6, ok_on1 w hqP hs6, ix_on1 w hqP hs6, ok_on2 w hqP hs6, ix_on2 w hqP hs6, ok_on3 w hqP hs6, ix_on3 w hqP hs6, ok_on4 w hqP hs6, ix_on4 w hqP hs6, ok_on5 w hqP hs6, ix_on5 w hqP hs6, ok_on6 w hqP hs6, ix_on6 w hqP hs6, oOk_on w hqP hs6, fo_on w hqP hs6, pX1_sits, rX5_coughFor, mX5_coughFor]
    refine ⟨fun d => ?_, fun d => ?_⟩
    · have nn : ¬ ¬ on (vw u (91 * qP)) (NN s) 5 < 0 := fun z => z (hc.sit.mpr d)
      refine lX5_coughFor hw hv hM eM (fun e => ?_) (fun e => ?_) M 0 _ (by omega)
      · have := xf3 (o := oCoughFor (vw u (91 * qP)) s) (u := u) (by rw [oCoughFor, if_neg (fun z => z c), if_neg nn, eN, if_pos (by rw [e]; decide)])
        exact ⟨by rw [this.1], this.2⟩
      · have nl : ¬ cfN (vw u (91 * qP)) s M < 0 := by
          rcases cfN_rng (vw u (91 * qP)) s M with q | ⟨b, b1, b2⟩
          · exact absurd q e
          · rw [b2]; exact nI_pos (by omega)
        have := xfq (o := oCoughFor (vw u (91 * qP)) s) (u := u) (a := cfN (vw u (91 * qP)) s M) (by rw [oCoughFor, if_neg (fun z => z c), if_neg nn, eN, if_neg nl])
        exact ⟨by rw [← this.1], this.2⟩
    · have := xf4 (o := oCoughFor (vw u (91 * qP)) s) (u := u) (by rw [oCoughFor, if_neg (fun z => z c), if_pos (fun z => d (hc.sit.mp z))])
      exact ⟨by rw [this.1], this.2⟩
  · simp only [eX5_coughFor_0, eX5_coughFor_1, eX5_coughFor_2, eX5_coughFor_5, eX5_coughFor_8, eX5_coughFor_9, eX5_coughFor_10, eX5_coughFor_13, eX5_coughFor_14, eX5_coughFor_15, eX5_coughFor_18, eX5_coughFor_21, eX5_coughFor_22, eX5_coughFor_23, eX5_coughFor_26, eX5_coughFor_29, eX5_coughFor_30, eX5_coughFor_31, eX5_coughFor_34, eX5_coughFor_35, eX5_coughFor_36, eX5_coughFor_37, eX5_coughFor_38, eX5_coughFor_40, eX5_coughFor_41, eX5_coughFor_44, eX5_coughFor_47, eX5_coughFor_50, eX5_coughFor_51, eX5_coughFor_52, eX5_coughFor_55, eX5_coughFor_56, eX5_coughFor_59, eX5_coughFor_62, eX5_coughFor_63, eX5_coughFor_64, eX5_coughFor_67, eX5_coughFor_68, eX5_coughFor_71, eX5_coughFor_74, eX5_coughFor_75, eX5_coughFor_76, eX5_coughFor_79, eX5_coughFor_82, eX5_coughFor_83, eX5_coughFor_86, eX5_coughFor_87, eX5_coughFor_89, eX5_coughFor_91, eX5_coughFor_94, eX5_coughFor_95, eX5_coughFor_98, eX5_coughFor_99, eX5_coughFor_102, eX5_coughFor_105, eX5_coughFor_106, eX5_coughFor_109, eX5_coughFor_110, eX5_coughFor_113, eX5_coughFor_114, eX5_coughFor_117, eX5_coughFor_118, eX5_coughFor_119, eX5_coughFor_122, eX5_coughFor_125, eX5_coughFor_126, eX5_coughFor_127, eX5_coughFor_130, eX5_coughFor_131, eX5_coughFor_132, eX5_coughFor_135, eX5_coughFor_138, eX5_coughFor_139, kl_i, kl_r, kl_n, kl_l, true_and, and_true, true_implies, false_implies, not_true_eq_false, not_false_eq_true, i10, Classical.not_not, ok_x0, rfP, ok_x1, rfT, ok_x2, rfK, ok_x3, ix_x3, ok_x4, rf_x4, ok_x5, rf_x5, ok_x6, rf_x6, as_fdd, ai_fdd, xa_fdd, rd_fdd, ok_h0 w hqP, rf_h0 w hqP, ok_h1 w hqP, rf_h1 w hqP, ok_h2 w hqP, ix_h2 w hqP, ok_h3 w hqP, ix_h3 w hqP, ok_h4 w hqP, ix_h4 w hqP, ar_sa w hqP, rf_sa w hqP, ar_oa w hqP, rf_oa w hqP, hw_0, hw_1, hw_2, hu_0, hu_1, hu_2, on_vw, on_f, se_vw, se_f, vw_pv, pv_pv, ost_uI, sst_uI, sit_d, may_d, far_d, stay_d, goe_d, stp_d, hOk_h w hqP, hq_hA, pX5_finding, mX5_finding, rfx0, rfx1, rfx2, rfx3, rfx4, rfx5, rfx6, N_0, N_1, N_2, N_3, N_4, N_5, N_6, v7_0, v7_1, v7_2, v7_3, v7_4, v7_5, v7_6, pX5_isOne, rX5_isOne, bi_f c, rX5_coughFor, mX5_coughFor, Option.some.injEq, Value.int.injEq]
    exact xf0 (by rw [oCoughFor, if_pos c])
set_option maxRecDepth 20000 in
theorem KX5_coughFor_ok (w : WW) : KOk w MX5_coughFor (KX5_coughFor w) := KOk_mk flX5_ok ciX5_ok clX5_ok (fun _ _ h => by cases h) (fun _ _ h => by cases h) (List.forall_mem_cons.mpr ⟨itV (n := 52) (by decide) (COk_V (n := 1) (ci := 5) (ctX5_finding w) wcX5_52 nmX5_finding (by decide) (by decide) rfl (prX5_finding w)), List.forall_mem_cons.mpr ⟨itV (n := 86) (by decide) (COk_V (n := 1) (ci := 0) (ctX0_nextFor w) wcX5_86 nmX0_nextFor (by decide) (by decide) rfl (prX0_nextFor w)), List.forall_mem_cons.mpr ⟨itV (n := 99) (by decide) (COk_V (n := 1) (ci := 5) (ctX5_isOne w) wcX5_99 nmX5_isOne (by decide) (by decide) rfl (prX5_isOne w)), List.forall_mem_cons.mpr ⟨itV (n := 150) (by decide) (COk_V (n := 0) (ci := 1) (ctX1_sits w) wcX5_150 nmX1_sits (by decide) (by decide) rfl (prX1_sits w)), List.forall_mem_cons.mpr ⟨itV (n := 162) (by decide) (COk_V (n := 1) (ci := 0) (ctX0_isHeld w) wcX5_162 nmX0_isHeld (by decide) (by decide) rfl (prX0_isHeld w)), List.forall_mem_nil _⟩⟩⟩⟩⟩)
theorem ctX5_coughFor (w : WW) : CT w yX5_coughFor MX5_coughFor (csX5_coughFor w).2.1 (csX5_coughFor w).2.2 := by
  refine CT_of (by decide) rfl TX5_coughFor_ok TX5_coughFor_v (KX5_coughFor_ok w) (fun as u h => ?_)
  obtain ⟨a0, a1, rfl, h⟩ := sgRI h
  obtain ⟨rfl, hwok, hh⟩ := h
  refine ⟨Nat.le_of_ble_eq_true rfl, ?_⟩
  have key := vX5_coughFor w a1 u hwok hh
  exact key
theorem prX5_coughFor (w : WW) : ∀ as u, (csX5_coughFor w).2.1 as u → ∃ a r, as = .ref a :: r ∧ r.length = 1 ∧ okO w a 5 := by
  intro as u h
  obtain ⟨a0, a1, rfl, h⟩ := sgRI h
  exact ⟨_, _, rfl, rfl, okO_x h⟩
