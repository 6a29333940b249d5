/-! ===== the class's halls, walked ===== -/
theorem vX0_hasAllSeats (w : WW) : VX0_hasAllSeats w := by
  intro q u hq h
  simp only [eX0_hasAllSeats_0, eX0_hasAllSeats_1, eX0_hasAllSeats_4, eX0_hasAllSeats_6, eX0_hasAllSeats_9, eX0_hasAllSeats_10, eX0_hasAllSeats_13, eX0_hasAllSeats_14, kl_i, kl_r, kl_n, kl_l, true_and, and_true, true_implies, false_implies, not_true_eq_false, not_false_eq_true, i10, Classical.not_not, ok_h0 w hq, rf_h0 w hq, ok_h1 w hq, rf_h1 w hq, ok_h2 w hq, ix_h2 w hq, ok_h3 w hq, ix_h3 w hq, ok_h4 w hq, ix_h4 w hq, ar_sa w hq, rf_sa w hq, ar_oa w hq, rf_oa w hq, hw_0, hw_1, hw_2, hu_0, hu_1, hu_2, on_vw, on_f, se_vw, se_f, vw_pv, pv_pv, ost_uI, sst_uI, sit_d, may_d, far_d, stay_d, goe_d, stp_d, hOk_h w hq, hq_hA, rX0_hasAllSeats, Option.some.injEq, Value.int.injEq]
  exact ⟨fun c => ⟨nb_0, (bi_f (Int32.not_le.mpr c)).symm⟩, fun c => ⟨nb_1, (bi_t (Int32.not_lt.mp c)).symm⟩⟩
set_option maxRecDepth 20000 in
theorem KX0_hasAllSeats_ok (w : WW) : KOk w MX0_hasAllSeats (KX0_hasAllSeats w) := KOk_mk flX0_ok ciX0_ok clX0_ok (fun _ _ h => by cases h) (fun _ _ h => by cases h) (List.forall_mem_nil _)
theorem ctX0_hasAllSeats (w : WW) : CT w yX0_hasAllSeats MX0_hasAllSeats (csX0_hasAllSeats w).2.1 (csX0_hasAllSeats w).2.2 := by
  refine CT_of (by decide) rfl TX0_hasAllSeats_ok TX0_hasAllSeats_v (KX0_hasAllSeats_ok w) (fun as u h => ?_)
  obtain ⟨a0, rfl, h⟩ := sgR h
  obtain ⟨h0, hh⟩ := h
  obtain ⟨q0, e0, rfl⟩ := h0
  rw [hq_hA] at hh
  refine ⟨Nat.le_of_ble_eq_true rfl, ?_⟩
  have key := vX0_hasAllSeats w q0 u e0 hh
  simp only [csX0_hasAllSeats, hq_hA]
  exact key
theorem prX0_hasAllSeats (w : WW) : ∀ as u, (csX0_hasAllSeats w).2.1 as u → ∃ a r, as = .ref a :: r ∧ r.length = 0 ∧ okO w a 0 := by
  intro as u h
  obtain ⟨a0, rfl, h⟩ := sgR h
  exact ⟨_, _, rfl, rfl, okO_h h⟩
theorem vX0_hasAllOnes (w : WW) : VX0_hasAllOnes w := by
  intro q u hq h
  simp only [eX0_hasAllOnes_0, eX0_hasAllOnes_1, eX0_hasAllOnes_4, eX0_hasAllOnes_6, eX0_hasAllOnes_9, eX0_hasAllOnes_10, eX0_hasAllOnes_13, eX0_hasAllOnes_14, kl_i, kl_r, kl_n, kl_l, true_and, and_true, true_implies, false_implies, not_true_eq_false, not_false_eq_true, i10, Classical.not_not, ok_h0 w hq, rf_h0 w hq, ok_h1 w hq, rf_h1 w hq, ok_h2 w hq, ix_h2 w hq, ok_h3 w hq, ix_h3 w hq, ok_h4 w hq, ix_h4 w hq, ar_sa w hq, rf_sa w hq, ar_oa w hq, rf_oa w hq, hw_0, hw_1, hw_2, hu_0, hu_1, hu_2, on_vw, on_f, se_vw, se_f, vw_pv, pv_pv, ost_uI, sst_uI, sit_d, may_d, far_d, stay_d, goe_d, stp_d, hOk_h w hq, hq_hA, rX0_hasAllOnes, Option.some.injEq, Value.int.injEq]
  exact ⟨fun c => ⟨nb_0, (bi_f (Int32.not_le.mpr c)).symm⟩, fun c => ⟨nb_1, (bi_t (Int32.not_lt.mp c)).symm⟩⟩
set_option maxRecDepth 20000 in
theorem KX0_hasAllOnes_ok (w : WW) : KOk w MX0_hasAllOnes (KX0_hasAllOnes w) := KOk_mk flX0_ok ciX0_ok clX0_ok (fun _ _ h => by cases h) (fun _ _ h => by cases h) (List.forall_mem_nil _)
theorem ctX0_hasAllOnes (w : WW) : CT w yX0_hasAllOnes MX0_hasAllOnes (csX0_hasAllOnes w).2.1 (csX0_hasAllOnes w).2.2 := by
  refine CT_of (by decide) rfl TX0_hasAllOnes_ok TX0_hasAllOnes_v (KX0_hasAllOnes_ok w) (fun as u h => ?_)
  obtain ⟨a0, rfl, h⟩ := sgR h
  obtain ⟨h0, hh⟩ := h
  obtain ⟨q0, e0, rfl⟩ := h0
  rw [hq_hA] at hh
  refine ⟨Nat.le_of_ble_eq_true rfl, ?_⟩
  have key := vX0_hasAllOnes w q0 u e0 hh
  simp only [csX0_hasAllOnes, hq_hA]
  exact key
theorem prX0_hasAllOnes (w : WW) : ∀ as u, (csX0_hasAllOnes w).2.1 as u → ∃ a r, as = .ref a :: r ∧ r.length = 0 ∧ okO w a 0 := by
  intro as u h
  obtain ⟨a0, rfl, h⟩ := sgR h
  exact ⟨_, _, rfl, rfl, okO_h h⟩
theorem vX0_addSeat (w : WW) : VX0_addSeat w := by
  intro q p t u hq h
  have hs : NN (vw u (91 * q) 1) < 6 := vi_lt h
  have h' : vp_in (vw u (91 * q) 1) 6 := h
  simp only [eX0_addSeat_0, eX0_addSeat_1, eX0_addSeat_4, eX0_addSeat_5, eX0_addSeat_8, eX0_addSeat_9, eX0_addSeat_10, eX0_addSeat_11, eX0_addSeat_12, eX0_addSeat_15, eX0_addSeat_16, eX0_addSeat_17, eX0_addSeat_20, eX0_addSeat_21, eX0_addSeat_22, eX0_addSeat_25, eX0_addSeat_26, eX0_addSeat_27, eX0_addSeat_30, eX0_addSeat_31, eX0_addSeat_32, eX0_addSeat_33, eX0_addSeat_36, kl_i, kl_r, kl_n, kl_l, true_and, and_true, true_implies, false_implies, not_true_eq_false, not_false_eq_true, i10, Classical.not_not, ok_h0 w hq, rf_h0 w hq, ok_h1 w hq, rf_h1 w hq, ok_h2 w hq, ix_h2 w hq, ok_h3 w hq, ix_h3 w hq, ok_h4 w hq, ix_h4 w hq, ar_sa w hq, rf_sa w hq, ar_oa w hq, rf_oa w hq, hw_0, hw_1, hw_2, hu_0, hu_1, hu_2, on_vw, on_f, se_vw, se_f, vw_pv, pv_pv, ost_uI, sst_uI, sit_d, may_d, far_d, stay_d, goe_d, stp_d, hOk_h w hq, hq_hA, ok_se0 w hq hs, ix_se0 w hq hs, ok_se1 w hq hs, ix_se1 w hq hs, ok_se2 w hq hs, ix_se2 w hq hs, eOk_se w hq hs, fo_se w hq hs, h', hd1_sst, rX0_addSeat, mX0_addSeat, seatAdd]
set_option maxRecDepth 20000 in
theorem KX0_addSeat_ok (w : WW) : KOk w MX0_addSeat (KX0_addSeat w) := KOk_mk flX0_ok ciX0_ok clX0_ok (fun _ _ h => by cases h) (fun _ _ h => by cases h) (List.forall_mem_nil _)
theorem ctX0_addSeat (w : WW) : CT w yX0_addSeat MX0_addSeat (csX0_addSeat w).2.1 (csX0_addSeat w).2.2 := by
  refine CT_of (by decide) rfl TX0_addSeat_ok TX0_addSeat_v (KX0_addSeat_ok w) (fun as u h => ?_)
  obtain ⟨a0, a1, a2, rfl, h⟩ := sgRII h
  obtain ⟨h0, hh⟩ := h
  obtain ⟨q0, e0, rfl⟩ := h0
  rw [hq_hA] at hh
  refine ⟨Nat.le_of_ble_eq_true rfl, ?_⟩
  have key := vX0_addSeat w q0 a1 a2 u e0 hh
  simp only [csX0_addSeat, hq_hA]
  exact key
theorem prX0_addSeat (w : WW) : ∀ as u, (csX0_addSeat w).2.1 as u → ∃ a r, as = .ref a :: r ∧ r.length = 2 ∧ okO w a 0 := by
  intro as u h
  obtain ⟨a0, a1, a2, rfl, h⟩ := sgRII h
  exact ⟨_, _, rfl, rfl, okO_h h⟩
theorem arr_d (u : MM) (b c : Nat) (k p t : Int32) : mX1_arrive (b + (21 + 7 * c)) k p t u = pv u b (ost (ost (ost (ost (ost (ost (ost (vw u b) c 0 k) c 1 p) c 2 t) c 3 (-1)) c 4 0) c 5 (-1)) c 6 0) := by
  simp only [mX1_arrive, Nat.add_assoc b]
  simp only [ost_uI, vw_pv, pv_pv]
theorem vX0_addOne (w : WW) : VX0_addOne w := by
  intro q k p t u hq h
  have hs : NN (vw u (91 * q) 2) < 10 := vi_lt h
  have h' : vp_in (vw u (91 * q) 2) 10 := h
  simp only [eX0_addOne_0, eX0_addOne_1, eX0_addOne_4, eX0_addOne_5, eX0_addOne_8, eX0_addOne_9, eX0_addOne_10, eX0_addOne_11, eX0_addOne_12, eX0_addOne_15, eX0_addOne_16, eX0_addOne_17, eX0_addOne_20, eX0_addOne_21, eX0_addOne_22, eX0_addOne_23, eX0_addOne_26, kl_i, kl_r, kl_n, kl_l, true_and, and_true, true_implies, false_implies, not_true_eq_false, not_false_eq_true, i10, Classical.not_not, ok_h0 w hq, rf_h0 w hq, ok_h1 w hq, rf_h1 w hq, ok_h2 w hq, ix_h2 w hq, ok_h3 w hq, ix_h3 w hq, ok_h4 w hq, ix_h4 w hq, ar_sa w hq, rf_sa w hq, ar_oa w hq, rf_oa w hq, hw_0, hw_1, hw_2, hu_0, hu_1, hu_2, on_vw, on_f, se_vw, se_f, vw_pv, pv_pv, ost_uI, sst_uI, sit_d, may_d, far_d, stay_d, goe_d, stp_d, hOk_h w hq, hq_hA, ok_on0 w hq hs, ix_on0 w hq hs, ok_on1 w hq hs, ix_on1 w hq hs, ok_on2 w hq hs, ix_on2 w hq hs, ok_on3 w hq hs, ix_on3 w hq hs, ok_on4 w hq hs, ix_on4 w hq hs, ok_on5 w hq hs, ix_on5 w hq hs, ok_on6 w hq hs, ix_on6 w hq hs, oOk_on w hq hs, fo_on w hq hs, h', pX1_arrive, arr_d, hd2_ost, rX0_addOne, mX0_addOne, oneAdd]
theorem wcX0_51 : ∀ x ∈ wV1 RX0 51 yX1_arrive MX1_arrive, x ∈ Gt := by decide +kernel
theorem nmX1_arrive : nmOk yX1_arrive 3 = true := by decide +kernel
set_option maxRecDepth 20000 in
theorem KX0_addOne_ok (w : WW) : KOk w MX0_addOne (KX0_addOne w) := KOk_mk flX0_ok ciX0_ok clX0_ok (fun _ _ h => by cases h) (fun _ _ h => by cases h) (List.forall_mem_cons.mpr ⟨itV (n := 51) (by decide) (COk_V (n := 3) (ci := 1) (ctX1_arrive w) wcX0_51 nmX1_arrive (by decide) (by decide) rfl (prX1_arrive w)), List.forall_mem_nil _⟩)
theorem ctX0_addOne (w : WW) : CT w yX0_addOne MX0_addOne (csX0_addOne w).2.1 (csX0_addOne w).2.2 := by
  refine CT_of (by decide) rfl TX0_addOne_ok TX0_addOne_v (KX0_addOne_ok w) (fun as u h => ?_)
  obtain ⟨a0, a1, a2, a3, rfl, h⟩ := sgRIII h
  obtain ⟨h0, hh⟩ := h
  obtain ⟨q0, e0, rfl⟩ := h0
  rw [hq_hA] at hh
  refine ⟨Nat.le_of_ble_eq_true rfl, ?_⟩
  have key := vX0_addOne w q0 a1 a2 a3 u e0 hh
  simp only [csX0_addOne, hq_hA]
  exact key
theorem prX0_addOne (w : WW) : ∀ as u, (csX0_addOne w).2.1 as u → ∃ a r, as = .ref a :: r ∧ r.length = 3 ∧ okO w a 0 := by
  intro as u h
  obtain ⟨a0, a1, a2, a3, rfl, h⟩ := sgRIII h
  exact ⟨_, _, rfl, rfl, okO_h h⟩
theorem vX0_isHeld (w : WW) : VX0_isHeld w := by
  intro q s u hq h
  have hs : NN s < 6 := vi_lt h
  have h' : vp_in s 6 := h
  simp only [eX0_isHeld_0, eX0_isHeld_1, eX0_isHeld_4, eX0_isHeld_5, eX0_isHeld_6, eX0_isHeld_9, eX0_isHeld_10, eX0_isHeld_13, eX0_isHeld_14, eX0_isHeld_17, eX0_isHeld_18, kl_i, kl_r, kl_n, kl_l, true_and, and_true, true_implies, false_implies, not_true_eq_false, not_false_eq_true, i10, Classical.not_not, ok_h0 w hq, rf_h0 w hq, ok_h1 w hq, rf_h1 w hq, ok_h2 w hq, ix_h2 w hq, ok_h3 w hq, ix_h3 w hq, ok_h4 w hq, ix_h4 w hq, ar_sa w hq, rf_sa w hq, ar_oa w hq, rf_oa w hq, hw_0, hw_1, hw_2, hu_0, hu_1, hu_2, on_vw, on_f, se_vw, se_f, vw_pv, pv_pv, ost_uI, sst_uI, sit_d, may_d, far_d, stay_d, goe_d, stp_d, hOk_h w hq, hq_hA, ok_se0 w hq hs, ix_se0 w hq hs, ok_se1 w hq hs, ix_se1 w hq hs, ok_se2 w hq hs, ix_se2 w hq hs, eOk_se w hq hs, fo_se w hq hs, h', rX0_isHeld, Option.some.injEq, Value.int.injEq]
  exact ⟨fun c => ⟨nb_0, (bi_f (fun z => z c)).symm⟩, fun c => ⟨nb_1, (bi_t c).symm⟩⟩
set_option maxRecDepth 20000 in
theorem KX0_isHeld_ok (w : WW) : KOk w MX0_isHeld (KX0_isHeld w) := KOk_mk flX0_ok ciX0_ok clX0_ok (fun _ _ h => by cases h) (fun _ _ h => by cases h) (List.forall_mem_nil _)
theorem ctX0_isHeld (w : WW) : CT w yX0_isHeld MX0_isHeld (csX0_isHeld w).2.1 (csX0_isHeld w).2.2 := by
  refine CT_of (by decide) rfl TX0_isHeld_ok TX0_isHeld_v (KX0_isHeld_ok w) (fun as u h => ?_)
  obtain ⟨a0, a1, rfl, h⟩ := sgRI h
  obtain ⟨h0, hh⟩ := h
  obtain ⟨q0, e0, rfl⟩ := h0
  rw [hq_hA] at hh
  refine ⟨Nat.le_of_ble_eq_true rfl, ?_⟩
  have key := vX0_isHeld w q0 a1 u e0 hh
  simp only [csX0_isHeld, hq_hA]
  exact key
theorem prX0_isHeld (w : WW) : ∀ as u, (csX0_isHeld w).2.1 as u → ∃ a r, as = .ref a :: r ∧ r.length = 1 ∧ okO w a 0 := by
  intro as u h
  obtain ⟨a0, a1, rfl, h⟩ := sgRI h
  exact ⟨_, _, rfl, rfl, okO_h h⟩
theorem lX0_seatOn {w : WW} {q : Nat} (hq : q < 3) {p : Int32} {u : MM} {M : Nat} (hM : M ≤ 6) (eM : vw u (91 * q) 1 = nI M) {Q : Option Value → MM → Prop} :
    ∀ (n i : Nat), i + n = M → Q (some (.int (so (vw u (91 * q)) p i n))) u → GX0_seatOn w Q 2 [some (.ref (hA w q)), some (.int p), some (.int (nI i))] [] u := by
  intro n
  induction n with
  | zero =>
    intro i hi hQ
    have e : i = M := by omega
    subst e
    have hle : nI i ≤ nI i := nI_le (Nat.le_refl i) (by omega)
    rw [eX0_seatOn_2]
    simp only [eX0_seatOn_0, eX0_seatOn_1, eX0_seatOn_3, eX0_seatOn_4, eX0_seatOn_7, eX0_seatOn_10, eX0_seatOn_11, eX0_seatOn_14, eX0_seatOn_15, eX0_seatOn_16, eX0_seatOn_19, eX0_seatOn_20, eX0_seatOn_23, eX0_seatOn_24, eX0_seatOn_25, eX0_seatOn_28, eX0_seatOn_31, eX0_seatOn_32, kl_i, kl_r, kl_n, kl_l, true_and, and_true, true_implies, false_implies, not_true_eq_false, not_false_eq_true, i10, Classical.not_not, ok_h0 w hq, rf_h0 w hq, ok_h1 w hq, rf_h1 w hq, ok_h2 w hq, ix_h2 w hq, ok_h3 w hq, ix_h3 w hq, ok_h4 w hq, ix_h4 w hq, ar_sa w hq, rf_sa w hq, ar_oa w hq, rf_oa w hq, hw_0, hw_1, hw_2, hu_0, hu_1, hu_2, on_vw, on_f, se_vw, se_f, vw_pv, pv_pv, ost_uI, sst_uI, sit_d, may_d, far_d, stay_d, goe_d, stp_d, hOk_h w hq, hq_hA, eM, hle]
    exact hQ
  | succ n ih =>
    intro i hi hQ
    have hs : i < 6 := by omega
    have hN : NN (nI i) = i := NN_nI (by omega)
    have hv : vp_in (nI i) 6 := vi_nI hs
    have hlt : ¬ nI M ≤ nI i := nI_ge (by omega) (by omega)
    rw [eX0_seatOn_2]
    simp only [eX0_seatOn_0, eX0_seatOn_1, eX0_seatOn_3, eX0_seatOn_4, eX0_seatOn_7, eX0_seatOn_10, eX0_seatOn_11, eX0_seatOn_14, eX0_seatOn_15, eX0_seatOn_16, eX0_seatOn_19, eX0_seatOn_20, eX0_seatOn_23, eX0_seatOn_24, eX0_seatOn_25, eX0_seatOn_28, eX0_seatOn_31, eX0_seatOn_32, kl_i, kl_r, kl_n, kl_l, true_and, and_true, true_implies, false_implies, not_true_eq_false, not_false_eq_true, i10, Classical.not_not, ok_h0 w hq, rf_h0 w hq, ok_h1 w hq, rf_h1 w hq, ok_h2 w hq, ix_h2 w hq, ok_h3 w hq, ix_h3 w hq, ok_h4 w hq, ix_h4 w hq, ar_sa w hq, rf_sa w hq, ar_oa w hq, rf_oa w hq, hw_0, hw_1, hw_2, hu_0, hu_1, hu_2, on_vw, on_f, se_vw, se_f, vw_pv, pv_pv, ost_uI, sst_uI, sit_d, may_d, far_d, stay_d, goe_d, stp_d, hOk_h w hq, hq_hA, hN, ok_se0 w hq hs, ix_se0 w hq hs, ok_se1 w hq hs, ix_se1 w hq hs, ok_se2 w hq hs, ix_se2 w hq hs, eOk_se w hq hs, fo_se w hq hs, eM, hlt, hv]
    refine ⟨fun c => ?_, fun c => ?_⟩
    · rw [nI_1]; exact ih (i + 1) (by omega) (by rw [so, if_neg c] at hQ; exact hQ)
    · rw [so, if_pos c] at hQ; exact hQ
theorem vX0_seatOn (w : WW) : VX0_seatOn w := by
  intro q p u hq h
  obtain ⟨M, hM, eM⟩ := h
  simp only [eX0_seatOn_0, eX0_seatOn_1, eX0_seatOn_3, eX0_seatOn_4, eX0_seatOn_7, eX0_seatOn_10, eX0_seatOn_11, eX0_seatOn_14, eX0_seatOn_15, eX0_seatOn_16, eX0_seatOn_19, eX0_seatOn_20, eX0_seatOn_23, eX0_seatOn_24, eX0_seatOn_25, eX0_seatOn_28, eX0_seatOn_31, eX0_seatOn_32, kl_i, kl_r, kl_n, kl_l, true_and, and_true, true_implies, false_implies, not_true_eq_false, not_false_eq_true, i10, Classical.not_not]
  exact lX0_seatOn hq hM eM M 0 (by omega) ⟨by rw [rX0_seatOn, eM, NN_nI (by omega)], rfl⟩
set_option maxRecDepth 20000 in
theorem KX0_seatOn_ok (w : WW) : KOk w MX0_seatOn (KX0_seatOn w) := KOk_mk flX0_ok ciX0_ok clX0_ok (fun _ _ h => by cases h) (fun _ _ h => by cases h) (List.forall_mem_nil _)
theorem ctX0_seatOn (w : WW) : CT w yX0_seatOn MX0_seatOn (csX0_seatOn w).2.1 (csX0_seatOn w).2.2 := by
  refine CT_of (by decide) rfl TX0_seatOn_ok TX0_seatOn_v (KX0_seatOn_ok w) (fun as u h => ?_)
  obtain ⟨a0, a1, rfl, h⟩ := sgRI h
  obtain ⟨h0, hh⟩ := h
  obtain ⟨q0, e0, rfl⟩ := h0
  rw [hq_hA] at hh
  refine ⟨Nat.le_of_ble_eq_true rfl, ?_⟩
  have key := vX0_seatOn w q0 a1 u e0 hh
  simp only [csX0_seatOn, hq_hA]
  exact key
theorem prX0_seatOn (w : WW) : ∀ as u, (csX0_seatOn w).2.1 as u → ∃ a r, as = .ref a :: r ∧ r.length = 1 ∧ okO w a 0 := by
  intro as u h
  obtain ⟨a0, a1, rfl, h⟩ := sgRI h
  exact ⟨_, _, rfl, rfl, okO_h h⟩
theorem lX0_nextFor {w : WW} {q : Nat} (hq : q < 3) (hw : wOk w) {s p : Int32} {u : MM} (h : Hv (vw u (91 * q))) {K : Nat} (hK : K ≤ 10) (eK : vw u (91 * q) 2 = nI K) {Q : Option Value → MM → Prop} (hQ : Q (some (.int (nx (vw u (91 * q)) p (-1) K))) u) :
    ∀ (n i : Nat) (b l : Int32) (j : Option Value), i + n = K → b = nx (vw u (91 * q)) p (-1) i → (¬ b < 0 → l = farP (vw u (91 * q)) (NN b) p) → GX0_nextFor w Q 18 [some (.ref (hA w q)), some (.int s), some (.int p), some (.int b), some (.int l), some (.int (nI i)), j] [] u := by
  intro n
  induction n with
  | zero =>
    intro i b l j hi hb hl
    have e : i = K := by omega
    subst e
    have hle : nI i ≤ nI i := nI_le (Nat.le_refl i) (by omega)
    rw [eX0_nextFor_18]
    simp only [eX0_nextFor_0, eX0_nextFor_1, eX0_nextFor_4, eX0_nextFor_5, eX0_nextFor_6, eX0_nextFor_9, eX0_nextFor_10, eX0_nextFor_11, eX0_nextFor_12, eX0_nextFor_13, eX0_nextFor_15, eX0_nextFor_16, eX0_nextFor_20, eX0_nextFor_21, eX0_nextFor_24, eX0_nextFor_27, eX0_nextFor_28, eX0_nextFor_31, eX0_nextFor_33, eX0_nextFor_34, eX0_nextFor_37, eX0_nextFor_40, eX0_nextFor_43, eX0_nextFor_44, eX0_nextFor_47, eX0_nextFor_49, eX0_nextFor_50, eX0_nextFor_51, eX0_nextFor_54, eX0_nextFor_56, eX0_nextFor_57, eX0_nextFor_58, eX0_nextFor_61, eX0_nextFor_63, eX0_nextFor_65, eX0_nextFor_68, eX0_nextFor_70, eX0_nextFor_72, eX0_nextFor_75, eX0_nextFor_76, eX0_nextFor_79, eX0_nextFor_81, eX0_nextFor_82, eX0_nextFor_85, eX0_nextFor_86, eX0_nextFor_89, eX0_nextFor_90, eX0_nextFor_91, eX0_nextFor_94, eX0_nextFor_97, eX0_nextFor_99, eX0_nextFor_100, eX0_nextFor_102, eX0_nextFor_104, eX0_nextFor_107, eX0_nextFor_110, eX0_nextFor_111, kl_i, kl_r, kl_n, kl_l, true_and, and_true, true_implies, false_implies, not_true_eq_false, not_false_eq_true, i10, Classical.not_not, ok_h0 w hq, rf_h0 w hq, ok_h1 w hq, rf_h1 w hq, ok_h2 w hq, ix_h2 w hq, ok_h3 w hq, ix_h3 w hq, ok_h4 w hq, ix_h4 w hq, ar_sa w hq, rf_sa w hq, ar_oa w hq, rf_oa w hq, hw_0, hw_1, hw_2, hu_0, hu_1, hu_2, on_vw, on_f, se_vw, se_f, vw_pv, pv_pv, ost_uI, sst_uI, sit_d, may_d, far_d, stay_d, goe_d, stp_d, hOk_h w hq, hq_hA, eK, hle]
    rw [hb]; exact hQ
  | succ n ih =>
    intro i b l j hi hb hl
    have hc : i < 10 := by omega
    have hN : NN (nI i) = i := NN_nI (by omega)
    have hv : vp_in (nI i) 10 := vi_nI hc
    have hlt : ¬ nI K ≤ nI i := nI_ge (by omega) (by omega)
    have hci : Hc (vw u (91 * q)) i := h.c (by rw [eK, NN_nI (by omega)]; omega)
    have hk : kO (on (vw u (91 * q)) i 0) := hci.1
    have em : (on (vw u (91 * q)) i 5 = -1 ∧ ¬ on (vw u (91 * q)) i 0 = 2) ↔ mayP (vw u (91 * q)) (-1) i := ⟨fun z => ⟨nI_ne1 (by omega), hci.sit.mpr z.1, z.2⟩, fun z => ⟨hci.sit.mp z.2.1, z.2.2⟩⟩
    have go : ∀ (b' l' : Int32) (j : Option Value), b' = nx (vw u (91 * q)) p (-1) (i + 1) → (¬ b' < 0 → l' = farP (vw u (91 * q)) (NN b') p) → GX0_nextFor w Q 18 [some (.ref (hA w q)), some (.int s), some (.int p), some (.int b'), some (.int l'), some (.int (nI i + 1)), j] [] u := fun b' l' j hb' hl' => by rw [nI_1]; exact ih (i + 1) b' l' j (by omega) hb' hl'
    have hno : ¬ (mayP (vw u (91 * q)) (-1) i ∧ (b < 0 ∨ ahead (vw u (91 * q)) i (NN b) p)) → b = nx (vw u (91 * q)) p (-1) (i + 1) := fun z => by
      simp only [nx]; rw [← hb, if_neg z]
    have hye : (mayP (vw u (91 * q)) (-1) i ∧ (b < 0 ∨ ahead (vw u (91 * q)) i (NN b) p)) → nI i = nx (vw u (91 * q)) p (-1) (i + 1) := fun z => by
      simp only [nx]; rw [← hb, if_pos z]
    have hfi : ¬ nI i < 0 → farP (vw u (91 * q)) i p = farP (vw u (91 * q)) (NN (nI i)) p := fun _ => by rw [hN]
    rw [eX0_nextFor_18]
    rcases nx_rng (vw u (91 * q)) p (-1) i with e | ⟨c, c1, c2⟩
    · rw [e] at hb
      subst hb
      simp only [eX0_nextFor_0, eX0_nextFor_1, eX0_nextFor_4, eX0_nextFor_5, eX0_nextFor_6, eX0_nextFor_9, eX0_nextFor_10, eX0_nextFor_11, eX0_nextFor_12, eX0_nextFor_13, eX0_nextFor_15, eX0_nextFor_16, eX0_nextFor_20, eX0_nextFor_21, eX0_nextFor_24, eX0_nextFor_27, eX0_nextFor_28, eX0_nextFor_31, eX0_nextFor_33, eX0_nextFor_34, eX0_nextFor_37, eX0_nextFor_40, eX0_nextFor_43, eX0_nextFor_44, eX0_nextFor_47, eX0_nextFor_49, eX0_nextFor_50, eX0_nextFor_51, eX0_nextFor_54, eX0_nextFor_56, eX0_nextFor_57, eX0_nextFor_58, eX0_nextFor_61, eX0_nextFor_63, eX0_nextFor_65, eX0_nextFor_68, eX0_nextFor_70, eX0_nextFor_72, eX0_nextFor_75, eX0_nextFor_76, eX0_nextFor_79, eX0_nextFor_81, eX0_nextFor_82, eX0_nextFor_85, eX0_nextFor_86, eX0_nextFor_89, eX0_nextFor_90, eX0_nextFor_91, eX0_nextFor_94, eX0_nextFor_97, eX0_nextFor_99, eX0_nextFor_100, eX0_nextFor_102, eX0_nextFor_104, eX0_nextFor_107, eX0_nextFor_110, eX0_nextFor_111, kl_i, kl_r, kl_n, kl_l, true_and, and_true, true_implies, false_implies, not_true_eq_false, not_false_eq_true, i10, Classical.not_not, ok_h0 w hq, rf_h0 w hq, ok_h1 w hq, rf_h1 w hq, ok_h2 w hq, ix_h2 w hq, ok_h3 w hq, ix_h3 w hq, ok_h4 w hq, ix_h4 w hq, ar_sa w hq, rf_sa w hq, ar_oa w hq, rf_oa w hq, hw_0, hw_1, hw_2, hu_0, hu_1, hu_2, on_vw, on_f, se_vw, se_f, vw_pv, pv_pv, ost_uI, sst_uI, sit_d, may_d, far_d, stay_d, goe_d, stp_d, hOk_h w hq, hq_hA, hN, ok_on0 w hq hc, ix_on0 w hq hc, ok_on1 w hq hc, ix_on1 w hq hc, ok_on2 w hq hc, ix_on2 w hq hc, ok_on3 w hq hc, ix_on3 w hq hc, ok_on4 w hq hc, ix_on4 w hq hc, ok_on5 w hq hc, ix_on5 w hq hc, ok_on6 w hq hc, ix_on6 w hq hc, oOk_on w hq hc, fo_on w hq hc, eK, hlt, hv, hw, pX1_mayTakeSeat, pX1_distance, hk, bi_0]
      exact ⟨fun z => go _ _ _ (hye ⟨em.mp z, Or.inl (by decide)⟩) hfi, fun z => go _ _ _ (hno (fun y => z (em.mpr y.1))) hl⟩
    · rw [c2] at hb
      subst hb
      have hd : c < 10 := by omega
      have hNd : NN (nI c) = c := NN_nI (by omega)
      have hvd : vp_in (nI c) 10 := vi_nI hd
      have hn1 : ¬ nI c = -1 := nI_ne1 (by omega)
      have hn0 : ¬ nI c < 0 := nI_pos (by omega)
      have el := hl hn0
      rw [hNd] at el
      subst el
      rw [hNd] at hno hye
      simp only [eX0_nextFor_0, eX0_nextFor_1, eX0_nextFor_4, eX0_nextFor_5, eX0_nextFor_6, eX0_nextFor_9, eX0_nextFor_10, eX0_nextFor_11, eX0_nextFor_12, eX0_nextFor_13, eX0_nextFor_15, eX0_nextFor_16, eX0_nextFor_20, eX0_nextFor_21, eX0_nextFor_24, eX0_nextFor_27, eX0_nextFor_28, eX0_nextFor_31, eX0_nextFor_33, eX0_nextFor_34, eX0_nextFor_37, eX0_nextFor_40, eX0_nextFor_43, eX0_nextFor_44, eX0_nextFor_47, eX0_nextFor_49, eX0_nextFor_50, eX0_nextFor_51, eX0_nextFor_54, eX0_nextFor_56, eX0_nextFor_57, eX0_nextFor_58, eX0_nextFor_61, eX0_nextFor_63, eX0_nextFor_65, eX0_nextFor_68, eX0_nextFor_70, eX0_nextFor_72, eX0_nextFor_75, eX0_nextFor_76, eX0_nextFor_79, eX0_nextFor_81, eX0_nextFor_82, eX0_nextFor_85, eX0_nextFor_86, eX0_nextFor_89, eX0_nextFor_90, eX0_nextFor_91, eX0_nextFor_94, eX0_nextFor_97, eX0_nextFor_99, eX0_nextFor_100, eX0_nextFor_102, eX0_nextFor_104, eX0_nextFor_107, eX0_nextFor_110, eX0_nextFor_111, kl_i, kl_r, kl_n, kl_l, true_and, and_true, true_implies, false_implies, not_true_eq_false, not_false_eq_true, i10, Classical.not_not, ok_h0 w hq, rf_h0 w hq, ok_h1 w hq, rf_h1 w hq, ok_h2 w hq, ix_h2 w hq, ok_h3 w hq, ix_h3 w hq, ok_h4 w hq, ix_h4 w hq, ar_sa w hq, rf_sa w hq, ar_oa w hq, rf_oa w hq, hw_0, hw_1, hw_2, hu_0, hu_1, hu_2, on_vw, on_f, se_vw, se_f, vw_pv, pv_pv, ost_uI, sst_uI, sit_d, may_d, far_d, stay_d, goe_d, stp_d, hOk_h w hq, hq_hA, hN, ok_on0 w hq hc, ix_on0 w hq hc, ok_on1 w hq hc, ix_on1 w hq hc, ok_on2 w hq hc, ix_on2 w hq hc, ok_on3 w hq hc, ix_on3 w hq hc, ok_on4 w hq hc, ix_on4 w hq hc, ok_on5 w hq hc, ix_on5 w hq hc, ok_on6 w hq hc, ix_on6 w hq hc, oOk_on w hq hc, fo_on w hq hc, hNd, ok_on0 w hq hd, ix_on0 w hq hd, ok_on1 w hq hd, ix_on1 w hq hd, ok_on2 w hq hd, ix_on2 w hq hd, ok_on3 w hq hd, ix_on3 w hq hd, ok_on4 w hq hd, ix_on4 w hq hd, ok_on5 w hq hd, ix_on5 w hq hd, ok_on6 w hq hd, ix_on6 w hq hd, oOk_on w hq hd, fo_on w hq hd, eK, hlt, hv, hvd, hw, pX1_mayTakeSeat, pX1_distance, hk, bi_0, hn1]
      refine ⟨fun z => ⟨fun y => go _ _ _ (hye ⟨em.mp z, Or.inr (Or.inl y)⟩) hfi, fun y => ⟨fun x => go _ _ _ (hno (fun t => t.2.elim hn0 (fun r => r.elim y (fun r => x r.1)))) (fun _ => by rw [hNd]), fun x => ⟨fun r => go _ _ _ (hno (fun t => t.2.elim hn0 (fun o => o.elim y (fun o => absurd o.2 (Int32.not_lt.mpr r))))) (fun _ => by rw [hNd]), fun r => go _ _ _ (hye ⟨em.mp z, Or.inr (Or.inr ⟨x, Int32.not_le.mp r⟩)⟩) hfi⟩⟩⟩, fun z => go _ _ _ (hno (fun y => z (em.mpr y.1))) (fun _ => by rw [hNd])⟩
theorem vX0_nextFor (w : WW) : VX0_nextFor w := by
  intro q s u hq hw h
  have hs : NN s < 6 := vi_lt h.1
  have h' : vp_in s 6 := h.1
  obtain ⟨K, hK, eK⟩ := h.2.1.2.1
  simp only [eX0_nextFor_0, eX0_nextFor_1, eX0_nextFor_4, eX0_nextFor_5, eX0_nextFor_6, eX0_nextFor_9, eX0_nextFor_10, eX0_nextFor_11, eX0_nextFor_12, eX0_nextFor_13, eX0_nextFor_15, eX0_nextFor_16, eX0_nextFor_20, eX0_nextFor_21, eX0_nextFor_24, eX0_nextFor_27, eX0_nextFor_28, eX0_nextFor_31, eX0_nextFor_33, eX0_nextFor_34, eX0_nextFor_37, eX0_nextFor_40, eX0_nextFor_43, eX0_nextFor_44, eX0_nextFor_47, eX0_nextFor_49, eX0_nextFor_50, eX0_nextFor_51, eX0_nextFor_54, eX0_nextFor_56, eX0_nextFor_57, eX0_nextFor_58, eX0_nextFor_61, eX0_nextFor_63, eX0_nextFor_65, eX0_nextFor_68, eX0_nextFor_70, eX0_nextFor_72, eX0_nextFor_75, eX0_nextFor_76, eX0_nextFor_79, eX0_nextFor_81, eX0_nextFor_82, eX0_nextFor_85, eX0_nextFor_86, eX0_nextFor_89, eX0_nextFor_90, eX0_nextFor_91, eX0_nextFor_94, eX0_nextFor_97, eX0_nextFor_99, eX0_nextFor_100, eX0_nextFor_102, eX0_nextFor_104, eX0_nextFor_107, eX0_nextFor_110, eX0_nextFor_111, kl_i, kl_r, kl_n, kl_l, true_and, and_true, true_implies, false_implies, not_true_eq_false, not_false_eq_true, i10, Classical.not_not, ok_h0 w hq, rf_h0 w hq, ok_h1 w hq, rf_h1 w hq, ok_h2 w hq, ix_h2 w hq, ok_h3 w hq, ix_h3 w hq, ok_h4 w hq, ix_h4 w hq, ar_sa w hq, rf_sa w hq, ar_oa w hq, rf_oa w hq, hw_0, hw_1, hw_2, hu_0, hu_1, hu_2, on_vw, on_f, se_vw, se_f, vw_pv, pv_pv, ost_uI, sst_uI, sit_d, may_d, far_d, stay_d, goe_d, stp_d, hOk_h w hq, hq_hA, ok_se0 w hq hs, ix_se0 w hq hs, ok_se1 w hq hs, ix_se1 w hq hs, ok_se2 w hq hs, ix_se2 w hq hs, eOk_se w hq hs, fo_se w hq hs, h']
  exact lX0_nextFor hq hw h.2 hK eK ⟨by rw [rX0_nextFor, eK, NN_nI (by omega)], rfl⟩ K 0 _ _ _ (by omega) rfl (fun z => absurd (by decide) z)
theorem wcX0_55 : ∀ x ∈ wV1 RX0 55 yX1_mayTakeSeat MX1_mayTakeSeat, x ∈ Gt := by decide +kernel
theorem nmX1_mayTakeSeat : nmOk yX1_mayTakeSeat 0 = true := by decide +kernel
theorem wcX0_59 : ∀ x ∈ wV1 RX0 59 yX1_distance MX1_distance, x ∈ Gt := by decide +kernel
theorem nmX1_distance : nmOk yX1_distance 1 = true := by decide +kernel
set_option maxRecDepth 20000 in
theorem KX0_nextFor_ok (w : WW) : KOk w MX0_nextFor (KX0_nextFor w) := KOk_mk flX0_ok ciX0_ok clX0_ok (fun _ _ h => by cases h) (fun _ _ h => by cases h) (List.forall_mem_cons.mpr ⟨itV (n := 55) (by decide) (COk_V (n := 0) (ci := 1) (ctX1_mayTakeSeat w) wcX0_55 nmX1_mayTakeSeat (by decide) (by decide) rfl (prX1_mayTakeSeat w)), List.forall_mem_cons.mpr ⟨itV (n := 59) (by decide) (COk_V (n := 1) (ci := 1) (ctX1_distance w) wcX0_59 nmX1_distance (by decide) (by decide) rfl (prX1_distance w)), List.forall_mem_nil _⟩⟩)
theorem ctX0_nextFor (w : WW) : CT w yX0_nextFor MX0_nextFor (csX0_nextFor w).2.1 (csX0_nextFor w).2.2 := by
  refine CT_of (by decide) rfl TX0_nextFor_ok TX0_nextFor_v (KX0_nextFor_ok w) (fun as u h => ?_)
  obtain ⟨a0, a1, rfl, h⟩ := sgRI h
  obtain ⟨h0, hwok, hh⟩ := h
  obtain ⟨q0, e0, rfl⟩ := h0
  rw [hq_hA] at hh
  refine ⟨Nat.le_of_ble_eq_true rfl, ?_⟩
  have key := vX0_nextFor w q0 a1 u e0 hwok hh
  simp only [csX0_nextFor, hq_hA]
  exact key
theorem prX0_nextFor (w : WW) : ∀ as u, (csX0_nextFor w).2.1 as u → ∃ a r, as = .ref a :: r ∧ r.length = 1 ∧ okO w a 0 := by
  intro as u h
  obtain ⟨a0, a1, rfl, h⟩ := sgRI h
  exact ⟨_, _, rfl, rfl, okO_h h⟩
theorem vX0_fall (w : WW) : VX0_fall w := by
  intro q s to u hq h
  have hs : NN s < 6 := vi_lt h.1
  have h' : vp_in s 6 := h.1
  rcases h.2 with e | ht
  · subst e
    simp only [eX0_fall_0, eX0_fall_1, eX0_fall_4, eX0_fall_5, eX0_fall_6, eX0_fall_7, eX0_fall_10, eX0_fall_11, eX0_fall_12, eX0_fall_15, eX0_fall_16, eX0_fall_19, eX0_fall_20, eX0_fall_21, eX0_fall_22, eX0_fall_25, eX0_fall_26, eX0_fall_29, eX0_fall_30, eX0_fall_31, eX0_fall_32, eX0_fall_35, eX0_fall_36, eX0_fall_37, eX0_fall_40, eX0_fall_43, eX0_fall_44, eX0_fall_47, eX0_fall_48, eX0_fall_49, eX0_fall_50, eX0_fall_53, kl_i, kl_r, kl_n, kl_l, true_and, and_true, true_implies, false_implies, not_true_eq_false, not_false_eq_true, i10, Classical.not_not, ok_h0 w hq, rf_h0 w hq, ok_h1 w hq, rf_h1 w hq, ok_h2 w hq, ix_h2 w hq, ok_h3 w hq, ix_h3 w hq, ok_h4 w hq, ix_h4 w hq, ar_sa w hq, rf_sa w hq, ar_oa w hq, rf_oa w hq, hw_0, hw_1, hw_2, hu_0, hu_1, hu_2, on_vw, on_f, se_vw, se_f, vw_pv, pv_pv, ost_uI, sst_uI, sit_d, may_d, far_d, stay_d, goe_d, stp_d, hOk_h w hq, hq_hA, ok_se0 w hq hs, ix_se0 w hq hs, ok_se1 w hq hs, ix_se1 w hq hs, ok_se2 w hq hs, ix_se2 w hq hs, eOk_se w hq hs, fo_se w hq hs, h', mX0_fall, fallsP, neg1, if_true]
  · have hn1 : ¬ to = -1 := vi_ne1 ht
    have hc : NN to < 10 := vi_lt ht
    simp only [eX0_fall_0, eX0_fall_1, eX0_fall_4, eX0_fall_5, eX0_fall_6, eX0_fall_7, eX0_fall_10, eX0_fall_11, eX0_fall_12, eX0_fall_15, eX0_fall_16, eX0_fall_19, eX0_fall_20, eX0_fall_21, eX0_fall_22, eX0_fall_25, eX0_fall_26, eX0_fall_29, eX0_fall_30, eX0_fall_31, eX0_fall_32, eX0_fall_35, eX0_fall_36, eX0_fall_37, eX0_fall_40, eX0_fall_43, eX0_fall_44, eX0_fall_47, eX0_fall_48, eX0_fall_49, eX0_fall_50, eX0_fall_53, kl_i, kl_r, kl_n, kl_l, true_and, and_true, true_implies, false_implies, not_true_eq_false, not_false_eq_true, i10, Classical.not_not, ok_h0 w hq, rf_h0 w hq, ok_h1 w hq, rf_h1 w hq, ok_h2 w hq, ix_h2 w hq, ok_h3 w hq, ix_h3 w hq, ok_h4 w hq, ix_h4 w hq, ar_sa w hq, rf_sa w hq, ar_oa w hq, rf_oa w hq, hw_0, hw_1, hw_2, hu_0, hu_1, hu_2, on_vw, on_f, se_vw, se_f, vw_pv, pv_pv, ost_uI, sst_uI, sit_d, may_d, far_d, stay_d, goe_d, stp_d, hOk_h w hq, hq_hA, ok_se0 w hq hs, ix_se0 w hq hs, ok_se1 w hq hs, ix_se1 w hq hs, ok_se2 w hq hs, ix_se2 w hq hs, eOk_se w hq hs, fo_se w hq hs, ok_on0 w hq hc, ix_on0 w hq hc, ok_on1 w hq hc, ix_on1 w hq hc, ok_on2 w hq hc, ix_on2 w hq hc, ok_on3 w hq hc, ix_on3 w hq hc, ok_on4 w hq hc, ix_on4 w hq hc, ok_on5 w hq hc, ix_on5 w hq hc, ok_on6 w hq hc, ix_on6 w hq hc, oOk_on w hq hc, fo_on w hq hc, h', ht, hn1, mX0_fall, se_ost0 hs, se_sst20, falls_eq (vw u (91 * q)) (vi_pos ht) hs]
set_option maxRecDepth 20000 in
theorem KX0_fall_ok (w : WW) : KOk w MX0_fall (KX0_fall w) := KOk_mk flX0_ok ciX0_ok clX0_ok (fun _ _ h => by cases h) (fun _ _ h => by cases h) (List.forall_mem_nil _)
theorem ctX0_fall (w : WW) : CT w yX0_fall MX0_fall (csX0_fall w).2.1 (csX0_fall w).2.2 := by
  refine CT_of (by decide) rfl TX0_fall_ok TX0_fall_v (KX0_fall_ok w) (fun as u h => ?_)
  obtain ⟨a0, a1, a2, rfl, h⟩ := sgRII h
  obtain ⟨h0, hh⟩ := h
  obtain ⟨q0, e0, rfl⟩ := h0
  rw [hq_hA] at hh
  refine ⟨Nat.le_of_ble_eq_true rfl, ?_⟩
  have key := vX0_fall w q0 a1 a2 u e0 hh
  simp only [csX0_fall, hq_hA]
  exact key
theorem prX0_fall (w : WW) : ∀ as u, (csX0_fall w).2.1 as u → ∃ a r, as = .ref a :: r ∧ r.length = 2 ∧ okO w a 0 := by
  intro as u h
  obtain ⟨a0, a1, a2, rfl, h⟩ := sgRII h
  exact ⟨_, _, rfl, rfl, okO_h h⟩
theorem vX0_makeRise (w : WW) : VX0_makeRise w := by
  intro q s u hq hw h
  have hM := h.2.1.M.1
  have hK := h.2.1.K.1
  have hsM : NN s < NN (vw u (91 * q) 1) := vi_lt h.1
  have hs : NN s < 6 := by omega
  have h' : vp_in s 6 := vi_mono h.1 hM
  have es : s = nI (NN s) := vi_eq h'
  have hb := Hv.b h.2 hsM
  by_cases e : se (vw u (91 * q)) (NN s) 2 = -1
  · simp only [eX0_makeRise_0, eX0_makeRise_1, eX0_makeRise_4, eX0_makeRise_5, eX0_makeRise_6, eX0_makeRise_9, eX0_makeRise_10, eX0_makeRise_11, eX0_makeRise_12, eX0_makeRise_15, eX0_makeRise_16, eX0_makeRise_17, eX0_makeRise_18, eX0_makeRise_21, eX0_makeRise_22, eX0_makeRise_23, eX0_makeRise_26, eX0_makeRise_27, eX0_makeRise_28, eX0_makeRise_29, eX0_makeRise_32, eX0_makeRise_33, eX0_makeRise_36, eX0_makeRise_37, eX0_makeRise_38, eX0_makeRise_39, eX0_makeRise_42, eX0_makeRise_43, eX0_makeRise_44, eX0_makeRise_45, eX0_makeRise_48, kl_i, kl_r, kl_n, kl_l, true_and, and_true, true_implies, false_implies, not_true_eq_false, not_false_eq_true, i10, Classical.not_not, ok_h0 w hq, rf_h0 w hq, ok_h1 w hq, rf_h1 w hq, ok_h2 w hq, ix_h2 w hq, ok_h3 w hq, ix_h3 w hq, ok_h4 w hq, ix_h4 w hq, ar_sa w hq, rf_sa w hq, ar_oa w hq, rf_oa w hq, hw_0, hw_1, hw_2, hu_0, hu_1, hu_2, on_vw, on_f, se_vw, se_f, vw_pv, pv_pv, ost_uI, sst_uI, sit_d, may_d, far_d, stay_d, goe_d, stp_d, hOk_h w hq, hq_hA, ok_se0 w hq hs, ix_se0 w hq hs, ok_se1 w hq hs, ix_se1 w hq hs, ok_se2 w hq hs, ix_se2 w hq hs, eOk_se w hq hs, fo_se w hq hs, h', e, mX0_makeRise, if_true]
  · have q1 := hb.resolve_left e
    have hv : vp_in (se (vw u (91 * q)) (NN s) 2) 10 := vi_mono q1.1 hK
    have hc : NN (se (vw u (91 * q)) (NN s) 2) < 10 := vi_lt hv
    have h2 : Hv (vw u (91 * q)) := h.2
    have key := rises_eq h.2 hsM (fun z => e (hb.neg.mp z))
    rw [← es] at key
    have hn : nx (vw u (91 * q)) (se (vw u (91 * q)) (NN s) 0) (-1) (NN (vw u (91 * q) 2)) = -1 ∨ vp_in (nx (vw u (91 * q)) (se (vw u (91 * q)) (NN s) 0) (-1) (NN (vw u (91 * q) 2))) 10 := (nx_to h2 _ _).imp id (fun z => vi_mono z.1 hK)
    simp only [eX0_makeRise_0, eX0_makeRise_1, eX0_makeRise_4, eX0_makeRise_5, eX0_makeRise_6, eX0_makeRise_9, eX0_makeRise_10, eX0_makeRise_11, eX0_makeRise_12, eX0_makeRise_15, eX0_makeRise_16, eX0_makeRise_17, eX0_makeRise_18, eX0_makeRise_21, eX0_makeRise_22, eX0_makeRise_23, eX0_makeRise_26, eX0_makeRise_27, eX0_makeRise_28, eX0_makeRise_29, eX0_makeRise_32, eX0_makeRise_33, eX0_makeRise_36, eX0_makeRise_37, eX0_makeRise_38, eX0_makeRise_39, eX0_makeRise_42, eX0_makeRise_43, eX0_makeRise_44, eX0_makeRise_45, eX0_makeRise_48, kl_i, kl_r, kl_n, kl_l, true_and, and_true, true_implies, false_implies, not_true_eq_false, not_false_eq_true, i10, Classical.not_not, ok_h0 w hq, rf_h0 w hq, ok_h1 w hq, rf_h1 w hq, ok_h2 w hq, ix_h2 w hq, ok_h3 w hq, ix_h3 w hq, ok_h4 w hq, ix_h4 w hq, ar_sa w hq, rf_sa w hq, ar_oa w hq, rf_oa w hq, hw_0, hw_1, hw_2, hu_0, hu_1, hu_2, on_vw, on_f, se_vw, se_f, vw_pv, pv_pv, ost_uI, sst_uI, sit_d, may_d, far_d, stay_d, goe_d, stp_d, hOk_h w hq, hq_hA, ok_se0 w hq hs, ix_se0 w hq hs, ok_se1 w hq hs, ix_se1 w hq hs, ok_se2 w hq hs, ix_se2 w hq hs, eOk_se w hq hs, fo_se w hq hs, h', e, hv, ok_on0 w hq hc, ix_on0 w hq hc, ok_on1 w hq hc, ix_on1 w hq hc, ok_on2 w hq hc, ix_on2 w hq hc, ok_on3 w hq hc, ix_on3 w hq hc, ok_on4 w hq hc, ix_on4 w hq hc, ok_on5 w hq hc, ix_on5 w hq hc, ok_on6 w hq hc, ix_on6 w hq hc, oOk_on w hq hc, fo_on w hq hc, hw, pX0_nextFor, h2, pX0_fall, rX0_nextFor, hn, mX0_fall, mX0_makeRise, if_false, key]
theorem wcX0_73 : ∀ x ∈ wV1 RX0 73 yX0_nextFor MX0_nextFor, x ∈ Gt := by decide +kernel
theorem nmX0_nextFor : nmOk yX0_nextFor 1 = true := by decide +kernel
theorem wcX0_76 : ∀ x ∈ wV1 RX0 76 yX0_fall MX0_fall, x ∈ Gt := by decide +kernel
theorem nmX0_fall : nmOk yX0_fall 2 = true := by decide +kernel
set_option maxRecDepth 20000 in
theorem KX0_makeRise_ok (w : WW) : KOk w MX0_makeRise (KX0_makeRise w) := KOk_mk flX0_ok ciX0_ok clX0_ok (fun _ _ h => by cases h) (fun _ _ h => by cases h) (List.forall_mem_cons.mpr ⟨itV (n := 73) (by decide) (COk_V (n := 1) (ci := 0) (ctX0_nextFor w) wcX0_73 nmX0_nextFor (by decide) (by decide) rfl (prX0_nextFor w)), List.forall_mem_cons.mpr ⟨itV (n := 76) (by decide) (COk_V (n := 2) (ci := 0) (ctX0_fall w) wcX0_76 nmX0_fall (by decide) (by decide) rfl (prX0_fall w)), List.forall_mem_nil _⟩⟩)
theorem ctX0_makeRise (w : WW) : CT w yX0_makeRise MX0_makeRise (csX0_makeRise w).2.1 (csX0_makeRise w).2.2 := by
  refine CT_of (by decide) rfl TX0_makeRise_ok TX0_makeRise_v (KX0_makeRise_ok w) (fun as u h => ?_)
  obtain ⟨a0, a1, rfl, h⟩ := sgRI h
  obtain ⟨h0, hwok, hh⟩ := h
  obtain ⟨q0, e0, rfl⟩ := h0
  rw [hq_hA] at hh
  refine ⟨Nat.le_of_ble_eq_true rfl, ?_⟩
  have key := vX0_makeRise w q0 a1 u e0 hwok hh
  simp only [csX0_makeRise, hq_hA]
  exact key
theorem prX0_makeRise (w : WW) : ∀ as u, (csX0_makeRise w).2.1 as u → ∃ a r, as = .ref a :: r ∧ r.length = 1 ∧ okO w a 0 := by
  intro as u h
  obtain ⟨a0, a1, rfl, h⟩ := sgRI h
  exact ⟨_, _, rfl, rfl, okO_h h⟩
