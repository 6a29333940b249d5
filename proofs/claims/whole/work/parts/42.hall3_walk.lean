/-! ===== the class's halls: pay, seconds, sums, becoming, walked ===== -/
theorem lX0_payAll {w : WW} {q : Nat} (hq : q < 3) {u : MM} (h : Hv (vw u (91 * q))) {K : Nat} (hK : K ≤ 10) (eK : vw u (91 * q) 2 = nI K) {Q : Option Value → MM → Prop} (hQ : Q none (pv u (91 * q) (pa (vw u (91 * q)) K))) :
    ∀ (n i : Nat), i + n = K → GX0_payAll w Q 2 [some (.ref (hA w q)), some (.int (nI i))] [] (pv u (91 * q) (pa (vw u (91 * q)) i)) := by
  intro n
  induction n with
  | zero =>
    intro i hi
    have e : i = K := by omega
    subst e
    have hle : nI i ≤ nI i := nI_le (Nat.le_refl i) (by omega)
    have e2 : pa (vw u (91 * q)) i 2 = nI i := (pa_hd _ (by decide) i).trans eK
    rw [eX0_payAll_2]
    simp only [eX0_payAll_0, eX0_payAll_1, eX0_payAll_3, eX0_payAll_4, eX0_payAll_7, eX0_payAll_10, eX0_payAll_11, eX0_payAll_14, eX0_payAll_15, eX0_payAll_16, eX0_payAll_19, eX0_payAll_22, eX0_payAll_23, eX0_payAll_26, eX0_payAll_27, eX0_payAll_28, eX0_payAll_29, eX0_payAll_32, eX0_payAll_33, eX0_payAll_34, eX0_payAll_37, eX0_payAll_38, eX0_payAll_41, eX0_payAll_42, eX0_payAll_43, eX0_payAll_44, eX0_payAll_47, eX0_payAll_48, eX0_payAll_51, eX0_payAll_52, eX0_payAll_55, eX0_payAll_56, eX0_payAll_57, eX0_payAll_60, eX0_payAll_61, eX0_payAll_64, eX0_payAll_65, eX0_payAll_68, eX0_payAll_71, eX0_payAll_74, kl_i, kl_r, kl_n, kl_l, true_and, and_true, true_implies, false_implies, not_true_eq_false, not_false_eq_true, i10, Classical.not_not, ok_h0 w hq, rf_h0 w hq, ok_h1 w hq, rf_h1 w hq, ok_h2 w hq, ix_h2 w hq, ok_h3 w hq, ix_h3 w hq, ok_h4 w hq, ix_h4 w hq, ar_sa w hq, rf_sa w hq, ar_oa w hq, rf_oa w hq, hw_0, hw_1, hw_2, hu_0, hu_1, hu_2, on_vw, on_f, se_vw, se_f, vw_pv, pv_pv, ost_uI, sst_uI, sit_d, may_d, far_d, stay_d, goe_d, stp_d, hOk_h w hq, hq_hA, e2, hle]
    exact hQ
  | succ n ih =>
    intro i hi
    have hc : i < 10 := by omega
    have hN : NN (nI i) = i := NN_nI (by omega)
    have hv : vp_in (nI i) 10 := vi_nI hc
    have hlt : ¬ nI K ≤ nI i := nI_ge (by omega) (by omega)
    have hH : Hv (pa (vw u (91 * q)) i) := pa_Hv h i
    have e2 : pa (vw u (91 * q)) i 2 = nI K := (pa_hd _ (by decide) i).trans eK
    have hci : Hc (pa (vw u (91 * q)) i) i := hH.c (by rw [e2, NN_nI (by omega)]; omega)
    have go : ∀ S : Nat → Int32, S = pay1 (pa (vw u (91 * q)) i) i → GX0_payAll w Q 2 [some (.ref (hA w q)), some (.int (nI i + 1))] [] (pv u (91 * q) S) := fun S e => by rw [nI_1, e]; exact ih (i + 1) (by omega)
    rw [eX0_payAll_2]
    by_cases e : on (pa (vw u (91 * q)) i) i 5 = -1
    · have nt : ¬ ¬ on (pa (vw u (91 * q)) i) i 5 = -1 := fun z => z e
      simp only [eX0_payAll_0, eX0_payAll_1, eX0_payAll_3, eX0_payAll_4, eX0_payAll_7, eX0_payAll_10, eX0_payAll_11, eX0_payAll_14, eX0_payAll_15, eX0_payAll_16, eX0_payAll_19, eX0_payAll_22, eX0_payAll_23, eX0_payAll_26, eX0_payAll_27, eX0_payAll_28, eX0_payAll_29, eX0_payAll_32, eX0_payAll_33, eX0_payAll_34, eX0_payAll_37, eX0_payAll_38, eX0_payAll_41, eX0_payAll_42, eX0_payAll_43, eX0_payAll_44, eX0_payAll_47, eX0_payAll_48, eX0_payAll_51, eX0_payAll_52, eX0_payAll_55, eX0_payAll_56, eX0_payAll_57, eX0_payAll_60, eX0_payAll_61, eX0_payAll_64, eX0_payAll_65, eX0_payAll_68, eX0_payAll_71, eX0_payAll_74, kl_i, kl_r, kl_n, kl_l, true_and, and_true, true_implies, false_implies, not_true_eq_false, not_false_eq_true, i10, Classical.not_not, ok_h0 w hq, rf_h0 w hq, ok_h1 w hq, rf_h1 w hq, ok_h2 w hq, ix_h2 w hq, ok_h3 w hq, ix_h3 w hq, ok_h4 w hq, ix_h4 w hq, ar_sa w hq, rf_sa w hq, ar_oa w hq, rf_oa w hq, hw_0, hw_1, hw_2, hu_0, hu_1, hu_2, on_vw, on_f, se_vw, se_f, vw_pv, pv_pv, ost_uI, sst_uI, sit_d, may_d, far_d, stay_d, goe_d, stp_d, hOk_h w hq, hq_hA, hN, ok_on0 w hq hc, ix_on0 w hq hc, ok_on1 w hq hc, ix_on1 w hq hc, ok_on2 w hq hc, ix_on2 w hq hc, ok_on3 w hq hc, ix_on3 w hq hc, ok_on4 w hq hc, ix_on4 w hq hc, ok_on5 w hq hc, ix_on5 w hq hc, ok_on6 w hq hc, ix_on6 w hq hc, oOk_on w hq hc, fo_on w hq hc, e2, hlt, hv, pX1_sits, bi_f nt]
      refine go _ ?_
      unfold pay1; rw [if_pos (hci.sit.mpr e)]
    · have q1 := hci.2.2.resolve_left e
      have hM := hH.1.M.1
      have hs : NN (on (pa (vw u (91 * q)) i) i 5) < 6 := by have := vi_lt q1.1; omega
      have hv6 : vp_in (on (pa (vw u (91 * q)) i) i 5) 6 := vi_mono q1.1 hM
      have f4 : ∀ v, on (ost (pa (vw u (91 * q)) i) i 6 v) i 4 = on (pa (vw u (91 * q)) i) i 4 := fun v => on_ost_ne (by decide) (by decide) (by decide)
      have f5 : ∀ v, on (ost (pa (vw u (91 * q)) i) i 6 v) i 5 = on (pa (vw u (91 * q)) i) i 5 := fun v => on_ost_ne (by decide) (by decide) (by decide)
      simp only [eX0_payAll_0, eX0_payAll_1, eX0_payAll_3, eX0_payAll_4, eX0_payAll_7, eX0_payAll_10, eX0_payAll_11, eX0_payAll_14, eX0_payAll_15, eX0_payAll_16, eX0_payAll_19, eX0_payAll_22, eX0_payAll_23, eX0_payAll_26, eX0_payAll_27, eX0_payAll_28, eX0_payAll_29, eX0_payAll_32, eX0_payAll_33, eX0_payAll_34, eX0_payAll_37, eX0_payAll_38, eX0_payAll_41, eX0_payAll_42, eX0_payAll_43, eX0_payAll_44, eX0_payAll_47, eX0_payAll_48, eX0_payAll_51, eX0_payAll_52, eX0_payAll_55, eX0_payAll_56, eX0_payAll_57, eX0_payAll_60, eX0_payAll_61, eX0_payAll_64, eX0_payAll_65, eX0_payAll_68, eX0_payAll_71, eX0_payAll_74, kl_i, kl_r, kl_n, kl_l, true_and, and_true, true_implies, false_implies, not_true_eq_false, not_false_eq_true, i10, Classical.not_not, ok_h0 w hq, rf_h0 w hq, ok_h1 w hq, rf_h1 w hq, ok_h2 w hq, ix_h2 w hq, ok_h3 w hq, ix_h3 w hq, ok_h4 w hq, ix_h4 w hq, ar_sa w hq, rf_sa w hq, ar_oa w hq, rf_oa w hq, hw_0, hw_1, hw_2, hu_0, hu_1, hu_2, on_vw, on_f, se_vw, se_f, vw_pv, pv_pv, ost_uI, sst_uI, sit_d, may_d, far_d, stay_d, goe_d, stp_d, hOk_h w hq, hq_hA, hN, ok_on0 w hq hc, ix_on0 w hq hc, ok_on1 w hq hc, ix_on1 w hq hc, ok_on2 w hq hc, ix_on2 w hq hc, ok_on3 w hq hc, ix_on3 w hq hc, ok_on4 w hq hc, ix_on4 w hq hc, ok_on5 w hq hc, ix_on5 w hq hc, ok_on6 w hq hc, ix_on6 w hq hc, oOk_on w hq hc, fo_on w hq hc, e2, hlt, hv, pX1_sits, bi_t e, f4, f5, hv6, ok_se0 w hq hs, ix_se0 w hq hs, ok_se1 w hq hs, ix_se1 w hq hs, ok_se2 w hq hs, ix_se2 w hq hs, eOk_se w hq hs, fo_se w hq hs, se_ost1 hs]
      refine go _ ?_
      unfold pay1; rw [if_neg (vi_pos q1.1)]
theorem vX0_payAll (w : WW) : VX0_payAll w := by
  intro q u hq h
  obtain ⟨K, hK, eK⟩ := h.1.2.1
  have key := lX0_payAll (w := w) hq h hK eK (Q := fun r u' => r = none ∧ u' = mX0_payAll q u) ⟨rfl, by rw [mX0_payAll, eK, NN_nI (by omega)]⟩ K 0 (by omega)
  simp only [pa, pv_vw] at key
  simp only [eX0_payAll_0, eX0_payAll_1, eX0_payAll_3, eX0_payAll_4, eX0_payAll_7, eX0_payAll_10, eX0_payAll_11, eX0_payAll_14, eX0_payAll_15, eX0_payAll_16, eX0_payAll_19, eX0_payAll_22, eX0_payAll_23, eX0_payAll_26, eX0_payAll_27, eX0_payAll_28, eX0_payAll_29, eX0_payAll_32, eX0_payAll_33, eX0_payAll_34, eX0_payAll_37, eX0_payAll_38, eX0_payAll_41, eX0_payAll_42, eX0_payAll_43, eX0_payAll_44, eX0_payAll_47, eX0_payAll_48, eX0_payAll_51, eX0_payAll_52, eX0_payAll_55, eX0_payAll_56, eX0_payAll_57, eX0_payAll_60, eX0_payAll_61, eX0_payAll_64, eX0_payAll_65, eX0_payAll_68, eX0_payAll_71, eX0_payAll_74, kl_i, kl_r, kl_n, kl_l, true_and, and_true, true_implies, false_implies, not_true_eq_false, not_false_eq_true, i10, Classical.not_not]
  exact key
set_option maxRecDepth 20000 in
theorem KX0_payAll_ok (w : WW) : KOk w MX0_payAll (KX0_payAll w) := KOk_mk flX0_ok ciX0_ok clX0_ok (fun _ _ h => by cases h) (fun _ _ h => by cases h) (List.forall_mem_cons.mpr ⟨itV (n := 89) (by decide) (COk_V (n := 0) (ci := 1) (ctX1_sits w) wcX0_89 nmX1_sits (by decide) (by decide) rfl (prX1_sits w)), List.forall_mem_nil _⟩)
theorem ctX0_payAll (w : WW) : CT w yX0_payAll MX0_payAll (csX0_payAll w).2.1 (csX0_payAll w).2.2 := by
  refine CT_of (by decide) rfl TX0_payAll_ok TX0_payAll_v (KX0_payAll_ok w) (fun as u h => ?_)
  obtain ⟨a0, rfl, h⟩ := sgR h
  obtain ⟨h0, hh⟩ := h
  obtain ⟨q0, e0, rfl⟩ := h0
  rw [hq_hA] at hh
  refine ⟨Nat.le_of_ble_eq_true rfl, ?_⟩
  have key := vX0_payAll w q0 u e0 hh
  simp only [csX0_payAll, hq_hA]
  exact key
theorem prX0_payAll (w : WW) : ∀ as u, (csX0_payAll w).2.1 as u → ∃ a r, as = .ref a :: r ∧ r.length = 0 ∧ okO w a 0 := by
  intro as u h
  obtain ⟨a0, rfl, h⟩ := sgR h
  exact ⟨_, _, rfl, rfl, okO_h h⟩
theorem NN_pos {n : Int32} (h : ¬ n < 0) : NN n < 2 ^ 31 ∧ n = nI (NN n) := by
  obtain ⟨j, hj, rfl⟩ := nI_of h
  rw [NN_nI hj]; exact ⟨hj, rfl⟩
theorem lX0_pass {w : WW} {q : Nat} (hq : q < 3) (hw : wOk w) {u : MM} (h : Hv (vw u (91 * q))) {N : Nat} (hN : N < 2 ^ 31) {Q : Option Value → MM → Prop} (hQ : Q none (pv u (91 * q) (goP N (vw u (91 * q))))) :
    ∀ (n i : Nat), i + n = N → GX0_pass w Q 2 [some (.ref (hA w q)), some (.int (nI N)), some (.int (nI i))] [] (pv u (91 * q) (goP i (vw u (91 * q)))) := by
  intro n
  induction n with
  | zero =>
    intro i hi
    have e : i = N := by omega
    subst e
    have hle : nI i ≤ nI i := nI_le (Nat.le_refl i) (by omega)
    rw [eX0_pass_2]
    simp only [eX0_pass_0, eX0_pass_1, eX0_pass_3, eX0_pass_4, eX0_pass_7, eX0_pass_8, eX0_pass_11, eX0_pass_12, eX0_pass_15, eX0_pass_16, eX0_pass_19, eX0_pass_20, eX0_pass_21, eX0_pass_24, eX0_pass_25, eX0_pass_26, eX0_pass_29, eX0_pass_32, eX0_pass_35, kl_i, kl_r, kl_n, kl_l, true_and, and_true, true_implies, false_implies, not_true_eq_false, not_false_eq_true, i10, Classical.not_not, hle]
    exact hQ
  | succ n ih =>
    intro i hi
    have hlt : ¬ nI N ≤ nI i := nI_ge (by omega) (by omega)
    have go : ∀ S : Nat → Int32, S = secP (goP i (vw u (91 * q))) → GX0_pass w Q 2 [some (.ref (hA w q)), some (.int (nI N)), some (.int (nI i + 1))] [] (pv u (91 * q) S) := fun S e => by rw [nI_1, e]; exact ih (i + 1) (by omega)
    have hH : Hv (goP i (vw u (91 * q))) := goP_Hv h i
    generalize goP i (vw u (91 * q)) = R at hH go
    have a1 : wa R (NN (R 2)) 1 = R 1 := wa_hd R (by decide) _
    have a2 : wa R (NN (R 2)) 2 = R 2 := wa_hd R (by decide) _
    have a0 : wa R (NN (R 2)) 0 = R 0 := wa_hd R (by decide) _
    have hA1 : Hv (wa R (NN (R 2))) := wa_Hv hH _ (Nat.le_refl _)
    have hB : Hv (ss (wa R (NN (R 2))) (NN (R 1))) := ss_Hv hA1 _ (by rw [a1]; exact Nat.le_refl _)
    have b2 : ss (wa R (NN (R 2))) (NN (R 1)) 2 = R 2 := (ss_hd _ (by decide) _).trans a2
    have b0 : ss (wa R (NN (R 2))) (NN (R 1)) 0 = R 0 := (ss_hd _ (by decide) _).trans a0
    have c0 : pa (ss (wa R (NN (R 2))) (NN (R 1))) (NN (R 2)) 0 = R 0 := (pa_hd _ (by decide) _).trans b0
    rw [eX0_pass_2]
    simp only [eX0_pass_0, eX0_pass_1, eX0_pass_3, eX0_pass_4, eX0_pass_7, eX0_pass_8, eX0_pass_11, eX0_pass_12, eX0_pass_15, eX0_pass_16, eX0_pass_19, eX0_pass_20, eX0_pass_21, eX0_pass_24, eX0_pass_25, eX0_pass_26, eX0_pass_29, eX0_pass_32, eX0_pass_35, kl_i, kl_r, kl_n, kl_l, true_and, and_true, true_implies, false_implies, not_true_eq_false, not_false_eq_true, i10, Classical.not_not, ok_h0 w hq, rf_h0 w hq, ok_h1 w hq, rf_h1 w hq, ok_h2 w hq, ix_h2 w hq, ok_h3 w hq, ix_h3 w hq, ok_h4 w hq, ix_h4 w hq, ar_sa w hq, rf_sa w hq, ar_oa w hq, rf_oa w hq, hw_0, hw_1, hw_2, hu_0, hu_1, hu_2, on_vw, on_f, se_vw, se_f, vw_pv, pv_pv, ost_uI, sst_uI, sit_d, may_d, far_d, stay_d, goe_d, stp_d, hOk_h w hq, hq_hA, hlt, hw, pX0_walkAll, hH, mX0_walkAll, pX0_changeSeats, hA1, mX0_changeSeats, a1, pX0_payAll, hB, mX0_payAll, b2, c0]
    exact go _ rfl
theorem vX0_pass (w : WW) : VX0_pass w := by
  intro q n u hq hw h
  by_cases c : n < 0
  · have c0 : n ≤ 0 := Int32.le_of_lt c
    simp only [eX0_pass_0, eX0_pass_1, eX0_pass_3, eX0_pass_4, eX0_pass_7, eX0_pass_8, eX0_pass_11, eX0_pass_12, eX0_pass_15, eX0_pass_16, eX0_pass_19, eX0_pass_20, eX0_pass_21, eX0_pass_24, eX0_pass_25, eX0_pass_26, eX0_pass_29, eX0_pass_32, eX0_pass_35, kl_i, kl_r, kl_n, kl_l, true_and, and_true, true_implies, false_implies, not_true_eq_false, not_false_eq_true, i10, Classical.not_not]
    rw [eX0_pass_2]
    simp only [eX0_pass_0, eX0_pass_1, eX0_pass_3, eX0_pass_4, eX0_pass_7, eX0_pass_8, eX0_pass_11, eX0_pass_12, eX0_pass_15, eX0_pass_16, eX0_pass_19, eX0_pass_20, eX0_pass_21, eX0_pass_24, eX0_pass_25, eX0_pass_26, eX0_pass_29, eX0_pass_32, eX0_pass_35, kl_i, kl_r, kl_n, kl_l, true_and, and_true, true_implies, false_implies, not_true_eq_false, not_false_eq_true, i10, Classical.not_not, c0, mX0_pass, NN_neg c, goP, pv_vw]
  · obtain ⟨h1, h2⟩ := NN_pos c
    have key := lX0_pass (w := w) hq hw h h1 (Q := fun r u' => r = none ∧ u' = mX0_pass q n u) ⟨rfl, rfl⟩ (NN n) 0 (by omega)
    rw [← h2] at key
    simp only [goP, pv_vw] at key
    simp only [eX0_pass_0, eX0_pass_1, eX0_pass_3, eX0_pass_4, eX0_pass_7, eX0_pass_8, eX0_pass_11, eX0_pass_12, eX0_pass_15, eX0_pass_16, eX0_pass_19, eX0_pass_20, eX0_pass_21, eX0_pass_24, eX0_pass_25, eX0_pass_26, eX0_pass_29, eX0_pass_32, eX0_pass_35, kl_i, kl_r, kl_n, kl_l, true_and, and_true, true_implies, false_implies, not_true_eq_false, not_false_eq_true, i10, Classical.not_not]
    exact key
theorem wcX0_80 : ∀ x ∈ wV1 RX0 80 yX0_walkAll MX0_walkAll, x ∈ Gt := by decide +kernel
theorem nmX0_walkAll : nmOk yX0_walkAll 0 = true := by decide +kernel
theorem wcX0_83 : ∀ x ∈ wV1 RX0 83 yX0_changeSeats MX0_changeSeats, x ∈ Gt := by decide +kernel
theorem nmX0_changeSeats : nmOk yX0_changeSeats 0 = true := by decide +kernel
theorem wcX0_86 : ∀ x ∈ wV1 RX0 86 yX0_payAll MX0_payAll, x ∈ Gt := by decide +kernel
theorem nmX0_payAll : nmOk yX0_payAll 0 = true := by decide +kernel
set_option maxRecDepth 20000 in
theorem KX0_pass_ok (w : WW) : KOk w MX0_pass (KX0_pass w) := KOk_mk flX0_ok ciX0_ok clX0_ok (fun _ _ h => by cases h) (fun _ _ h => by cases h) (List.forall_mem_cons.mpr ⟨itV (n := 80) (by decide) (COk_V (n := 0) (ci := 0) (ctX0_walkAll w) wcX0_80 nmX0_walkAll (by decide) (by decide) rfl (prX0_walkAll w)), List.forall_mem_cons.mpr ⟨itV (n := 83) (by decide) (COk_V (n := 0) (ci := 0) (ctX0_changeSeats w) wcX0_83 nmX0_changeSeats (by decide) (by decide) rfl (prX0_changeSeats w)), List.forall_mem_cons.mpr ⟨itV (n := 86) (by decide) (COk_V (n := 0) (ci := 0) (ctX0_payAll w) wcX0_86 nmX0_payAll (by decide) (by decide) rfl (prX0_payAll w)), List.forall_mem_nil _⟩⟩⟩)
theorem ctX0_pass (w : WW) : CT w yX0_pass MX0_pass (csX0_pass w).2.1 (csX0_pass w).2.2 := by
  refine CT_of (by decide) rfl TX0_pass_ok TX0_pass_v (KX0_pass_ok w) (fun as u h => ?_)
  obtain ⟨a0, a1, rfl, h⟩ := sgRI h
  obtain ⟨h0, hwok, hh⟩ := h
  obtain ⟨q0, e0, rfl⟩ := h0
  rw [hq_hA] at hh
  refine ⟨Nat.le_of_ble_eq_true rfl, ?_⟩
  have key := vX0_pass w q0 a1 u e0 hwok hh
  simp only [csX0_pass, hq_hA]
  exact key
theorem prX0_pass (w : WW) : ∀ as u, (csX0_pass w).2.1 as u → ∃ a r, as = .ref a :: r ∧ r.length = 1 ∧ okO w a 0 := by
  intro as u h
  obtain ⟨a0, a1, rfl, h⟩ := sgRI h
  exact ⟨_, _, rfl, rfl, okO_h h⟩
theorem lX0_standersOn {w : WW} {q : Nat} (hq : q < 3) {p : Int32} {u : MM} (h : Hv (vw u (91 * q))) {K : Nat} (hK : K ≤ 10) (eK : vw u (91 * q) 2 = nI K) {Q : Option Value → MM → Prop} (hQ : Q (some (.int (onSet (vw u (91 * q)) p K))) u) :
    ∀ (n i : Nat), i + n = K → GX0_standersOn w Q 4 [some (.ref (hA w q)), some (.int p), some (.int (onSet (vw u (91 * q)) p i)), some (.int (nI i))] [] u := by
  intro n
  induction n with
  | zero =>
    intro i hi
    have e : i = K := by omega
    subst e
    have hle : nI i ≤ nI i := nI_le (Nat.le_refl i) (by omega)
    rw [eX0_standersOn_4]
    simp only [eX0_standersOn_0, eX0_standersOn_1, eX0_standersOn_2, eX0_standersOn_3, eX0_standersOn_5, eX0_standersOn_6, eX0_standersOn_9, eX0_standersOn_12, eX0_standersOn_13, eX0_standersOn_16, eX0_standersOn_17, eX0_standersOn_18, eX0_standersOn_21, eX0_standersOn_24, eX0_standersOn_25, eX0_standersOn_28, eX0_standersOn_29, eX0_standersOn_30, eX0_standersOn_33, eX0_standersOn_34, eX0_standersOn_37, eX0_standersOn_38, eX0_standersOn_39, eX0_standersOn_40, eX0_standersOn_41, eX0_standersOn_42, eX0_standersOn_43, eX0_standersOn_46, eX0_standersOn_49, eX0_standersOn_50, kl_i, kl_r, kl_n, kl_l, true_and, and_true, true_implies, false_implies, not_true_eq_false, not_false_eq_true, i10, Classical.not_not, ok_h0 w hq, rf_h0 w hq, ok_h1 w hq, rf_h1 w hq, ok_h2 w hq, ix_h2 w hq, ok_h3 w hq, ix_h3 w hq, ok_h4 w hq, ix_h4 w hq, ar_sa w hq, rf_sa w hq, ar_oa w hq, rf_oa w hq, hw_0, hw_1, hw_2, hu_0, hu_1, hu_2, on_vw, on_f, se_vw, se_f, vw_pv, pv_pv, ost_uI, sst_uI, sit_d, may_d, far_d, stay_d, goe_d, stp_d, hOk_h w hq, hq_hA, eK, hle]
    exact hQ
  | succ n ih =>
    intro i hi
    have hc : i < 10 := by omega
    have hN : NN (nI i) = i := NN_nI (by omega)
    have hv : vp_in (nI i) 10 := vi_nI hc
    have hlt : ¬ nI K ≤ nI i := nI_ge (by omega) (by omega)
    have hci : Hc (vw u (91 * q)) i := h.c (by rw [eK, NN_nI (by omega)]; omega)
    have go : ∀ x : Int32, x = onSet (vw u (91 * q)) p (i + 1) → GX0_standersOn w Q 4 [some (.ref (hA w q)), some (.int p), some (.int x), some (.int (nI i + 1))] [] u := fun x e => by rw [nI_1, e]; exact ih (i + 1) (by omega)
    rw [eX0_standersOn_4]
    simp only [eX0_standersOn_0, eX0_standersOn_1, eX0_standersOn_2, eX0_standersOn_3, eX0_standersOn_5, eX0_standersOn_6, eX0_standersOn_9, eX0_standersOn_12, eX0_standersOn_13, eX0_standersOn_16, eX0_standersOn_17, eX0_standersOn_18, eX0_standersOn_21, eX0_standersOn_24, eX0_standersOn_25, eX0_standersOn_28, eX0_standersOn_29, eX0_standersOn_30, eX0_standersOn_33, eX0_standersOn_34, eX0_standersOn_37, eX0_standersOn_38, eX0_standersOn_39, eX0_standersOn_40, eX0_standersOn_41, eX0_standersOn_42, eX0_standersOn_43, eX0_standersOn_46, eX0_standersOn_49, eX0_standersOn_50, kl_i, kl_r, kl_n, kl_l, true_and, and_true, true_implies, false_implies, not_true_eq_false, not_false_eq_true, i10, Classical.not_not, ok_h0 w hq, rf_h0 w hq, ok_h1 w hq, rf_h1 w hq, ok_h2 w hq, ix_h2 w hq, ok_h3 w hq, ix_h3 w hq, ok_h4 w hq, ix_h4 w hq, ar_sa w hq, rf_sa w hq, ar_oa w hq, rf_oa w hq, hw_0, hw_1, hw_2, hu_0, hu_1, hu_2, on_vw, on_f, se_vw, se_f, vw_pv, pv_pv, ost_uI, sst_uI, sit_d, may_d, far_d, stay_d, goe_d, stp_d, hOk_h w hq, hq_hA, hN, ok_on0 w hq hc, ix_on0 w hq hc, ok_on1 w hq hc, ix_on1 w hq hc, ok_on2 w hq hc, ix_on2 w hq hc, ok_on3 w hq hc, ix_on3 w hq hc, ok_on4 w hq hc, ix_on4 w hq hc, ok_on5 w hq hc, ix_on5 w hq hc, ok_on6 w hq hc, ix_on6 w hq hc, oOk_on w hq hc, fo_on w hq hc, eK, hlt, hv, pX1_sits, bi_0]
    refine ⟨fun c => go _ ?_, fun c => ⟨fun d => go _ ?_, fun d => go _ ?_⟩⟩
    · simp only [onSet]; rw [if_neg (fun z => c (hci.sit.mp z.1)), Int32.or_zero]
    · simp only [onSet]; rw [if_neg (fun z => d z.2), Int32.or_zero]
    · simp only [onSet]; rw [if_pos ⟨hci.sit.mpr c, d⟩]
theorem vX0_standersOn (w : WW) : VX0_standersOn w := by
  intro q p u hq h
  obtain ⟨K, hK, eK⟩ := h.1.2.1
  simp only [eX0_standersOn_0, eX0_standersOn_1, eX0_standersOn_2, eX0_standersOn_3, eX0_standersOn_5, eX0_standersOn_6, eX0_standersOn_9, eX0_standersOn_12, eX0_standersOn_13, eX0_standersOn_16, eX0_standersOn_17, eX0_standersOn_18, eX0_standersOn_21, eX0_standersOn_24, eX0_standersOn_25, eX0_standersOn_28, eX0_standersOn_29, eX0_standersOn_30, eX0_standersOn_33, eX0_standersOn_34, eX0_standersOn_37, eX0_standersOn_38, eX0_standersOn_39, eX0_standersOn_40, eX0_standersOn_41, eX0_standersOn_42, eX0_standersOn_43, eX0_standersOn_46, eX0_standersOn_49, eX0_standersOn_50, kl_i, kl_r, kl_n, kl_l, true_and, and_true, true_implies, false_implies, not_true_eq_false, not_false_eq_true, i10, Classical.not_not]
  exact lX0_standersOn hq h hK eK ⟨by rw [rX0_standersOn, eK, NN_nI (by omega)], rfl⟩ K 0 (by omega)
set_option maxRecDepth 20000 in
theorem KX0_standersOn_ok (w : WW) : KOk w MX0_standersOn (KX0_standersOn w) := KOk_mk flX0_ok ciX0_ok clX0_ok (fun _ _ h => by cases h) (fun _ _ h => by cases h) (List.forall_mem_cons.mpr ⟨itV (n := 89) (by decide) (COk_V (n := 0) (ci := 1) (ctX1_sits w) wcX0_89 nmX1_sits (by decide) (by decide) rfl (prX1_sits w)), List.forall_mem_nil _⟩)
theorem ctX0_standersOn (w : WW) : CT w yX0_standersOn MX0_standersOn (csX0_standersOn w).2.1 (csX0_standersOn w).2.2 := by
  refine CT_of (by decide) rfl TX0_standersOn_ok TX0_standersOn_v (KX0_standersOn_ok w) (fun as u h => ?_)
  obtain ⟨a0, a1, rfl, h⟩ := sgRI h
  obtain ⟨h0, hh⟩ := h
  obtain ⟨q0, e0, rfl⟩ := h0
  rw [hq_hA] at hh
  refine ⟨Nat.le_of_ble_eq_true rfl, ?_⟩
  have key := vX0_standersOn w q0 a1 u e0 hh
  simp only [csX0_standersOn, hq_hA]
  exact key
theorem prX0_standersOn (w : WW) : ∀ as u, (csX0_standersOn w).2.1 as u → ∃ a r, as = .ref a :: r ∧ r.length = 1 ∧ okO w a 0 := by
  intro as u h
  obtain ⟨a0, a1, rfl, h⟩ := sgRI h
  exact ⟨_, _, rfl, rfl, okO_h h⟩
theorem lX0_sitters {w : WW} {q : Nat} (hq : q < 3) {u : MM} (h : Hv (vw u (91 * q))) {K : Nat} (hK : K ≤ 10) (eK : vw u (91 * q) 2 = nI K) {Q : Option Value → MM → Prop} (hQ : Q (some (.int (sitSet (vw u (91 * q)) K))) u) :
    ∀ (n i : Nat), i + n = K → GX0_sitters w Q 4 [some (.ref (hA w q)), some (.int (sitSet (vw u (91 * q)) i)), some (.int (nI i))] [] u := by
  intro n
  induction n with
  | zero =>
    intro i hi
    have e : i = K := by omega
    subst e
    have hle : nI i ≤ nI i := nI_le (Nat.le_refl i) (by omega)
    rw [eX0_sitters_4]
    simp only [eX0_sitters_0, eX0_sitters_1, eX0_sitters_2, eX0_sitters_3, eX0_sitters_5, eX0_sitters_6, eX0_sitters_9, eX0_sitters_12, eX0_sitters_13, eX0_sitters_16, eX0_sitters_17, eX0_sitters_18, eX0_sitters_21, eX0_sitters_24, eX0_sitters_25, eX0_sitters_26, eX0_sitters_27, eX0_sitters_28, eX0_sitters_29, eX0_sitters_30, eX0_sitters_33, eX0_sitters_36, eX0_sitters_37, kl_i, kl_r, kl_n, kl_l, true_and, and_true, true_implies, false_implies, not_true_eq_false, not_false_eq_true, i10, Classical.not_not, ok_h0 w hq, rf_h0 w hq, ok_h1 w hq, rf_h1 w hq, ok_h2 w hq, ix_h2 w hq, ok_h3 w hq, ix_h3 w hq, ok_h4 w hq, ix_h4 w hq, ar_sa w hq, rf_sa w hq, ar_oa w hq, rf_oa w hq, hw_0, hw_1, hw_2, hu_0, hu_1, hu_2, on_vw, on_f, se_vw, se_f, vw_pv, pv_pv, ost_uI, sst_uI, sit_d, may_d, far_d, stay_d, goe_d, stp_d, hOk_h w hq, hq_hA, eK, hle]
    exact hQ
  | succ n ih =>
    intro i hi
    have hc : i < 10 := by omega
    have hN : NN (nI i) = i := NN_nI (by omega)
    have hv : vp_in (nI i) 10 := vi_nI hc
    have hlt : ¬ nI K ≤ nI i := nI_ge (by omega) (by omega)
    have hci : Hc (vw u (91 * q)) i := h.c (by rw [eK, NN_nI (by omega)]; omega)
    have go : ∀ x : Int32, x = sitSet (vw u (91 * q)) (i + 1) → GX0_sitters w Q 4 [some (.ref (hA w q)), some (.int x), some (.int (nI i + 1))] [] u := fun x e => by rw [nI_1, e]; exact ih (i + 1) (by omega)
    rw [eX0_sitters_4]
    simp only [eX0_sitters_0, eX0_sitters_1, eX0_sitters_2, eX0_sitters_3, eX0_sitters_5, eX0_sitters_6, eX0_sitters_9, eX0_sitters_12, eX0_sitters_13, eX0_sitters_16, eX0_sitters_17, eX0_sitters_18, eX0_sitters_21, eX0_sitters_24, eX0_sitters_25, eX0_sitters_26, eX0_sitters_27, eX0_sitters_28, eX0_sitters_29, eX0_sitters_30, eX0_sitters_33, eX0_sitters_36, eX0_sitters_37, kl_i, kl_r, kl_n, kl_l, true_and, and_true, true_implies, false_implies, not_true_eq_false, not_false_eq_true, i10, Classical.not_not, ok_h0 w hq, rf_h0 w hq, ok_h1 w hq, rf_h1 w hq, ok_h2 w hq, ix_h2 w hq, ok_h3 w hq, ix_h3 w hq, ok_h4 w hq, ix_h4 w hq, ar_sa w hq, rf_sa w hq, ar_oa w hq, rf_oa w hq, hw_0, hw_1, hw_2, hu_0, hu_1, hu_2, on_vw, on_f, se_vw, se_f, vw_pv, pv_pv, ost_uI, sst_uI, sit_d, may_d, far_d, stay_d, goe_d, stp_d, hOk_h w hq, hq_hA, hN, ok_on0 w hq hc, ix_on0 w hq hc, ok_on1 w hq hc, ix_on1 w hq hc, ok_on2 w hq hc, ix_on2 w hq hc, ok_on3 w hq hc, ix_on3 w hq hc, ok_on4 w hq hc, ix_on4 w hq hc, ok_on5 w hq hc, ix_on5 w hq hc, ok_on6 w hq hc, ix_on6 w hq hc, oOk_on w hq hc, fo_on w hq hc, eK, hlt, hv, pX1_sits, bi_0]
    refine ⟨fun c => go _ ?_, fun c => go _ ?_⟩
    · simp only [sitSet]; rw [if_pos (hci.sit.mpr c), Int32.or_zero]
    · simp only [sitSet]; rw [if_neg (fun z => c (hci.sit.mp z))]
theorem vX0_sitters (w : WW) : VX0_sitters w := by
  intro q u hq h
  obtain ⟨K, hK, eK⟩ := h.1.2.1
  simp only [eX0_sitters_0, eX0_sitters_1, eX0_sitters_2, eX0_sitters_3, eX0_sitters_5, eX0_sitters_6, eX0_sitters_9, eX0_sitters_12, eX0_sitters_13, eX0_sitters_16, eX0_sitters_17, eX0_sitters_18, eX0_sitters_21, eX0_sitters_24, eX0_sitters_25, eX0_sitters_26, eX0_sitters_27, eX0_sitters_28, eX0_sitters_29, eX0_sitters_30, eX0_sitters_33, eX0_sitters_36, eX0_sitters_37, kl_i, kl_r, kl_n, kl_l, true_and, and_true, true_implies, false_implies, not_true_eq_false, not_false_eq_true, i10, Classical.not_not]
  exact lX0_sitters hq h hK eK ⟨by rw [rX0_sitters, eK, NN_nI (by omega)], rfl⟩ K 0 (by omega)
set_option maxRecDepth 20000 in
theorem KX0_sitters_ok (w : WW) : KOk w MX0_sitters (KX0_sitters w) := KOk_mk flX0_ok ciX0_ok clX0_ok (fun _ _ h => by cases h) (fun _ _ h => by cases h) (List.forall_mem_cons.mpr ⟨itV (n := 89) (by decide) (COk_V (n := 0) (ci := 1) (ctX1_sits w) wcX0_89 nmX1_sits (by decide) (by decide) rfl (prX1_sits w)), List.forall_mem_nil _⟩)
theorem ctX0_sitters (w : WW) : CT w yX0_sitters MX0_sitters (csX0_sitters w).2.1 (csX0_sitters w).2.2 := by
  refine CT_of (by decide) rfl TX0_sitters_ok TX0_sitters_v (KX0_sitters_ok w) (fun as u h => ?_)
  obtain ⟨a0, rfl, h⟩ := sgR h
  obtain ⟨h0, hh⟩ := h
  obtain ⟨q0, e0, rfl⟩ := h0
  rw [hq_hA] at hh
  refine ⟨Nat.le_of_ble_eq_true rfl, ?_⟩
  have key := vX0_sitters w q0 u e0 hh
  simp only [csX0_sitters, hq_hA]
  exact key
theorem prX0_sitters (w : WW) : ∀ as u, (csX0_sitters w).2.1 as u → ∃ a r, as = .ref a :: r ∧ r.length = 0 ∧ okO w a 0 := by
  intro as u h
  obtain ⟨a0, rfl, h⟩ := sgR h
  exact ⟨_, _, rfl, rfl, okO_h h⟩
theorem lX0_emptySeats {w : WW} {q : Nat} (hq : q < 3) {u : MM} (h : Hv (vw u (91 * q))) {M : Nat} (hM : M ≤ 6) (eM : vw u (91 * q) 1 = nI M) {Q : Option Value → MM → Prop} (hQ : Q (some (.int (emptyN (vw u (91 * q)) M))) u) :
    ∀ (n i : Nat), i + n = M → GX0_emptySeats w Q 4 [some (.ref (hA w q)), some (.int (emptyN (vw u (91 * q)) i)), some (.int (nI i))] [] u := by
  intro n
  induction n with
  | zero =>
    intro i hi
    have e : i = M := by omega
    subst e
    have hle : nI i ≤ nI i := nI_le (Nat.le_refl i) (by omega)
    rw [eX0_emptySeats_4]
    simp only [eX0_emptySeats_0, eX0_emptySeats_1, eX0_emptySeats_2, eX0_emptySeats_3, eX0_emptySeats_5, eX0_emptySeats_6, eX0_emptySeats_9, eX0_emptySeats_12, eX0_emptySeats_13, eX0_emptySeats_14, eX0_emptySeats_17, eX0_emptySeats_20, eX0_emptySeats_23, eX0_emptySeats_26, eX0_emptySeats_29, eX0_emptySeats_30, kl_i, kl_r, kl_n, kl_l, true_and, and_true, true_implies, false_implies, not_true_eq_false, not_false_eq_true, i10, Classical.not_not, ok_h0 w hq, rf_h0 w hq, ok_h1 w hq, rf_h1 w hq, ok_h2 w hq, ix_h2 w hq, ok_h3 w hq, ix_h3 w hq, ok_h4 w hq, ix_h4 w hq, ar_sa w hq, rf_sa w hq, ar_oa w hq, rf_oa w hq, hw_0, hw_1, hw_2, hu_0, hu_1, hu_2, on_vw, on_f, se_vw, se_f, vw_pv, pv_pv, ost_uI, sst_uI, sit_d, may_d, far_d, stay_d, goe_d, stp_d, hOk_h w hq, hq_hA, eM, hle]
    exact hQ
  | succ n ih =>
    intro i hi
    have hs : i < 6 := by omega
    have hN : NN (nI i) = i := NN_nI (by omega)
    have hv : vp_in (nI i) 6 := vi_nI hs
    have hlt : ¬ nI M ≤ nI i := nI_ge (by omega) (by omega)
    have hbi : Hb (vw u (91 * q)) i := h.b (by rw [eM, NN_nI (by omega)]; omega)
    have go : ∀ x : Int32, x = emptyN (vw u (91 * q)) (i + 1) → GX0_emptySeats w Q 4 [some (.ref (hA w q)), some (.int x), some (.int (nI i + 1))] [] u := fun x e => by rw [nI_1, e]; exact ih (i + 1) (by omega)
    rw [eX0_emptySeats_4]
    simp only [eX0_emptySeats_0, eX0_emptySeats_1, eX0_emptySeats_2, eX0_emptySeats_3, eX0_emptySeats_5, eX0_emptySeats_6, eX0_emptySeats_9, eX0_emptySeats_12, eX0_emptySeats_13, eX0_emptySeats_14, eX0_emptySeats_17, eX0_emptySeats_20, eX0_emptySeats_23, eX0_emptySeats_26, eX0_emptySeats_29, eX0_emptySeats_30, kl_i, kl_r, kl_n, kl_l, true_and, and_true, true_implies, false_implies, not_true_eq_false, not_false_eq_true, i10, Classical.not_not, ok_h0 w hq, rf_h0 w hq, ok_h1 w hq, rf_h1 w hq, ok_h2 w hq, ix_h2 w hq, ok_h3 w hq, ix_h3 w hq, ok_h4 w hq, ix_h4 w hq, ar_sa w hq, rf_sa w hq, ar_oa w hq, rf_oa w hq, hw_0, hw_1, hw_2, hu_0, hu_1, hu_2, on_vw, on_f, se_vw, se_f, vw_pv, pv_pv, ost_uI, sst_uI, sit_d, may_d, far_d, stay_d, goe_d, stp_d, hOk_h w hq, hq_hA, hN, eM, hlt, hv, pX0_isHeld, rX0_isHeld, bi_0]
    refine ⟨fun c => go _ ?_, fun c => go _ ?_⟩
    · simp only [emptyN]; rw [if_neg (fun z => c (hbi.neg.mp z)), Int32.add_zero]
    · simp only [emptyN]; rw [if_pos (hbi.neg.mpr c)]
theorem vX0_emptySeats (w : WW) : VX0_emptySeats w := by
  intro q u hq h
  obtain ⟨M, hM, eM⟩ := h.1.1
  simp only [eX0_emptySeats_0, eX0_emptySeats_1, eX0_emptySeats_2, eX0_emptySeats_3, eX0_emptySeats_5, eX0_emptySeats_6, eX0_emptySeats_9, eX0_emptySeats_12, eX0_emptySeats_13, eX0_emptySeats_14, eX0_emptySeats_17, eX0_emptySeats_20, eX0_emptySeats_23, eX0_emptySeats_26, eX0_emptySeats_29, eX0_emptySeats_30, kl_i, kl_r, kl_n, kl_l, true_and, and_true, true_implies, false_implies, not_true_eq_false, not_false_eq_true, i10, Classical.not_not]
  exact lX0_emptySeats hq h hM eM ⟨by rw [rX0_emptySeats, eM, NN_nI (by omega)], rfl⟩ M 0 (by omega)
theorem wcX0_123 : ∀ x ∈ wV1 RX0 123 yX0_isHeld MX0_isHeld, x ∈ Gt := by decide +kernel
theorem nmX0_isHeld : nmOk yX0_isHeld 1 = true := by decide +kernel
set_option maxRecDepth 20000 in
theorem KX0_emptySeats_ok (w : WW) : KOk w MX0_emptySeats (KX0_emptySeats w) := KOk_mk flX0_ok ciX0_ok clX0_ok (fun _ _ h => by cases h) (fun _ _ h => by cases h) (List.forall_mem_cons.mpr ⟨itV (n := 123) (by decide) (COk_V (n := 1) (ci := 0) (ctX0_isHeld w) wcX0_123 nmX0_isHeld (by decide) (by decide) rfl (prX0_isHeld w)), List.forall_mem_nil _⟩)
theorem ctX0_emptySeats (w : WW) : CT w yX0_emptySeats MX0_emptySeats (csX0_emptySeats w).2.1 (csX0_emptySeats w).2.2 := by
  refine CT_of (by decide) rfl TX0_emptySeats_ok TX0_emptySeats_v (KX0_emptySeats_ok w) (fun as u h => ?_)
  obtain ⟨a0, rfl, h⟩ := sgR h
  obtain ⟨h0, hh⟩ := h
  obtain ⟨q0, e0, rfl⟩ := h0
  rw [hq_hA] at hh
  refine ⟨Nat.le_of_ble_eq_true rfl, ?_⟩
  have key := vX0_emptySeats w q0 u e0 hh
  simp only [csX0_emptySeats, hq_hA]
  exact key
theorem prX0_emptySeats (w : WW) : ∀ as u, (csX0_emptySeats w).2.1 as u → ∃ a r, as = .ref a :: r ∧ r.length = 0 ∧ okO w a 0 := by
  intro as u h
  obtain ⟨a0, rfl, h⟩ := sgR h
  exact ⟨_, _, rfl, rfl, okO_h h⟩
theorem lX0_allCoins {w : WW} {q : Nat} (hq : q < 3) {u : MM} {K : Nat} (hK : K ≤ 10) (eK : vw u (91 * q) 2 = nI K) {Q : Option Value → MM → Prop} (hQ : Q (some (.int (coinN (vw u (91 * q)) K))) u) :
    ∀ (n i : Nat), i + n = K → GX0_allCoins w Q 4 [some (.ref (hA w q)), some (.int (coinN (vw u (91 * q)) i)), some (.int (nI i))] [] u := by
  intro n
  induction n with
  | zero =>
    intro i hi
    have e : i = K := by omega
    subst e
    have hle : nI i ≤ nI i := nI_le (Nat.le_refl i) (by omega)
    rw [eX0_allCoins_4]
    simp only [eX0_allCoins_0, eX0_allCoins_1, eX0_allCoins_2, eX0_allCoins_3, eX0_allCoins_5, eX0_allCoins_6, eX0_allCoins_9, eX0_allCoins_12, eX0_allCoins_13, eX0_allCoins_14, eX0_allCoins_17, eX0_allCoins_18, eX0_allCoins_19, eX0_allCoins_22, eX0_allCoins_23, eX0_allCoins_24, eX0_allCoins_27, eX0_allCoins_30, eX0_allCoins_31, kl_i, kl_r, kl_n, kl_l, true_and, and_true, true_implies, false_implies, not_true_eq_false, not_false_eq_true, i10, Classical.not_not, ok_h0 w hq, rf_h0 w hq, ok_h1 w hq, rf_h1 w hq, ok_h2 w hq, ix_h2 w hq, ok_h3 w hq, ix_h3 w hq, ok_h4 w hq, ix_h4 w hq, ar_sa w hq, rf_sa w hq, ar_oa w hq, rf_oa w hq, hw_0, hw_1, hw_2, hu_0, hu_1, hu_2, on_vw, on_f, se_vw, se_f, vw_pv, pv_pv, ost_uI, sst_uI, sit_d, may_d, far_d, stay_d, goe_d, stp_d, hOk_h w hq, hq_hA, eK, hle]
    exact hQ
  | succ n ih =>
    intro i hi
    have hc : i < 10 := by omega
    have hN : NN (nI i) = i := NN_nI (by omega)
    have hv : vp_in (nI i) 10 := vi_nI hc
    have hlt : ¬ nI K ≤ nI i := nI_ge (by omega) (by omega)
    rw [eX0_allCoins_4]
    simp only [eX0_allCoins_0, eX0_allCoins_1, eX0_allCoins_2, eX0_allCoins_3, eX0_allCoins_5, eX0_allCoins_6, eX0_allCoins_9, eX0_allCoins_12, eX0_allCoins_13, eX0_allCoins_14, eX0_allCoins_17, eX0_allCoins_18, eX0_allCoins_19, eX0_allCoins_22, eX0_allCoins_23, eX0_allCoins_24, eX0_allCoins_27, eX0_allCoins_30, eX0_allCoins_31, kl_i, kl_r, kl_n, kl_l, true_and, and_true, true_implies, false_implies, not_true_eq_false, not_false_eq_true, i10, Classical.not_not, ok_h0 w hq, rf_h0 w hq, ok_h1 w hq, rf_h1 w hq, ok_h2 w hq, ix_h2 w hq, ok_h3 w hq, ix_h3 w hq, ok_h4 w hq, ix_h4 w hq, ar_sa w hq, rf_sa w hq, ar_oa w hq, rf_oa w hq, hw_0, hw_1, hw_2, hu_0, hu_1, hu_2, on_vw, on_f, se_vw, se_f, vw_pv, pv_pv, ost_uI, sst_uI, sit_d, may_d, far_d, stay_d, goe_d, stp_d, hOk_h w hq, hq_hA, hN, ok_on0 w hq hc, ix_on0 w hq hc, ok_on1 w hq hc, ix_on1 w hq hc, ok_on2 w hq hc, ix_on2 w hq hc, ok_on3 w hq hc, ix_on3 w hq hc, ok_on4 w hq hc, ix_on4 w hq hc, ok_on5 w hq hc, ix_on5 w hq hc, ok_on6 w hq hc, ix_on6 w hq hc, oOk_on w hq hc, fo_on w hq hc, eK, hlt, hv]
    rw [nI_1]; exact ih (i + 1) (by omega)
theorem vX0_allCoins (w : WW) : VX0_allCoins w := by
  intro q u hq h
  obtain ⟨K, hK, eK⟩ := h
  simp only [eX0_allCoins_0, eX0_allCoins_1, eX0_allCoins_2, eX0_allCoins_3, eX0_allCoins_5, eX0_allCoins_6, eX0_allCoins_9, eX0_allCoins_12, eX0_allCoins_13, eX0_allCoins_14, eX0_allCoins_17, eX0_allCoins_18, eX0_allCoins_19, eX0_allCoins_22, eX0_allCoins_23, eX0_allCoins_24, eX0_allCoins_27, eX0_allCoins_30, eX0_allCoins_31, kl_i, kl_r, kl_n, kl_l, true_and, and_true, true_implies, false_implies, not_true_eq_false, not_false_eq_true, i10, Classical.not_not]
  exact lX0_allCoins hq hK eK ⟨by rw [rX0_allCoins, eK, NN_nI (by omega)], rfl⟩ K 0 (by omega)
set_option maxRecDepth 20000 in
theorem KX0_allCoins_ok (w : WW) : KOk w MX0_allCoins (KX0_allCoins w) := KOk_mk flX0_ok ciX0_ok clX0_ok (fun _ _ h => by cases h) (fun _ _ h => by cases h) (List.forall_mem_nil _)
theorem ctX0_allCoins (w : WW) : CT w yX0_allCoins MX0_allCoins (csX0_allCoins w).2.1 (csX0_allCoins w).2.2 := by
  refine CT_of (by decide) rfl TX0_allCoins_ok TX0_allCoins_v (KX0_allCoins_ok w) (fun as u h => ?_)
  obtain ⟨a0, rfl, h⟩ := sgR h
  obtain ⟨h0, hh⟩ := h
  obtain ⟨q0, e0, rfl⟩ := h0
  rw [hq_hA] at hh
  refine ⟨Nat.le_of_ble_eq_true rfl, ?_⟩
  have key := vX0_allCoins w q0 u e0 hh
  simp only [csX0_allCoins, hq_hA]
  exact key
theorem prX0_allCoins (w : WW) : ∀ as u, (csX0_allCoins w).2.1 as u → ∃ a r, as = .ref a :: r ∧ r.length = 0 ∧ okO w a 0 := by
  intro as u h
  obtain ⟨a0, rfl, h⟩ := sgR h
  exact ⟨_, _, rfl, rfl, okO_h h⟩
theorem richN_r1 (R : Nat → Int32) : ∀ n, ∃ c, c < n + 1 ∧ richN R (n + 1) = nI c
  | 0 => ⟨0, by decide, if_pos (Or.inl neg1)⟩
  | n + 1 => by
    obtain ⟨c, h1, h2⟩ := richN_r1 R n
    rw [richN]
    split
    · exact ⟨n + 1, by omega, rfl⟩
    · exact ⟨c, by omega, h2⟩
theorem lX0_richest {w : WW} {q : Nat} (hq : q < 3) {u : MM} {K : Nat} (hK : K ≤ 10) (eK : vw u (91 * q) 2 = nI K) {Q : Option Value → MM → Prop} (hQ : Q (some (.int (richN (vw u (91 * q)) K))) u) :
    ∀ (n i : Nat), i + 1 + n = K → GX0_richest w Q 4 [some (.ref (hA w q)), some (.int (richN (vw u (91 * q)) (i + 1))), some (.int (nI (i + 1)))] [] u := by
  intro n
  induction n with
  | zero =>
    intro i hi
    have e : i + 1 = K := by omega
    subst e
    have hle : nI (i + 1) ≤ nI (i + 1) := nI_le (Nat.le_refl _) (by omega)
    rw [eX0_richest_4]
    simp only [eX0_richest_0, eX0_richest_1, eX0_richest_2, eX0_richest_3, eX0_richest_5, eX0_richest_6, eX0_richest_9, eX0_richest_12, eX0_richest_13, eX0_richest_16, eX0_richest_17, eX0_richest_18, eX0_richest_21, eX0_richest_22, eX0_richest_25, eX0_richest_26, eX0_richest_27, eX0_richest_30, eX0_richest_33, eX0_richest_34, eX0_richest_35, eX0_richest_38, eX0_richest_41, eX0_richest_42, kl_i, kl_r, kl_n, kl_l, true_and, and_true, true_implies, false_implies, not_true_eq_false, not_false_eq_true, i10, Classical.not_not, ok_h0 w hq, rf_h0 w hq, ok_h1 w hq, rf_h1 w hq, ok_h2 w hq, ix_h2 w hq, ok_h3 w hq, ix_h3 w hq, ok_h4 w hq, ix_h4 w hq, ar_sa w hq, rf_sa w hq, ar_oa w hq, rf_oa w hq, hw_0, hw_1, hw_2, hu_0, hu_1, hu_2, on_vw, on_f, se_vw, se_f, vw_pv, pv_pv, ost_uI, sst_uI, sit_d, may_d, far_d, stay_d, goe_d, stp_d, hOk_h w hq, hq_hA, eK, hle]
    exact hQ
  | succ n ih =>
    intro i hi
    have hc : i + 1 < 10 := by omega
    have hN : NN (nI (i + 1)) = i + 1 := NN_nI (by omega)
    have hv : vp_in (nI (i + 1)) 10 := vi_nI hc
    have hlt : ¬ nI K ≤ nI (i + 1) := nI_ge (by omega) (by omega)
    have go : ∀ x : Int32, x = richN (vw u (91 * q)) (i + 1 + 1) → GX0_richest w Q 4 [some (.ref (hA w q)), some (.int x), some (.int (nI (i + 1) + 1))] [] u := fun x e => by rw [nI_1, e]; exact ih (i + 1) (by omega)
    obtain ⟨c, c1, c2⟩ := richN_r1 (vw u (91 * q)) i
    have hd : c < 10 := by omega
    have hNd : NN (nI c) = c := NN_nI (by omega)
    have hvd : vp_in (nI c) 10 := vi_nI hd
    have hr : richN (vw u (91 * q)) (i + 1 + 1) = if on (vw u (91 * q)) c 4 < on (vw u (91 * q)) (i + 1) 4 then nI (i + 1) else nI c := by
      rw [richN, c2, hNd]
      exact ifq ⟨fun z => z.elim (fun y => absurd y (nI_pos (by omega))) id, Or.inr⟩
    rw [eX0_richest_4]
    simp only [eX0_richest_0, eX0_richest_1, eX0_richest_2, eX0_richest_3, eX0_richest_5, eX0_richest_6, eX0_richest_9, eX0_richest_12, eX0_richest_13, eX0_richest_16, eX0_richest_17, eX0_richest_18, eX0_richest_21, eX0_richest_22, eX0_richest_25, eX0_richest_26, eX0_richest_27, eX0_richest_30, eX0_richest_33, eX0_richest_34, eX0_richest_35, eX0_richest_38, eX0_richest_41, eX0_richest_42, kl_i, kl_r, kl_n, kl_l, true_and, and_true, true_implies, false_implies, not_true_eq_false, not_false_eq_true, i10, Classical.not_not, ok_h0 w hq, rf_h0 w hq, ok_h1 w hq, rf_h1 w hq, ok_h2 w hq, ix_h2 w hq, ok_h3 w hq, ix_h3 w hq, ok_h4 w hq, ix_h4 w hq, ar_sa w hq, rf_sa w hq, ar_oa w hq, rf_oa w hq, hw_0, hw_1, hw_2, hu_0, hu_1, hu_2, on_vw, on_f, se_vw, se_f, vw_pv, pv_pv, ost_uI, sst_uI, sit_d, may_d, far_d, stay_d, goe_d, stp_d, hOk_h w hq, hq_hA, c2, hN, ok_on0 w hq hc, ix_on0 w hq hc, ok_on1 w hq hc, ix_on1 w hq hc, ok_on2 w hq hc, ix_on2 w hq hc, ok_on3 w hq hc, ix_on3 w hq hc, ok_on4 w hq hc, ix_on4 w hq hc, ok_on5 w hq hc, ix_on5 w hq hc, ok_on6 w hq hc, ix_on6 w hq hc, oOk_on w hq hc, fo_on w hq hc, hNd, ok_on0 w hq hd, ix_on0 w hq hd, ok_on1 w hq hd, ix_on1 w hq hd, ok_on2 w hq hd, ix_on2 w hq hd, ok_on3 w hq hd, ix_on3 w hq hd, ok_on4 w hq hd, ix_on4 w hq hd, ok_on5 w hq hd, ix_on5 w hq hd, ok_on6 w hq hd, ix_on6 w hq hd, oOk_on w hq hd, fo_on w hq hd, eK, hlt, hv, hvd]
    refine ⟨fun z => go _ ?_, fun z => go _ ?_⟩
    · rw [hr, if_neg (Int32.not_lt.mpr z)]
    · rw [hr, if_pos (Int32.not_le.mp z)]
theorem vX0_richest (w : WW) : VX0_richest w := by
  intro q u hq h
  obtain ⟨⟨K, hK, eK⟩, h0⟩ := h
  rw [eK, NN_nI (by omega)] at h0
  have key := lX0_richest (w := w) hq hK eK (Q := fun r u' => r = some (.int (rX0_richest q u)) ∧ u' = u) ⟨by rw [rX0_richest, eK, NN_nI (by omega)], rfl⟩ (K - 1) 0 (by omega)
  have e1 : richN (vw u (91 * q)) (0 + 1) = 0 := if_pos (Or.inl neg1)
  rw [e1] at key
  simp only [eX0_richest_0, eX0_richest_1, eX0_richest_2, eX0_richest_3, eX0_richest_5, eX0_richest_6, eX0_richest_9, eX0_richest_12, eX0_richest_13, eX0_richest_16, eX0_richest_17, eX0_richest_18, eX0_richest_21, eX0_richest_22, eX0_richest_25, eX0_richest_26, eX0_richest_27, eX0_richest_30, eX0_richest_33, eX0_richest_34, eX0_richest_35, eX0_richest_38, eX0_richest_41, eX0_richest_42, kl_i, kl_r, kl_n, kl_l, true_and, and_true, true_implies, false_implies, not_true_eq_false, not_false_eq_true, i10, Classical.not_not]
  exact key
set_option maxRecDepth 20000 in
theorem KX0_richest_ok (w : WW) : KOk w MX0_richest (KX0_richest w) := KOk_mk flX0_ok ciX0_ok clX0_ok (fun _ _ h => by cases h) (fun _ _ h => by cases h) (List.forall_mem_nil _)
theorem ctX0_richest (w : WW) : CT w yX0_richest MX0_richest (csX0_richest w).2.1 (csX0_richest w).2.2 := by
  refine CT_of (by decide) rfl TX0_richest_ok TX0_richest_v (KX0_richest_ok w) (fun as u h => ?_)
  obtain ⟨a0, rfl, h⟩ := sgR h
  obtain ⟨h0, hh⟩ := h
  obtain ⟨q0, e0, rfl⟩ := h0
  rw [hq_hA] at hh
  refine ⟨Nat.le_of_ble_eq_true rfl, ?_⟩
  have key := vX0_richest w q0 u e0 hh
  simp only [csX0_richest, hq_hA]
  exact key
theorem prX0_richest (w : WW) : ∀ as u, (csX0_richest w).2.1 as u → ∃ a r, as = .ref a :: r ∧ r.length = 0 ∧ okO w a 0 := by
  intro as u h
  obtain ⟨a0, rfl, h⟩ := sgR h
  exact ⟨_, _, rfl, rfl, okO_h h⟩
-- a hall becomes another
theorem lvP_iff {z t : Bool} {M K i : Nat} : lvP z t M K i = true ↔ (z = true ∧ i = 0) ∨ i = 1 ∨ (t = true ∧ i = 2) ∨ (3 ≤ i ∧ i < 3 + 3 * M) ∨ (21 ≤ i ∧ i < 21 + 7 * K) := by
  simp only [lvP, Bool.or_eq_true, Bool.and_eq_true, beq_iff_eq, decide_eq_true_eq, or_assoc]
theorem cpq_rd {q p i : Nat} {P : Nat → Bool} {u : MM} (hne : q ≠ p) (hi : i < 91) : (cpq q p P u).1 (91 * p + i) = u.1 (91 * p + i) := by
  simp only [cpq]; rw [if_neg (fun z => by omega)]
theorem cpq_cg {q p : Nat} {P P' : Nat → Bool} {u : MM} (h : ∀ i, i < 91 → P i = P' i) : cpq q p P u = cpq q p P' u := by
  apply Prod.ext
  · funext j
    simp only [cpq]
    exact ifq ⟨fun z => ⟨z.1, z.2.1, by rw [← h _ (by omega)]; exact z.2.2⟩, fun z => ⟨z.1, z.2.1, by rw [h _ (by omega)]; exact z.2.2⟩⟩
  · rfl
theorem cpq_st {q p i : Nat} {P : Nat → Bool} {u : MM} (hne : q ≠ p) (hi : i < 91) : uI (cpq q p P u) (91 * q + i) ((cpq q p P u).1 (91 * p + i)) = cpq q p (fun x => P x || x == i) u := by
  rw [cpq_rd hne hi]
  apply Prod.ext
  · funext j
    simp only [cpq, uI, upd]
    by_cases e : j = 91 * q + i
    · rw [if_pos e, if_pos ⟨by omega, by omega, by rw [show j - 91 * q = i by omega]; simp⟩, show j - 91 * q = i by omega]
    · rw [if_neg e]
      refine ifq ⟨fun z => ⟨z.1, z.2.1, by rw [z.2.2]; rfl⟩, fun z => ⟨z.1, z.2.1, ?_⟩⟩
      have := z.2.2
      rw [Bool.or_eq_true, beq_iff_eq] at this
      exact this.resolve_right (by omega)
  · rfl
theorem cpq_0 {q p i : Nat} {u : MM} (hi : i < 91) : uI u (91 * q + i) (u.1 (91 * p + i)) = cpq q p (fun x => x == i) u := by
  apply Prod.ext
  · funext j
    simp only [cpq, uI, upd]
    by_cases e : j = 91 * q + i
    · rw [if_pos e, if_pos ⟨by omega, by omega, by rw [show j - 91 * q = i by omega]; simp⟩, show j - 91 * q = i by omega]
    · rw [if_neg e, if_neg (fun z => by have := z.2.2; rw [beq_iff_eq] at this; omega)]
  · rfl
theorem cpq_seat {q p s : Nat} {u : MM} (hne : q ≠ p) (hs : s < 6) : mX2_become (91 * q + (3 + 3 * s)) (91 * p + (3 + 3 * s)) (cpq q p (lvP false false s 0) u) = cpq q p (lvP false false (s + 1) 0) u := by
  simp only [mX2_become, cp1, Nat.add_assoc]
  rw [cpq_st hne (by omega), cpq_st hne (by omega), cpq_st hne (by omega)]
  refine cpq_cg (fun i hi => Bool.eq_iff_iff.mpr ?_)
  simp only [Bool.or_eq_true, beq_iff_eq, lvP_iff, Bool.false_eq_true, false_and, false_or, true_and]
  omega
theorem cpq_one {q p c M : Nat} {u : MM} (hne : q ≠ p) (hc : c < 10) : mX1_become (91 * q + (21 + 7 * c)) (91 * p + (21 + 7 * c)) (cpq q p (lvP false true M c) u) = cpq q p (lvP false true M (c + 1)) u := by
  simp only [mX1_become, cp1, Nat.add_assoc]
  rw [cpq_st hne (by omega), cpq_st hne (by omega), cpq_st hne (by omega), cpq_st hne (by omega), cpq_st hne (by omega), cpq_st hne (by omega), cpq_st hne (by omega)]
  refine cpq_cg (fun i hi => Bool.eq_iff_iff.mpr ?_)
  simp only [Bool.or_eq_true, beq_iff_eq, lvP_iff, Bool.false_eq_true, false_and, false_or, true_and]
  omega
theorem lX0_become1 {w : WW} {q p : Nat} (hq : q < 3) (hp : p < 3) (hne : q ≠ p) {u : MM} {M : Nat} (hM : M ≤ 6) (eM : u.1 (91 * p + 1) = nI M) {Q : Option Value → MM → Prop}
    (kk : GX0_become w Q 39 [some (.ref (hA w q)), some (.ref (hA w p)), some (.int (nI M))] [] (cpq q p (lvP false false M 0) u)) :
    ∀ (n i : Nat), i + n = M → GX0_become w Q 10 [some (.ref (hA w q)), some (.ref (hA w p)), some (.int (nI i))] [] (cpq q p (lvP false false i 0) u) := by
  have rd : ∀ i, (cpq q p (lvP false false i 0) u).1 (91 * q + 1) = nI M := fun i => by
    have e : 91 * q + 1 - 91 * q = 1 := by omega
    rw [← eM]; simp only [cpq, e]; rw [if_pos ⟨by omega, by omega, lvP_iff.mpr (Or.inr (Or.inl rfl))⟩]
  intro n
  induction n with
  | zero =>
    intro i hi
    have e : i = M := by omega
    subst e
    have hle : nI i ≤ nI i := nI_le (Nat.le_refl i) (by omega)
    rw [eX0_become_10]
    simp only [eX0_become_0, eX0_become_1, eX0_become_2, eX0_become_5, eX0_become_8, eX0_become_9, eX0_become_11, eX0_become_12, eX0_become_15, eX0_become_18, eX0_become_19, eX0_become_22, eX0_become_23, eX0_become_24, eX0_become_25, eX0_become_28, eX0_become_29, eX0_become_30, eX0_become_33, eX0_become_36, eX0_become_40, eX0_become_41, eX0_become_44, eX0_become_47, eX0_become_48, eX0_become_50, eX0_become_51, eX0_become_54, eX0_become_57, eX0_become_58, eX0_become_61, eX0_become_62, eX0_become_63, eX0_become_64, eX0_become_67, eX0_become_68, eX0_become_69, eX0_become_72, eX0_become_75, eX0_become_78, eX0_become_79, eX0_become_80, eX0_become_83, eX0_become_86, kl_i, kl_r, kl_n, kl_l, true_and, and_true, true_implies, false_implies, not_true_eq_false, not_false_eq_true, i10, Classical.not_not, ok_h2 w hq, ix_h2 w hq, rd, hle]
    exact kk
  | succ n ih =>
    intro i hi
    have hs : i < 6 := by omega
    have hN : NN (nI i) = i := NN_nI (by omega)
    have hv : vp_in (nI i) 6 := vi_nI hs
    have hlt : ¬ nI M ≤ nI i := nI_ge (by omega) (by omega)
    rw [eX0_become_10]
    simp only [eX0_become_0, eX0_become_1, eX0_become_2, eX0_become_5, eX0_become_8, eX0_become_9, eX0_become_11, eX0_become_12, eX0_become_15, eX0_become_18, eX0_become_19, eX0_become_22, eX0_become_23, eX0_become_24, eX0_become_25, eX0_become_28, eX0_become_29, eX0_become_30, eX0_become_33, eX0_become_36, eX0_become_40, eX0_become_41, eX0_become_44, eX0_become_47, eX0_become_48, eX0_become_50, eX0_become_51, eX0_become_54, eX0_become_57, eX0_become_58, eX0_become_61, eX0_become_62, eX0_become_63, eX0_become_64, eX0_become_67, eX0_become_68, eX0_become_69, eX0_become_72, eX0_become_75, eX0_become_78, eX0_become_79, eX0_become_80, eX0_become_83, eX0_become_86, kl_i, kl_r, kl_n, kl_l, true_and, and_true, true_implies, false_implies, not_true_eq_false, not_false_eq_true, i10, Classical.not_not, ok_h2 w hq, ix_h2 w hq, rd, hlt, ok_h0 w hq, rf_h0 w hq, ar_sa w hq, rf_sa w hq, ok_h0 w hp, rf_h0 w hp, ar_sa w hp, rf_sa w hp, hv, hN, eOk_se w hq hs, eOk_se w hp hs, fo_se w hq hs, fo_se w hp hs, pX2_become, cpq_seat hne hs]
    rw [nI_1]; exact ih (i + 1) (by omega)
theorem lX0_become2 {w : WW} {q p : Nat} (hq : q < 3) (hp : p < 3) (hne : q ≠ p) {u : MM} {M K : Nat} (hK : K ≤ 10) (eK : u.1 (91 * p + 2) = nI K) {Q : Option Value → MM → Prop}
    (kk : Q none (cpq q p (lvP true true M K) u)) :
    ∀ (n i : Nat), i + n = K → GX0_become w Q 49 [some (.ref (hA w q)), some (.ref (hA w p)), some (.int (nI i))] [] (cpq q p (lvP false true M i) u) := by
  have rd : ∀ i, (cpq q p (lvP false true M i) u).1 (91 * q + 2) = nI K := fun i => by
    have e : 91 * q + 2 - 91 * q = 2 := by omega
    rw [← eK]; simp only [cpq, e]; rw [if_pos ⟨by omega, by omega, lvP_iff.mpr (Or.inr (Or.inr (Or.inl ⟨rfl, rfl⟩)))⟩]
  intro n
  induction n with
  | zero =>
    intro i hi
    have e : i = K := by omega
    subst e
    have hle : nI i ≤ nI i := nI_le (Nat.le_refl i) (by omega)
    have e0 : uI (cpq q p (lvP false true M i) u) (91 * q) ((cpq q p (lvP false true M i) u).1 (91 * p)) = cpq q p (lvP true true M i) u := by
      refine (cpq_st (i := 0) hne (by decide)).trans (cpq_cg (fun j hj => Bool.eq_iff_iff.mpr ?_))
      simp only [Bool.or_eq_true, beq_iff_eq, lvP_iff, Bool.false_eq_true, false_and, false_or, true_and]
      omega
    rw [eX0_become_49]
    simp only [eX0_become_0, eX0_become_1, eX0_become_2, eX0_become_5, eX0_become_8, eX0_become_9, eX0_become_11, eX0_become_12, eX0_become_15, eX0_become_18, eX0_become_19, eX0_become_22, eX0_become_23, eX0_become_24, eX0_become_25, eX0_become_28, eX0_become_29, eX0_become_30, eX0_become_33, eX0_become_36, eX0_become_39, eX0_become_40, eX0_become_41, eX0_become_44, eX0_become_47, eX0_become_48, eX0_become_50, eX0_become_51, eX0_become_54, eX0_become_57, eX0_become_58, eX0_become_61, eX0_become_62, eX0_become_63, eX0_become_64, eX0_become_67, eX0_become_68, eX0_become_69, eX0_become_72, eX0_become_75, eX0_become_78, eX0_become_79, eX0_become_80, eX0_become_83, eX0_become_86, kl_i, kl_r, kl_n, kl_l, true_and, and_true, true_implies, false_implies, not_true_eq_false, not_false_eq_true, i10, Classical.not_not, ok_h3 w hq, ix_h3 w hq, rd, hle, ok_h4 w hq, ix_h4 w hq, ok_h4 w hp, ix_h4 w hp, e0]
    exact kk
  | succ n ih =>
    intro i hi
    have hc : i < 10 := by omega
    have hN : NN (nI i) = i := NN_nI (by omega)
    have hv : vp_in (nI i) 10 := vi_nI hc
    have hlt : ¬ nI K ≤ nI i := nI_ge (by omega) (by omega)
    rw [eX0_become_49]
    simp only [eX0_become_0, eX0_become_1, eX0_become_2, eX0_become_5, eX0_become_8, eX0_become_9, eX0_become_11, eX0_become_12, eX0_become_15, eX0_become_18, eX0_become_19, eX0_become_22, eX0_become_23, eX0_become_24, eX0_become_25, eX0_become_28, eX0_become_29, eX0_become_30, eX0_become_33, eX0_become_36, eX0_become_39, eX0_become_40, eX0_become_41, eX0_become_44, eX0_become_47, eX0_become_48, eX0_become_50, eX0_become_51, eX0_become_54, eX0_become_57, eX0_become_58, eX0_become_61, eX0_become_62, eX0_become_63, eX0_become_64, eX0_become_67, eX0_become_68, eX0_become_69, eX0_become_72, eX0_become_75, eX0_become_78, eX0_become_79, eX0_become_80, eX0_become_83, eX0_become_86, kl_i, kl_r, kl_n, kl_l, true_and, and_true, true_implies, false_implies, not_true_eq_false, not_false_eq_true, i10, Classical.not_not, ok_h3 w hq, ix_h3 w hq, rd, hlt, ok_h1 w hq, rf_h1 w hq, ar_oa w hq, rf_oa w hq, ok_h1 w hp, rf_h1 w hp, ar_oa w hp, rf_oa w hp, hv, hN, oOk_on w hq hc, oOk_on w hp hc, fo_on w hq hc, fo_on w hp hc, pX1_become, cpq_one hne hc]
    rw [nI_1]; exact ih (i + 1) (by omega)
theorem vX0_become (w : WW) : VX0_become w := by
  intro q p u hq hp h
  obtain ⟨hne, hO⟩ := h
  obtain ⟨M, hM, eM⟩ := hO.1
  obtain ⟨K, hK, eK⟩ := hO.2.1
  have eM' : u.1 (91 * p + 1) = nI M := eM
  have eK' : u.1 (91 * p + 2) = nI K := eK
  have e0 : uI u (91 * q + 1) (u.1 (91 * p + 1)) = cpq q p (lvP false false 0 0) u := by
    refine (cpq_0 (by decide)).trans (cpq_cg (fun j hj => Bool.eq_iff_iff.mpr ?_))
    simp only [beq_iff_eq, lvP_iff, Bool.false_eq_true, false_and, false_or, true_and]
    omega
  have e1 : uI (cpq q p (lvP false false M 0) u) (91 * q + 2) ((cpq q p (lvP false false M 0) u).1 (91 * p + 2)) = cpq q p (lvP false true M 0) u := by
    refine (cpq_st hne (by decide)).trans (cpq_cg (fun j hj => Bool.eq_iff_iff.mpr ?_))
    simp only [Bool.or_eq_true, beq_iff_eq, lvP_iff, Bool.false_eq_true, false_and, false_or, true_and]
    omega
  simp only [eX0_become_0, eX0_become_1, eX0_become_2, eX0_become_5, eX0_become_8, eX0_become_9, eX0_become_11, eX0_become_12, eX0_become_15, eX0_become_18, eX0_become_19, eX0_become_22, eX0_become_23, eX0_become_24, eX0_become_25, eX0_become_28, eX0_become_29, eX0_become_30, eX0_become_33, eX0_become_36, eX0_become_39, eX0_become_40, eX0_become_41, eX0_become_44, eX0_become_47, eX0_become_48, eX0_become_50, eX0_become_51, eX0_become_54, eX0_become_57, eX0_become_58, eX0_become_61, eX0_become_62, eX0_become_63, eX0_become_64, eX0_become_67, eX0_become_68, eX0_become_69, eX0_become_72, eX0_become_75, eX0_become_78, eX0_become_79, eX0_become_80, eX0_become_83, eX0_become_86, kl_i, kl_r, kl_n, kl_l, true_and, and_true, true_implies, false_implies, not_true_eq_false, not_false_eq_true, i10, Classical.not_not, ok_h2 w hq, ix_h2 w hq, ok_h2 w hp, ix_h2 w hp, e0]
  refine lX0_become1 hq hp hne hM eM' ?_ M 0 (by omega)
  simp only [eX0_become_0, eX0_become_1, eX0_become_2, eX0_become_5, eX0_become_8, eX0_become_9, eX0_become_11, eX0_become_12, eX0_become_15, eX0_become_18, eX0_become_19, eX0_become_22, eX0_become_23, eX0_become_24, eX0_become_25, eX0_become_28, eX0_become_29, eX0_become_30, eX0_become_33, eX0_become_36, eX0_become_39, eX0_become_40, eX0_become_41, eX0_become_44, eX0_become_47, eX0_become_48, eX0_become_50, eX0_become_51, eX0_become_54, eX0_become_57, eX0_become_58, eX0_become_61, eX0_become_62, eX0_become_63, eX0_become_64, eX0_become_67, eX0_become_68, eX0_become_69, eX0_become_72, eX0_become_75, eX0_become_78, eX0_become_79, eX0_become_80, eX0_become_83, eX0_become_86, kl_i, kl_r, kl_n, kl_l, true_and, and_true, true_implies, false_implies, not_true_eq_false, not_false_eq_true, i10, Classical.not_not, ok_h3 w hq, ix_h3 w hq, ok_h3 w hp, ix_h3 w hp, e1]
  exact lX0_become2 hq hp hne hK eK' ⟨rfl, by rw [mX0_become, eM, eK, NN_nI (by omega), NN_nI (by omega)]⟩ K 0 (by omega)
theorem wcX0_29 : ∀ x ∈ wV1 RX0 29 yX2_become MX2_become, x ∈ Gt := by decide +kernel
theorem nmX2_become : nmOk yX2_become 1 = true := by decide +kernel
theorem wcX0_36 : ∀ x ∈ wV1 RX0 36 yX1_become MX1_become, x ∈ Gt := by decide +kernel
theorem nmX1_become : nmOk yX1_become 1 = true := by decide +kernel
set_option maxRecDepth 20000 in
theorem KX0_become_ok (w : WW) : KOk w MX0_become (KX0_become w) := KOk_mk flX0_ok ciX0_ok clX0_ok (fun _ _ h => by cases h) (fun _ _ h => by cases h) (List.forall_mem_cons.mpr ⟨itV (n := 29) (by decide) (COk_V (n := 1) (ci := 2) (ctX2_become w) wcX0_29 nmX2_become (by decide) (by decide) rfl (prX2_become w)), List.forall_mem_cons.mpr ⟨itV (n := 36) (by decide) (COk_V (n := 1) (ci := 1) (ctX1_become w) wcX0_36 nmX1_become (by decide) (by decide) rfl (prX1_become w)), List.forall_mem_nil _⟩⟩)
theorem ctX0_become (w : WW) : CT w yX0_become MX0_become (csX0_become w).2.1 (csX0_become w).2.2 := by
  refine CT_of (by decide) rfl TX0_become_ok TX0_become_v (KX0_become_ok w) (fun as u h => ?_)
  obtain ⟨a0, a1, rfl, h⟩ := sgRR h
  obtain ⟨h0, h1, hh⟩ := h
  obtain ⟨q0, e0, rfl⟩ := h0
  rw [hq_hA] at hh
  obtain ⟨q1, e1, rfl⟩ := h1
  rw [hq_hA] at hh
  refine ⟨Nat.le_of_ble_eq_true rfl, ?_⟩
  have key := vX0_become w q0 q1 u e0 e1 hh
  simp only [csX0_become, hq_hA]
  exact key
theorem prX0_become (w : WW) : ∀ as u, (csX0_become w).2.1 as u → ∃ a r, as = .ref a :: r ∧ r.length = 1 ∧ okO w a 0 := by
  intro as u h
  obtain ⟨a0, a1, rfl, h⟩ := sgRR h
  exact ⟨_, _, rfl, rfl, okO_h h⟩
