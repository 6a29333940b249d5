/-! ===== the class's sheets and the hall, the tape's hall, walked ===== -/
theorem min_nI {a b : Nat} (ha : a < 2 ^ 31) (hb : b < 2 ^ 31) : minI (nI a) (nI b) = nI (min b a) := by
  unfold minI
  by_cases c : b < a
  · rw [if_pos ((nI_ltI hb ha).mpr c), Nat.min_eq_left (by omega)]
  · rw [if_neg (fun z => c ((nI_ltI hb ha).mp z)), Nat.min_eq_right (by omega)]
theorem pvP_st {u : MM} {R : Nat → Int32} (h : ∀ i, 91 ≤ i → R i = vw u (91 * qP) i) {j : Nat} (hj : 91 ≤ j) : (pv u (91 * qP) R).1 j = u.1 j := pv_out h (by unfold qP; omega)
theorem lX5_lays {w : WW} {s : Int32} {u : MM} (hv : Hv (vw u (91 * qP))) (h4 : vp_in s 4) {N : Nat} (hN10 : N ≤ NN (vw u (91 * qP) 2)) (hN40 : N ≤ 40) {Q : Option Value → MM → Prop} (hQ : Q (some (.int (lyP (Z5 u s) (vw u (91 * qP) 1) (vw u (91 * qP)) N).2)) (pv u (91 * qP) (lyP (Z5 u s) (vw u (91 * qP) 1) (vw u (91 * qP)) N).1)) :
    ∀ (n i : Nat) (j5 j6 : Option Value), i + n = N → GX5_lays w Q 56 [some (.ref (xA w)), some (.int s), some (.int (nI N)), some (.int (lyP (Z5 u s) (vw u (91 * qP) 1) (vw u (91 * qP)) i).2), some (.int (nI i)), j5, j6] [] (pv u (91 * qP) (lyP (Z5 u s) (vw u (91 * qP) 1) (vw u (91 * qP)) i).1) := by
  have hs : NN s < 4 := vi_lt h4
  have hK := hv.1.K.1
  intro n
  induction n with
  | zero =>
    intro i j5 j6 hi
    have e : i = N := by omega
    subst e
    have hle : nI i ≤ nI i := nI_le (Nat.le_refl i) (by omega)
    rw [eX5_lays_56]
    simp only [eX5_lays_0, eX5_lays_1, eX5_lays_4, eX5_lays_7, eX5_lays_8, eX5_lays_9, eX5_lays_12, eX5_lays_13, eX5_lays_14, eX5_lays_17, eX5_lays_18, eX5_lays_19, eX5_lays_22, eX5_lays_25, eX5_lays_26, eX5_lays_27, eX5_lays_30, eX5_lays_31, eX5_lays_32, eX5_lays_35, eX5_lays_36, eX5_lays_37, eX5_lays_40, eX5_lays_41, eX5_lays_44, eX5_lays_47, eX5_lays_50, eX5_lays_51, eX5_lays_52, eX5_lays_53, eX5_lays_54, eX5_lays_58, eX5_lays_59, eX5_lays_62, eX5_lays_63, eX5_lays_66, eX5_lays_67, eX5_lays_68, eX5_lays_71, eX5_lays_73, eX5_lays_74, eX5_lays_76, eX5_lays_78, eX5_lays_81, eX5_lays_82, eX5_lays_85, eX5_lays_87, eX5_lays_88, eX5_lays_91, eX5_lays_94, eX5_lays_95, eX5_lays_96, eX5_lays_99, eX5_lays_100, eX5_lays_103, eX5_lays_106, eX5_lays_108, eX5_lays_109, eX5_lays_111, eX5_lays_112, eX5_lays_115, eX5_lays_118, eX5_lays_121, eX5_lays_124, eX5_lays_125, kl_i, kl_r, kl_n, kl_l, true_and, and_true, true_implies, false_implies, not_true_eq_false, not_false_eq_true, i10, Classical.not_not, hle]
    exact hQ
  | succ n ih =>
    intro i j5 j6 hi
    have hlt : ¬ nI N ≤ nI i := nI_ge (by omega) (by omega)
    have hv40 : vp_in (nI i) 40 := vi_nI (by omega)
    have hv10 : vp_in (nI i) 10 := vi_nI (by omega)
    have hc : i < 10 := by omega
    have hNi : NN (nI i) = i := NN_nI (by omega)
    have e1 : (lyP (Z5 u s) (vw u (91 * qP) 1) (vw u (91 * qP)) i).1 1 = vw u (91 * qP) 1 := lyP_hd _ _ _ (by decide) i
    have eZ : u.2 (40 * NN s + i) = Z5 u s i := rfl
    have go : ∀ (x : (Nat → Int32) × Int32) (j5 j6 : Option Value), x = lyP (Z5 u s) (vw u (91 * qP) 1) (vw u (91 * qP)) (i + 1) → GX5_lays w Q 56 [some (.ref (xA w)), some (.int s), some (.int (nI N)), some (.int x.2), some (.int (nI i + 1)), j5, j6] [] (pv u (91 * qP) x.1) := fun x j5 j6 e => by rw [nI_1, e]; exact ih (i + 1) j5 j6 (by omega)
    rw [eX5_lays_56]
    simp only [eX5_lays_0, eX5_lays_1, eX5_lays_4, eX5_lays_7, eX5_lays_8, eX5_lays_9, eX5_lays_12, eX5_lays_13, eX5_lays_14, eX5_lays_17, eX5_lays_18, eX5_lays_19, eX5_lays_22, eX5_lays_25, eX5_lays_26, eX5_lays_27, eX5_lays_30, eX5_lays_31, eX5_lays_32, eX5_lays_35, eX5_lays_36, eX5_lays_37, eX5_lays_40, eX5_lays_41, eX5_lays_44, eX5_lays_47, eX5_lays_50, eX5_lays_51, eX5_lays_52, eX5_lays_53, eX5_lays_54, eX5_lays_58, eX5_lays_59, eX5_lays_62, eX5_lays_63, eX5_lays_66, eX5_lays_67, eX5_lays_68, eX5_lays_71, eX5_lays_73, eX5_lays_74, eX5_lays_76, eX5_lays_78, eX5_lays_81, eX5_lays_82, eX5_lays_85, eX5_lays_87, eX5_lays_88, eX5_lays_91, eX5_lays_94, eX5_lays_95, eX5_lays_96, eX5_lays_99, eX5_lays_100, eX5_lays_103, eX5_lays_106, eX5_lays_108, eX5_lays_109, eX5_lays_111, eX5_lays_112, eX5_lays_115, eX5_lays_118, eX5_lays_121, eX5_lays_124, eX5_lays_125, kl_i, kl_r, kl_n, kl_l, true_and, and_true, true_implies, false_implies, not_true_eq_false, not_false_eq_true, i10, Classical.not_not, ok_x0, rfP, ok_x1, rfT, ok_x2, rfK, ok_x3, ix_x3, ok_x4, rf_x4, ok_x5, rf_x5, ok_x6, rf_x6, as_fdd, ai_fdd, xa_fdd, rd_fdd, ok_h0 w hqP, rf_h0 w hqP, ok_h1 w hqP, rf_h1 w hqP, ok_h2 w hqP, ix_h2 w hqP, ok_h3 w hqP, ix_h3 w hqP, ok_h4 w hqP, ix_h4 w hqP, ar_sa w hqP, rf_sa w hqP, ar_oa w hqP, rf_oa w hqP, hw_0, hw_1, hw_2, hu_0, hu_1, hu_2, on_vw, on_f, se_vw, se_f, vw_pv, pv_pv, ost_uI, sst_uI, sit_d, may_d, far_d, stay_d, goe_d, stp_d, hOk_h w hqP, hq_hA, hlt, ar_sh, rf_sh, h4, ok_st0 w hs, rf_st0 w hs, ok_st1 w hs, ix_st1 w hs, ok_st2 w hs, ix_st2 w hs, aj_sn w hs, xj_sn w hs, tOk_st w hs, hv40, hNi, pv_2, eZ, lgc_lt, lg_cmp_ge, e1, hv10, ok_on0 w hqP hc, ix_on0 w hqP hc, ok_on1 w hqP hc, ix_on1 w hqP hc, ok_on2 w hqP hc, ix_on2 w hqP hc, ok_on3 w hqP hc, ix_on3 w hqP hc, ok_on4 w hqP hc, ix_on4 w hqP hc, ok_on5 w hqP hc, ix_on5 w hqP hc, ok_on6 w hqP hc, ix_on6 w hqP hc, oOk_on w hqP hc, fo_on w hqP hc]
    refine ⟨fun a => go (lyP (Z5 u s) (vw u (91 * qP) 1) (vw u (91 * qP)) i) _ _ ?_, fun a => ⟨fun b => go (lyP (Z5 u s) (vw u (91 * qP) 1) (vw u (91 * qP)) i) _ _ ?_, fun b => go (ost (lyP (Z5 u s) (vw u (91 * qP) 1) (vw u (91 * qP)) i).1 i 3 (Z5 u s i).toInt32, (lyP (Z5 u s) (vw u (91 * qP) 1) (vw u (91 * qP)) i).2 + 1) _ _ ?_⟩⟩
    · rw [lyP, if_neg (fun z => absurd a (Int64.not_lt.mpr z.1))]
    · rw [lyP, if_neg (fun z => absurd z.2 (Int64.not_lt.mpr b))]
    · rw [lyP, if_pos ⟨Int64.not_lt.mp a, Int64.not_le.mp b⟩]
theorem vX5_lays (w : WW) : VX5_lays w := by
  intro s u h
  obtain ⟨hI, hS⟩ := h
  have hv : Hv (vw u (91 * qP)) := hI.1
  by_cases c : isSh s
  · have h4 := isSh_vi c
    have hs : NN s < 4 := vi_lt h4
    obtain ⟨m, hm, em⟩ := hS (NN s) hs
    obtain ⟨K, hK, eK⟩ := hv.1.2.1
    have eN : NN (vw u (91 * qP) 2) = K := by rw [eK, NN_nI (by omega)]
    have eM : NN (u.1 (430 + 2 * NN s + 1)) = m := by rw [em, NN_nI (by omega)]
    have emin := min_nI (a := m) (b := K) (by omega) (by omega)
    simp only [eX5_lays_0, eX5_lays_1, eX5_lays_4, eX5_lays_7, eX5_lays_8, eX5_lays_9, eX5_lays_12, eX5_lays_13, eX5_lays_14, eX5_lays_17, eX5_lays_18, eX5_lays_19, eX5_lays_22, eX5_lays_25, eX5_lays_26, eX5_lays_27, eX5_lays_30, eX5_lays_31, eX5_lays_32, eX5_lays_35, eX5_lays_36, eX5_lays_37, eX5_lays_40, eX5_lays_41, eX5_lays_44, eX5_lays_47, eX5_lays_50, eX5_lays_51, eX5_lays_52, eX5_lays_53, eX5_lays_54, eX5_lays_58, eX5_lays_59, eX5_lays_62, eX5_lays_63, eX5_lays_66, eX5_lays_67, eX5_lays_68, eX5_lays_71, eX5_lays_73, eX5_lays_74, eX5_lays_76, eX5_lays_78, eX5_lays_81, eX5_lays_82, eX5_lays_85, eX5_lays_87, eX5_lays_88, eX5_lays_91, eX5_lays_94, eX5_lays_95, eX5_lays_96, eX5_lays_99, eX5_lays_100, eX5_lays_103, eX5_lays_106, eX5_lays_108, eX5_lays_109, eX5_lays_111, eX5_lays_112, eX5_lays_115, eX5_lays_118, eX5_lays_121, eX5_lays_124, eX5_lays_125, kl_i, kl_r, kl_n, kl_l, true_and, and_true, true_implies, false_implies, not_true_eq_false, not_false_eq_true, i10, Classical.not_not, ok_x0, rfP, ok_x1, rfT, ok_x2, rfK, ok_x3, ix_x3, ok_x4, rf_x4, ok_x5, rf_x5, ok_x6, rf_x6, as_fdd, ai_fdd, xa_fdd, rd_fdd, ok_h0 w hqP, rf_h0 w hqP, ok_h1 w hqP, rf_h1 w hqP, ok_h2 w hqP, ix_h2 w hqP, ok_h3 w hqP, ix_h3 w hqP, ok_h4 w hqP, ix_h4 w hqP, ar_sa w hqP, rf_sa w hqP, ar_oa w hqP, rf_oa w hqP, hw_0, hw_1, hw_2, hu_0, hu_1, hu_2, on_vw, on_f, se_vw, se_f, vw_pv, pv_pv, ost_uI, sst_uI, sit_d, may_d, far_d, stay_d, goe_d, stp_d, hOk_h w hqP, hq_hA, pX5_finding, mX5_finding, rfx0, rfx1, rfx2, rfx3, rfx4, rfx5, rfx6, N_0, N_1, N_2, N_3, N_4, N_5, N_6, v7_0, v7_1, v7_2, v7_3, v7_4, v7_5, v7_6, pX5_isSheet, rX5_isSheet, bi_t c, bi_0, ar_sh, rf_sh, h4, ok_st0 w hs, rf_st0 w hs, ok_st1 w hs, ix_st1 w hs, ok_st2 w hs, ix_st2 w hs, aj_sn w hs, xj_sn w hs, tOk_st w hs, tq_stA, pX3_isMissing, rX3_isMissing, em, eK, pJ9_min_7cf53, rJ9_min_7cf53, emin, rX5_lays, mX5_lays]
    refine ⟨fun d => ?_, fun d => toV (nfq5 (by rw [lyNo, if_neg (fun z => z c), if_pos d]))⟩
    have e0 : lyNo s (u.1 (430 + 2 * NN s)) = none := by rw [lyNo, if_neg (fun z => z c), if_neg d]
    have key := lX5_lays (w := w) hv h4 (N := min K m) (by rw [eN]; exact Nat.min_le_left _ _) (by omega) (Q := fun r u' => r = some (.int (nf (lyNo s (u.1 (430 + 2 * NN s))) (lyC s u).2)) ∧ u' = nfX (lyNo s (u.1 (430 + 2 * NN s))) u (pv u (91 * qP) (lyC s u).1)) (by rw [e0, lyC, eN, eM]; exact ⟨rfl, rfl⟩) (min K m) 0 none none (by omega)
    rw [show (lyP (Z5 u s) (vw u (91 * qP) 1) (vw u (91 * qP)) 0).1 = vw u (91 * qP) from rfl, pv_vw] at key
    exact key
  · simp only [eX5_lays_0, eX5_lays_1, eX5_lays_4, eX5_lays_7, eX5_lays_8, eX5_lays_9, eX5_lays_12, eX5_lays_13, eX5_lays_14, eX5_lays_17, eX5_lays_18, eX5_lays_19, eX5_lays_22, eX5_lays_25, eX5_lays_26, eX5_lays_27, eX5_lays_30, eX5_lays_31, eX5_lays_32, eX5_lays_35, eX5_lays_36, eX5_lays_37, eX5_lays_40, eX5_lays_41, eX5_lays_44, eX5_lays_47, eX5_lays_50, eX5_lays_51, eX5_lays_52, eX5_lays_53, eX5_lays_54, eX5_lays_58, eX5_lays_59, eX5_lays_62, eX5_lays_63, eX5_lays_66, eX5_lays_67, eX5_lays_68, eX5_lays_71, eX5_lays_73, eX5_lays_74, eX5_lays_76, eX5_lays_78, eX5_lays_81, eX5_lays_82, eX5_lays_85, eX5_lays_87, eX5_lays_88, eX5_lays_91, eX5_lays_94, eX5_lays_95, eX5_lays_96, eX5_lays_99, eX5_lays_100, eX5_lays_103, eX5_lays_106, eX5_lays_108, eX5_lays_109, eX5_lays_111, eX5_lays_112, eX5_lays_115, eX5_lays_118, eX5_lays_121, eX5_lays_124, eX5_lays_125, kl_i, kl_r, kl_n, kl_l, true_and, and_true, true_implies, false_implies, not_true_eq_false, not_false_eq_true, i10, Classical.not_not, ok_x0, rfP, ok_x1, rfT, ok_x2, rfK, ok_x3, ix_x3, ok_x4, rf_x4, ok_x5, rf_x5, ok_x6, rf_x6, as_fdd, ai_fdd, xa_fdd, rd_fdd, pX5_finding, mX5_finding, rfx0, rfx1, rfx2, rfx3, rfx4, rfx5, rfx6, N_0, N_1, N_2, N_3, N_4, N_5, N_6, v7_0, v7_1, v7_2, v7_3, v7_4, v7_5, v7_6, pX5_isSheet, rX5_isSheet, bi_f c, rX5_lays, mX5_lays, Option.some.injEq, Value.int.injEq]
    exact nfq0 (by rw [lyNo, if_pos c])
theorem wcX5_65795 : ∀ x ∈ wS1 RX5 259 yJ9_min_7cf53 MJ9_min_7cf53, x ∈ Gt := by decide +kernel
set_option maxRecDepth 20000 in
theorem KX5_lays_ok (w : WW) : KOk w MX5_lays (KX5_lays w) := KOk_mk flX5_ok ciX5_ok clX5_ok (fun _ _ h => by cases h) (fun _ _ h => by cases h) (List.forall_mem_cons.mpr ⟨itV (n := 52) (by decide) (COk_V (n := 1) (ci := 5) (ctX5_finding w) wcX5_52 nmX5_finding (by decide) (by decide) rfl (prX5_finding w)), List.forall_mem_cons.mpr ⟨itV (n := 235) (by decide) (COk_V (n := 0) (ci := 3) (ctX3_isMissing w) wcX5_235 nmX3_isMissing (by decide) (by decide) rfl (prX3_isMissing w)), List.forall_mem_cons.mpr ⟨itS (n := 227) (COk_S (n := 1) (ctX5_isSheet w) wcX5_65763 nmX5_isSheet (by decide)), List.forall_mem_cons.mpr ⟨itS (n := 259) (COk_S (n := 2) (ctJ9_min_7cf53 w) wcX5_65795 nmJ9_min_7cf53 (by decide)), List.forall_mem_nil _⟩⟩⟩⟩)
theorem ctX5_lays (w : WW) : CT w yX5_lays MX5_lays (csX5_lays w).2.1 (csX5_lays w).2.2 := by
  refine CT_of (by decide) rfl TX5_lays_ok TX5_lays_v (KX5_lays_ok w) (fun as u h => ?_)
  obtain ⟨a0, a1, rfl, h⟩ := sgRI h
  obtain ⟨rfl, hh⟩ := h
  refine ⟨Nat.le_of_ble_eq_true rfl, ?_⟩
  have key := vX5_lays w a1 u hh
  exact key
theorem prX5_lays (w : WW) : ∀ as u, (csX5_lays w).2.1 as u → ∃ a r, as = .ref a :: r ∧ r.length = 1 ∧ okO w a 5 := by
  intro as u h
  obtain ⟨a0, a1, rfl, h⟩ := sgRI h
  exact ⟨_, _, rfl, rfl, okO_x h⟩
theorem nrw_small (b v : Int32) (h : v = -1 ∨ ∃ j, j < 10 ∧ v = nI j) : nrw b v.toInt64 = v.toInt64 := by
  have k : ∀ j, j < 10 → (nI j).toInt64 <<< ((56 : Int32).toInt64 &&& 63) >>> ((56 : Int32).toInt64 &&& 63) = (nI j).toInt64 ∧ (nI j).toInt64 <<< ((48 : Int32).toInt64 &&& 63) >>> ((48 : Int32).toInt64 &&& 63) = (nI j).toInt64 := by decide
  have k1 : (-1 : Int32).toInt64 <<< ((56 : Int32).toInt64 &&& 63) >>> ((56 : Int32).toInt64 &&& 63) = (-1 : Int32).toInt64 ∧ (-1 : Int32).toInt64 <<< ((48 : Int32).toInt64 &&& 63) >>> ((48 : Int32).toInt64 &&& 63) = (-1 : Int32).toInt64 := by decide
  unfold nrw
  rcases h with rfl | ⟨j, hj, rfl⟩
  · split
    · exact k1.1
    · split
      · exact k1.2
      · rfl
  · split
    · exact (k j hj).1
    · split
      · exact (k j hj).2
      · rfl
theorem rlJ_s (u : MM) (R : Nat → Int32) (b n : Nat) : uJ (rlJ u R b n) (b + n) (se R n 2).toInt64 = rlJ u R b (n + 1) := by
  apply Prod.ext
  · rfl
  · funext j
    simp only [uJ, rlJ, vp_updL]
    by_cases h : j = b + n
    · rw [if_pos h, if_pos (by omega), show j - b = n by omega]
    · rw [if_neg h]; exact ifq (by omega)
theorem lX5_roll {w : WW} {s n : Int32} {u : MM} (hG : Hv (goP (NN n) (Tr u))) (h4 : vp_in s 4) {N : Nat} (hN6 : N ≤ NN (goP (NN n) (Tr u) 1)) (hN40 : N ≤ 40) {Q : Option Value → MM → Prop} (hQ : Q (some (.int (nI N))) (rlJ (stT u (goP (NN n) (Tr u))) (goP (NN n) (Tr u)) (40 * NN s) N)) :
    ∀ (m i : Nat), i + m = N → GX5_roll w Q 104 [some (.ref (xA w)), some (.int s), some (.int n), some (.int (nI N)), some (.int (nI i))] [] (rlJ (stT u (goP (NN n) (Tr u))) (goP (NN n) (Tr u)) (40 * NN s) i) := by
  have hs : NN s < 4 := vi_lt h4
  have hM := hG.1.M.1
  have hK := hG.1.K.1
  have vr : ∀ i, vw (rlJ (stT u (goP (NN n) (Tr u))) (goP (NN n) (Tr u)) (40 * NN s) i) (91 * qT) = goP (NN n) (Tr u) := fun i => vw_stT u _
  intro m
  induction m with
  | zero =>
    intro i hi
    have e : i = N := by omega
    subst e
    have hle : nI i ≤ nI i := nI_le (Nat.le_refl i) (by omega)
    rw [eX5_roll_104]
    simp only [eX5_roll_0, eX5_roll_1, eX5_roll_4, eX5_roll_7, eX5_roll_8, eX5_roll_9, eX5_roll_12, eX5_roll_13, eX5_roll_14, eX5_roll_17, eX5_roll_18, eX5_roll_19, eX5_roll_22, eX5_roll_25, eX5_roll_26, eX5_roll_27, eX5_roll_30, eX5_roll_31, eX5_roll_32, eX5_roll_33, eX5_roll_36, eX5_roll_39, eX5_roll_42, eX5_roll_43, eX5_roll_44, eX5_roll_47, eX5_roll_48, eX5_roll_49, eX5_roll_50, eX5_roll_53, eX5_roll_56, eX5_roll_57, eX5_roll_58, eX5_roll_61, eX5_roll_62, eX5_roll_63, eX5_roll_66, eX5_roll_67, eX5_roll_70, eX5_roll_73, eX5_roll_74, eX5_roll_77, eX5_roll_78, eX5_roll_81, eX5_roll_82, eX5_roll_85, eX5_roll_86, eX5_roll_87, eX5_roll_90, eX5_roll_91, eX5_roll_94, eX5_roll_97, eX5_roll_100, eX5_roll_101, eX5_roll_102, eX5_roll_106, eX5_roll_107, eX5_roll_110, eX5_roll_111, eX5_roll_114, eX5_roll_115, eX5_roll_116, eX5_roll_118, eX5_roll_119, eX5_roll_122, eX5_roll_125, eX5_roll_127, eX5_roll_128, eX5_roll_131, eX5_roll_132, eX5_roll_135, eX5_roll_138, eX5_roll_141, eX5_roll_142, kl_i, kl_r, kl_n, kl_l, true_and, and_true, true_implies, false_implies, not_true_eq_false, not_false_eq_true, i10, Classical.not_not, hle]
    exact hQ
  | succ m ih =>
    intro i hi
    have hlt : ¬ nI N ≤ nI i := nI_ge (by omega) (by omega)
    have hv40 : vp_in (nI i) 40 := vi_nI (by omega)
    have h6 : i < 6 := by omega
    have hv6 : vp_in (nI i) 6 := vi_nI h6
    have hNi : NN (nI i) = i := NN_nI (by omega)
    have hb := hG.b (s := i) (by omega)
    have hsm := nrw_small ((rlJ (stT u (goP (NN n) (Tr u))) (goP (NN n) (Tr u)) (40 * NN s) i).1 (430 + 2 * NN s)) (se (goP (NN n) (Tr u)) i 2) (hb.imp id (fun q => ⟨NN (se (goP (NN n) (Tr u)) i 2), by have := vi_lt q.1; omega, vi_eq q.1 (by omega)⟩))
    have key := ih (i + 1) (by omega)
    rw [← rlJ_s, ← nI_1] at key
    rw [eX5_roll_104]
    simp only [eX5_roll_0, eX5_roll_1, eX5_roll_4, eX5_roll_7, eX5_roll_8, eX5_roll_9, eX5_roll_12, eX5_roll_13, eX5_roll_14, eX5_roll_17, eX5_roll_18, eX5_roll_19, eX5_roll_22, eX5_roll_25, eX5_roll_26, eX5_roll_27, eX5_roll_30, eX5_roll_31, eX5_roll_32, eX5_roll_33, eX5_roll_36, eX5_roll_39, eX5_roll_42, eX5_roll_43, eX5_roll_44, eX5_roll_47, eX5_roll_48, eX5_roll_49, eX5_roll_50, eX5_roll_53, eX5_roll_56, eX5_roll_57, eX5_roll_58, eX5_roll_61, eX5_roll_62, eX5_roll_63, eX5_roll_66, eX5_roll_67, eX5_roll_70, eX5_roll_73, eX5_roll_74, eX5_roll_77, eX5_roll_78, eX5_roll_81, eX5_roll_82, eX5_roll_85, eX5_roll_86, eX5_roll_87, eX5_roll_90, eX5_roll_91, eX5_roll_94, eX5_roll_97, eX5_roll_100, eX5_roll_101, eX5_roll_102, eX5_roll_106, eX5_roll_107, eX5_roll_110, eX5_roll_111, eX5_roll_114, eX5_roll_115, eX5_roll_116, eX5_roll_118, eX5_roll_119, eX5_roll_122, eX5_roll_125, eX5_roll_127, eX5_roll_128, eX5_roll_131, eX5_roll_132, eX5_roll_135, eX5_roll_138, eX5_roll_141, eX5_roll_142, kl_i, kl_r, kl_n, kl_l, true_and, and_true, true_implies, false_implies, not_true_eq_false, not_false_eq_true, i10, Classical.not_not, ok_x0, rfP, ok_x1, rfT, ok_x2, rfK, ok_x3, ix_x3, ok_x4, rf_x4, ok_x5, rf_x5, ok_x6, rf_x6, as_fdd, ai_fdd, xa_fdd, rd_fdd, ok_h0 w hqT, rf_h0 w hqT, ok_h1 w hqT, rf_h1 w hqT, ok_h2 w hqT, ix_h2 w hqT, ok_h3 w hqT, ix_h3 w hqT, ok_h4 w hqT, ix_h4 w hqT, ar_sa w hqT, rf_sa w hqT, ar_oa w hqT, rf_oa w hqT, hw_0, hw_1, hw_2, hu_0, hu_1, hu_2, on_vw, on_f, se_vw, se_f, vw_pv, pv_pv, ost_uI, sst_uI, sit_d, may_d, far_d, stay_d, goe_d, stp_d, hOk_h w hqT, hq_hA, hlt, ar_sh, rf_sh, h4, ok_st0 w hs, rf_st0 w hs, ok_st1 w hs, ix_st1 w hs, ok_st2 w hs, ix_st2 w hs, aj_sn w hs, xj_sn w hs, tOk_st w hs, tq_stA, hv6, hNi, ok_se0 w hqT h6, ix_se0 w hqT h6, ok_se1 w hqT h6, ix_se1 w hqT h6, ok_se2 w hqT h6, ix_se2 w hqT h6, eOk_se w hqT h6, fo_se w hqT h6, vr, pX3_put, hv40, mX3_put, hsm]
    exact key
theorem vX5_roll (w : WW) : VX5_roll w := by
  intro s n u hw h
  obtain ⟨hI, hS⟩ := h
  have hv : Hv (vw u (91 * qP)) := hI.1
  have hO := hv.1
  have hT := Tr_Hv hv
  have l := Tr_lv hO
  by_cases c : isSh s
  · have h4 := isSh_vi c
    have hs : NN s < 4 := vi_lt h4
    obtain ⟨m, hm, em⟩ := hS (NN s) hs
    obtain ⟨M, hM, eM⟩ := hO.1
    have eN : NN (vw u (91 * qP) 1) = M := by rw [eM, NN_nI (by omega)]
    have eK : NN (u.1 (430 + 2 * NN s + 1)) = m := by rw [em, NN_nI (by omega)]
    have emin := min_nI (a := m) (b := M) (by omega) (by omega)
    by_cases b0 : u.1 (430 + 2 * NN s) = 0
    · simp only [eX5_roll_0, eX5_roll_1, eX5_roll_4, eX5_roll_7, eX5_roll_8, eX5_roll_9, eX5_roll_12, eX5_roll_13, eX5_roll_14, eX5_roll_17, eX5_roll_18, eX5_roll_19, eX5_roll_22, eX5_roll_25, eX5_roll_26, eX5_roll_27, eX5_roll_30, eX5_roll_31, eX5_roll_32, eX5_roll_33, eX5_roll_36, eX5_roll_39, eX5_roll_42, eX5_roll_43, eX5_roll_44, eX5_roll_47, eX5_roll_48, eX5_roll_49, eX5_roll_50, eX5_roll_53, eX5_roll_56, eX5_roll_57, eX5_roll_58, eX5_roll_61, eX5_roll_62, eX5_roll_63, eX5_roll_66, eX5_roll_67, eX5_roll_70, eX5_roll_73, eX5_roll_74, eX5_roll_77, eX5_roll_78, eX5_roll_81, eX5_roll_82, eX5_roll_85, eX5_roll_86, eX5_roll_87, eX5_roll_90, eX5_roll_91, eX5_roll_94, eX5_roll_97, eX5_roll_100, eX5_roll_101, eX5_roll_102, eX5_roll_106, eX5_roll_107, eX5_roll_110, eX5_roll_111, eX5_roll_114, eX5_roll_115, eX5_roll_116, eX5_roll_118, eX5_roll_119, eX5_roll_122, eX5_roll_125, eX5_roll_127, eX5_roll_128, eX5_roll_131, eX5_roll_132, eX5_roll_135, eX5_roll_138, eX5_roll_141, eX5_roll_142, kl_i, kl_r, kl_n, kl_l, true_and, and_true, true_implies, false_implies, not_true_eq_false, not_false_eq_true, i10, Classical.not_not, ok_x0, rfP, ok_x1, rfT, ok_x2, rfK, ok_x3, ix_x3, ok_x4, rf_x4, ok_x5, rf_x5, ok_x6, rf_x6, as_fdd, ai_fdd, xa_fdd, rd_fdd, ok_h0 w hqP, rf_h0 w hqP, ok_h1 w hqP, rf_h1 w hqP, ok_h2 w hqP, ix_h2 w hqP, ok_h3 w hqP, ix_h3 w hqP, ok_h4 w hqP, ix_h4 w hqP, ar_sa w hqP, rf_sa w hqP, ar_oa w hqP, rf_oa w hqP, hw_0, hw_1, hw_2, hu_0, hu_1, hu_2, on_vw, on_f, se_vw, se_f, vw_pv, pv_pv, ost_uI, sst_uI, sit_d, may_d, far_d, stay_d, goe_d, stp_d, hOk_h w hqP, hq_hA, pX5_finding, mX5_finding, rfx0, rfx1, rfx2, rfx3, rfx4, rfx5, rfx6, N_0, N_1, N_2, N_3, N_4, N_5, N_6, v7_0, v7_1, v7_2, v7_3, v7_4, v7_5, v7_6, pX5_isSheet, rX5_isSheet, bi_t c, ar_sh, rf_sh, h4, ok_st0 w hs, rf_st0 w hs, ok_st1 w hs, ix_st1 w hs, ok_st2 w hs, ix_st2 w hs, aj_sn w hs, xj_sn w hs, tOk_st w hs, tq_stA, pX3_isMissing, rX3_isMissing, bi_t b0, rX5_roll, mX5_roll, Option.some.injEq, Value.int.injEq]
      exact nfq5 (by rw [rlNo, if_neg (fun z => z c), if_pos b0])
    · by_cases d : 0 ≤ n ∧ n ≤ 200
      · have hG := goP_Hv hT (NN n)
        have g1 : goP (NN n) (Tr u) 1 = nI M := (goP_12 _).1.trans (l.2.1.symm.trans eM)
        have hsc := stT_Tsc (u := u) (fun i hi => goP_hi hT.1 hi (NN n))
        have e5 : (stT u (goP (NN n) (Tr u))).1 (430 + 2 * NN s + 1) = nI m := (hsc.2 _ (by omega)).trans em
        simp only [eX5_roll_0, eX5_roll_1, eX5_roll_4, eX5_roll_7, eX5_roll_8, eX5_roll_9, eX5_roll_12, eX5_roll_13, eX5_roll_14, eX5_roll_17, eX5_roll_18, eX5_roll_19, eX5_roll_22, eX5_roll_25, eX5_roll_26, eX5_roll_27, eX5_roll_30, eX5_roll_31, eX5_roll_32, eX5_roll_33, eX5_roll_36, eX5_roll_39, eX5_roll_42, eX5_roll_43, eX5_roll_44, eX5_roll_47, eX5_roll_48, eX5_roll_49, eX5_roll_50, eX5_roll_53, eX5_roll_56, eX5_roll_57, eX5_roll_58, eX5_roll_61, eX5_roll_62, eX5_roll_63, eX5_roll_66, eX5_roll_67, eX5_roll_70, eX5_roll_73, eX5_roll_74, eX5_roll_77, eX5_roll_78, eX5_roll_81, eX5_roll_82, eX5_roll_85, eX5_roll_86, eX5_roll_87, eX5_roll_90, eX5_roll_91, eX5_roll_94, eX5_roll_97, eX5_roll_100, eX5_roll_101, eX5_roll_102, eX5_roll_106, eX5_roll_107, eX5_roll_110, eX5_roll_111, eX5_roll_114, eX5_roll_115, eX5_roll_116, eX5_roll_118, eX5_roll_119, eX5_roll_122, eX5_roll_125, eX5_roll_127, eX5_roll_128, eX5_roll_131, eX5_roll_132, eX5_roll_135, eX5_roll_138, eX5_roll_141, eX5_roll_142, kl_i, kl_r, kl_n, kl_l, true_and, and_true, true_implies, false_implies, not_true_eq_false, not_false_eq_true, i10, Classical.not_not, ok_x0, rfP, ok_x1, rfT, ok_x2, rfK, ok_x3, ix_x3, ok_x4, rf_x4, ok_x5, rf_x5, ok_x6, rf_x6, as_fdd, ai_fdd, xa_fdd, rd_fdd, ok_h0 w hqP, rf_h0 w hqP, ok_h1 w hqP, rf_h1 w hqP, ok_h2 w hqP, ix_h2 w hqP, ok_h3 w hqP, ix_h3 w hqP, ok_h4 w hqP, ix_h4 w hqP, ar_sa w hqP, rf_sa w hqP, ar_oa w hqP, rf_oa w hqP, hw_0, hw_1, hw_2, hu_0, hu_1, hu_2, on_vw, on_f, se_vw, se_f, vw_pv, pv_pv, ost_uI, sst_uI, sit_d, may_d, far_d, stay_d, goe_d, stp_d, hOk_h w hqP, hq_hA, ok_h0 w hqT, rf_h0 w hqT, ok_h1 w hqT, rf_h1 w hqT, ok_h2 w hqT, ix_h2 w hqT, ok_h3 w hqT, ix_h3 w hqT, ok_h4 w hqT, ix_h4 w hqT, ar_sa w hqT, rf_sa w hqT, ar_oa w hqT, rf_oa w hqT, hw_0, hw_1, hw_2, hu_0, hu_1, hu_2, on_vw, on_f, se_vw, se_f, vw_pv, pv_pv, ost_uI, sst_uI, sit_d, may_d, far_d, stay_d, goe_d, stp_d, hOk_h w hqT, hq_hA, pX5_finding, mX5_finding, rfx0, rfx1, rfx2, rfx3, rfx4, rfx5, rfx6, N_0, N_1, N_2, N_3, N_4, N_5, N_6, v7_0, v7_1, v7_2, v7_3, v7_4, v7_5, v7_6, pX5_isSheet, rX5_isSheet, bi_t c, ar_sh, rf_sh, h4, ok_st0 w hs, rf_st0 w hs, ok_st1 w hs, ix_st1 w hs, ok_st2 w hs, ix_st2 w hs, aj_sn w hs, xj_sn w hs, tOk_st w hs, tq_stA, pX3_isMissing, rX3_isMissing, bi_f b0, pX5_isFromTo, rX5_isFromTo, bi_t d, bi_0, pX5_isTooLateFor, eq_true hI, eq_true d, rX5_isTooLateFor, pX0_become, neTP, eq_true hO, pX0_pass, hw, eq_true hT, pass_bec, vw_stT, e5, g1, pJ9_min_7cf53, rJ9_min_7cf53, emin, rX5_roll, mX5_roll]
        refine ⟨fun f => ?_, fun f => toV (nfq4 (by rw [rlNo, if_neg (fun z => z c), if_neg b0, if_neg (fun z => z d), if_pos f]))⟩
        have e0 : rlNo s n (u.1 (430 + 2 * NN s)) (vw u (91 * qP)) = none := by rw [rlNo, if_neg (fun z => z c), if_neg b0, if_neg (fun z => z d), if_neg f]
        rw [e0, eN, eK]
        have key := lX5_roll (w := w) hG h4 (N := min M m) (by rw [g1, NN_nI (by omega)]; exact Nat.min_le_left _ _) (by omega) (Q := fun r u' => r = some (.int (nf none (nI (min M m)))) ∧ u' = nfX none u (rlJ (stT u (goP (NN n) (Tr u))) (goP (NN n) (Tr u)) (40 * NN s) (min M m))) ⟨rfl, rfl⟩ (min M m) 0 (by omega)
        rw [rlJ_0] at key
        exact key
      · simp only [eX5_roll_0, eX5_roll_1, eX5_roll_4, eX5_roll_7, eX5_roll_8, eX5_roll_9, eX5_roll_12, eX5_roll_13, eX5_roll_14, eX5_roll_17, eX5_roll_18, eX5_roll_19, eX5_roll_22, eX5_roll_25, eX5_roll_26, eX5_roll_27, eX5_roll_30, eX5_roll_31, eX5_roll_32, eX5_roll_33, eX5_roll_36, eX5_roll_39, eX5_roll_42, eX5_roll_43, eX5_roll_44, eX5_roll_47, eX5_roll_48, eX5_roll_49, eX5_roll_50, eX5_roll_53, eX5_roll_56, eX5_roll_57, eX5_roll_58, eX5_roll_61, eX5_roll_62, eX5_roll_63, eX5_roll_66, eX5_roll_67, eX5_roll_70, eX5_roll_73, eX5_roll_74, eX5_roll_77, eX5_roll_78, eX5_roll_81, eX5_roll_82, eX5_roll_85, eX5_roll_86, eX5_roll_87, eX5_roll_90, eX5_roll_91, eX5_roll_94, eX5_roll_97, eX5_roll_100, eX5_roll_101, eX5_roll_102, eX5_roll_106, eX5_roll_107, eX5_roll_110, eX5_roll_111, eX5_roll_114, eX5_roll_115, eX5_roll_116, eX5_roll_118, eX5_roll_119, eX5_roll_122, eX5_roll_125, eX5_roll_127, eX5_roll_128, eX5_roll_131, eX5_roll_132, eX5_roll_135, eX5_roll_138, eX5_roll_141, eX5_roll_142, kl_i, kl_r, kl_n, kl_l, true_and, and_true, true_implies, false_implies, not_true_eq_false, not_false_eq_true, i10, Classical.not_not, ok_x0, rfP, ok_x1, rfT, ok_x2, rfK, ok_x3, ix_x3, ok_x4, rf_x4, ok_x5, rf_x5, ok_x6, rf_x6, as_fdd, ai_fdd, xa_fdd, rd_fdd, ok_h0 w hqP, rf_h0 w hqP, ok_h1 w hqP, rf_h1 w hqP, ok_h2 w hqP, ix_h2 w hqP, ok_h3 w hqP, ix_h3 w hqP, ok_h4 w hqP, ix_h4 w hqP, ar_sa w hqP, rf_sa w hqP, ar_oa w hqP, rf_oa w hqP, hw_0, hw_1, hw_2, hu_0, hu_1, hu_2, on_vw, on_f, se_vw, se_f, vw_pv, pv_pv, ost_uI, sst_uI, sit_d, may_d, far_d, stay_d, goe_d, stp_d, hOk_h w hqP, hq_hA, pX5_finding, mX5_finding, rfx0, rfx1, rfx2, rfx3, rfx4, rfx5, rfx6, N_0, N_1, N_2, N_3, N_4, N_5, N_6, v7_0, v7_1, v7_2, v7_3, v7_4, v7_5, v7_6, pX5_isSheet, rX5_isSheet, bi_t c, ar_sh, rf_sh, h4, ok_st0 w hs, rf_st0 w hs, ok_st1 w hs, ix_st1 w hs, ok_st2 w hs, ix_st2 w hs, aj_sn w hs, xj_sn w hs, tOk_st w hs, tq_stA, pX3_isMissing, rX3_isMissing, bi_f b0, pX5_isFromTo, rX5_isFromTo, bi_f d, rX5_roll, mX5_roll, Option.some.injEq, Value.int.injEq]
        exact nfq0 (by rw [rlNo, if_neg (fun z => z c), if_neg b0, if_pos d])
  · simp only [eX5_roll_0, eX5_roll_1, eX5_roll_4, eX5_roll_7, eX5_roll_8, eX5_roll_9, eX5_roll_12, eX5_roll_13, eX5_roll_14, eX5_roll_17, eX5_roll_18, eX5_roll_19, eX5_roll_22, eX5_roll_25, eX5_roll_26, eX5_roll_27, eX5_roll_30, eX5_roll_31, eX5_roll_32, eX5_roll_33, eX5_roll_36, eX5_roll_39, eX5_roll_42, eX5_roll_43, eX5_roll_44, eX5_roll_47, eX5_roll_48, eX5_roll_49, eX5_roll_50, eX5_roll_53, eX5_roll_56, eX5_roll_57, eX5_roll_58, eX5_roll_61, eX5_roll_62, eX5_roll_63, eX5_roll_66, eX5_roll_67, eX5_roll_70, eX5_roll_73, eX5_roll_74, eX5_roll_77, eX5_roll_78, eX5_roll_81, eX5_roll_82, eX5_roll_85, eX5_roll_86, eX5_roll_87, eX5_roll_90, eX5_roll_91, eX5_roll_94, eX5_roll_97, eX5_roll_100, eX5_roll_101, eX5_roll_102, eX5_roll_106, eX5_roll_107, eX5_roll_110, eX5_roll_111, eX5_roll_114, eX5_roll_115, eX5_roll_116, eX5_roll_118, eX5_roll_119, eX5_roll_122, eX5_roll_125, eX5_roll_127, eX5_roll_128, eX5_roll_131, eX5_roll_132, eX5_roll_135, eX5_roll_138, eX5_roll_141, eX5_roll_142, kl_i, kl_r, kl_n, kl_l, true_and, and_true, true_implies, false_implies, not_true_eq_false, not_false_eq_true, i10, Classical.not_not, ok_x0, rfP, ok_x1, rfT, ok_x2, rfK, ok_x3, ix_x3, ok_x4, rf_x4, ok_x5, rf_x5, ok_x6, rf_x6, as_fdd, ai_fdd, xa_fdd, rd_fdd, pX5_finding, mX5_finding, rfx0, rfx1, rfx2, rfx3, rfx4, rfx5, rfx6, N_0, N_1, N_2, N_3, N_4, N_5, N_6, v7_0, v7_1, v7_2, v7_3, v7_4, v7_5, v7_6, pX5_isSheet, rX5_isSheet, bi_f c, rX5_roll, mX5_roll, Option.some.injEq, Value.int.injEq]
    exact nfq0 (by rw [rlNo, if_pos c])
set_option maxRecDepth 20000 in
theorem KX5_roll_ok (w : WW) : KOk w MX5_roll (KX5_roll w) := KOk_mk flX5_ok ciX5_ok clX5_ok (fun _ _ h => by cases h) (fun _ _ h => by cases h) (List.forall_mem_cons.mpr ⟨itV (n := 52) (by decide) (COk_V (n := 1) (ci := 5) (ctX5_finding w) wcX5_52 nmX5_finding (by decide) (by decide) rfl (prX5_finding w)), List.forall_mem_cons.mpr ⟨itV (n := 169) (by decide) (COk_V (n := 1) (ci := 5) (ctX5_isTooLateFor w) wcX5_169 nmX5_isTooLateFor (by decide) (by decide) rfl (prX5_isTooLateFor w)), List.forall_mem_cons.mpr ⟨itV (n := 172) (by decide) (COk_V (n := 1) (ci := 0) (ctX0_become w) wcX5_172 nmX0_become (by decide) (by decide) rfl (prX0_become w)), List.forall_mem_cons.mpr ⟨itV (n := 176) (by decide) (COk_V (n := 1) (ci := 0) (ctX0_pass w) wcX5_176 nmX0_pass (by decide) (by decide) rfl (prX0_pass w)), List.forall_mem_cons.mpr ⟨itV (n := 235) (by decide) (COk_V (n := 0) (ci := 3) (ctX3_isMissing w) wcX5_235 nmX3_isMissing (by decide) (by decide) rfl (prX3_isMissing w)), List.forall_mem_cons.mpr ⟨itV (n := 242) (by decide) (COk_V (n := 2) (ci := 3) (ctX3_put w) wcX5_242 nmX3_put (by decide) (by decide) rfl (prX3_put w)), List.forall_mem_cons.mpr ⟨itS (n := 48) (COk_S (n := 3) (ctX5_isFromTo w) wcX5_65584 nmX5_isFromTo (by decide)), List.forall_mem_cons.mpr ⟨itS (n := 227) (COk_S (n := 1) (ctX5_isSheet w) wcX5_65763 nmX5_isSheet (by decide)), List.forall_mem_cons.mpr ⟨itS (n := 259) (COk_S (n := 2) (ctJ9_min_7cf53 w) wcX5_65795 nmJ9_min_7cf53 (by decide)), List.forall_mem_nil _⟩⟩⟩⟩⟩⟩⟩⟩⟩)
theorem ctX5_roll (w : WW) : CT w yX5_roll MX5_roll (csX5_roll w).2.1 (csX5_roll w).2.2 := by
  refine CT_of (by decide) rfl TX5_roll_ok TX5_roll_v (KX5_roll_ok w) (fun as u h => ?_)
  obtain ⟨a0, a1, a2, rfl, h⟩ := sgRII h
  obtain ⟨rfl, hwok, hh⟩ := h
  refine ⟨Nat.le_of_ble_eq_true rfl, ?_⟩
  have key := vX5_roll w a1 a2 u hwok hh
  exact key
theorem prX5_roll (w : WW) : ∀ as u, (csX5_roll w).2.1 as u → ∃ a r, as = .ref a :: r ∧ r.length = 2 ∧ okO w a 5 := by
  intro as u h
  obtain ⟨a0, a1, a2, rfl, h⟩ := sgRII h
  exact ⟨_, _, rfl, rfl, okO_x h⟩
theorem lX5_read {w : WW} (hw : wOk w) {s e : Int32} {u : MM} (h4 : vp_in s 4) (h6 : vp_in e 6) {N : Nat} (hN : N ≤ 40) (em : u.1 (430 + 2 * NN s + 1) = nI N) {Q : Option Value → MM → Prop} :
    ∀ (f k : Nat) (R : Nat → Int32), k + f = N → Hv R → (∀ i, 91 ≤ i → R i = Tr u i) → Q (some (.int (rdW (Z5 u s) (NN e) k f R).1)) (stT u (rdX (Z5 u s) (NN e) k f R)) → GX5_read w Q 73 [some (.ref (xA w)), some (.int s), some (.int e), some (.int (nI k))] [] (stT u R) := by
  have hs : NN s < 4 := vi_lt h4
  have he : NN e < 6 := vi_lt h6
  intro f
  induction f with
  | zero =>
    intro k R hk hR hhi hQ
    have e1 : (stT u R).1 (430 + 2 * NN s + 1) = nI N := ((stT_Tsc hhi).2 _ (by omega)).trans em
    have ek : k = N := by omega
    subst ek
    have hle : nI k ≤ nI k := nI_le (Nat.le_refl k) (by omega)
    rw [eX5_read_73]
    simp only [eX5_read_0, eX5_read_1, eX5_read_4, eX5_read_7, eX5_read_8, eX5_read_9, eX5_read_12, eX5_read_13, eX5_read_14, eX5_read_17, eX5_read_18, eX5_read_19, eX5_read_22, eX5_read_25, eX5_read_26, eX5_read_27, eX5_read_30, eX5_read_31, eX5_read_32, eX5_read_33, eX5_read_36, eX5_read_39, eX5_read_40, eX5_read_41, eX5_read_44, eX5_read_45, eX5_read_46, eX5_read_48, eX5_read_51, eX5_read_54, eX5_read_55, eX5_read_56, eX5_read_59, eX5_read_60, eX5_read_61, eX5_read_64, eX5_read_65, eX5_read_68, eX5_read_71, eX5_read_72, eX5_read_74, eX5_read_75, eX5_read_78, eX5_read_79, eX5_read_80, eX5_read_83, eX5_read_86, eX5_read_87, eX5_read_90, eX5_read_91, eX5_read_92, eX5_read_95, eX5_read_96, eX5_read_97, eX5_read_98, eX5_read_101, eX5_read_104, eX5_read_105, eX5_read_106, eX5_read_109, eX5_read_110, eX5_read_111, eX5_read_114, eX5_read_115, eX5_read_116, eX5_read_117, eX5_read_118, eX5_read_119, eX5_read_122, eX5_read_123, eX5_read_126, eX5_read_129, eX5_read_132, eX5_read_133, kl_i, kl_r, kl_n, kl_l, true_and, and_true, true_implies, false_implies, not_true_eq_false, not_false_eq_true, i10, Classical.not_not, ok_x0, rfP, ok_x1, rfT, ok_x2, rfK, ok_x3, ix_x3, ok_x4, rf_x4, ok_x5, rf_x5, ok_x6, rf_x6, as_fdd, ai_fdd, xa_fdd, rd_fdd, ar_sh, rf_sh, h4, ok_st0 w hs, rf_st0 w hs, ok_st1 w hs, ix_st1 w hs, ok_st2 w hs, ix_st2 w hs, aj_sn w hs, xj_sn w hs, tOk_st w hs, e1, hle]
    exact hQ
  | succ f ih =>
    intro k R hk hR hhi hQ
    have e1 : (stT u R).1 (430 + 2 * NN s + 1) = nI N := ((stT_Tsc hhi).2 _ (by omega)).trans em
    have e2 : (stT u R).2 = u.2 := rfl
    have hlt : ¬ nI N ≤ nI k := nI_ge (by omega) (by omega)
    have hv40 : vp_in (nI k) 40 := vi_nI (by omega)
    have hNk : NN (nI k) = k := NN_nI (by omega)
    have eZ : u.2 (40 * NN s + k) = Z5 u s k := rfl
    have ea : (1 : Int32) + nI k = nI (k + 1) := by rw [Int32.add_comm, nI_1]
    rw [eX5_read_73]
    simp only [eX5_read_0, eX5_read_1, eX5_read_4, eX5_read_7, eX5_read_8, eX5_read_9, eX5_read_12, eX5_read_13, eX5_read_14, eX5_read_17, eX5_read_18, eX5_read_19, eX5_read_22, eX5_read_25, eX5_read_26, eX5_read_27, eX5_read_30, eX5_read_31, eX5_read_32, eX5_read_33, eX5_read_36, eX5_read_39, eX5_read_40, eX5_read_41, eX5_read_44, eX5_read_45, eX5_read_46, eX5_read_48, eX5_read_51, eX5_read_54, eX5_read_55, eX5_read_56, eX5_read_59, eX5_read_60, eX5_read_61, eX5_read_64, eX5_read_65, eX5_read_68, eX5_read_71, eX5_read_72, eX5_read_74, eX5_read_75, eX5_read_78, eX5_read_79, eX5_read_80, eX5_read_83, eX5_read_86, eX5_read_87, eX5_read_90, eX5_read_91, eX5_read_92, eX5_read_95, eX5_read_96, eX5_read_97, eX5_read_98, eX5_read_101, eX5_read_104, eX5_read_105, eX5_read_106, eX5_read_109, eX5_read_110, eX5_read_111, eX5_read_114, eX5_read_115, eX5_read_116, eX5_read_117, eX5_read_118, eX5_read_119, eX5_read_122, eX5_read_123, eX5_read_126, eX5_read_129, eX5_read_132, eX5_read_133, kl_i, kl_r, kl_n, kl_l, true_and, and_true, true_implies, false_implies, not_true_eq_false, not_false_eq_true, i10, Classical.not_not, ok_x0, rfP, ok_x1, rfT, ok_x2, rfK, ok_x3, ix_x3, ok_x4, rf_x4, ok_x5, rf_x5, ok_x6, rf_x6, as_fdd, ai_fdd, xa_fdd, rd_fdd, ok_h0 w hqT, rf_h0 w hqT, ok_h1 w hqT, rf_h1 w hqT, ok_h2 w hqT, ix_h2 w hqT, ok_h3 w hqT, ix_h3 w hqT, ok_h4 w hqT, ix_h4 w hqT, ar_sa w hqT, rf_sa w hqT, ar_oa w hqT, rf_oa w hqT, hw_0, hw_1, hw_2, hu_0, hu_1, hu_2, on_vw, on_f, se_vw, se_f, vw_pv, pv_pv, ost_uI, sst_uI, sit_d, may_d, far_d, stay_d, goe_d, stp_d, hOk_h w hqT, hq_hA, ar_sh, rf_sh, h4, ok_st0 w hs, rf_st0 w hs, ok_st1 w hs, ix_st1 w hs, ok_st2 w hs, ix_st2 w hs, aj_sn w hs, xj_sn w hs, tOk_st w hs, e1, hlt, hv40, hNk, e2, eZ, h6, ok_se0 w hqT he, ix_se0 w hqT he, ok_se1 w hqT he, ix_se1 w hqT he, ok_se2 w hqT he, ix_se2 w hqT he, eOk_se w hqT he, fo_se w hqT he, vw_stT, lgc_0, ea, pX0_pass, hw, eq_true hR, pass1]
    refine ⟨fun d => ?_, fun d => ?_⟩
    · rw [rdW, rdX, if_pos d, if_pos d] at hQ
      rw [nI_1]
      exact ih (k + 1) (secP R) (by omega) (secP_Hv hR) (fun i hi => (secP_hi hR.1 hi).trans (hhi i hi)) hQ
    · rw [rdW, rdX, if_neg d, if_neg d] at hQ
      exact hQ
theorem vX5_read (w : WW) : VX5_read w := by
  intro s e u hw h
  obtain ⟨hI, hS⟩ := h
  have hv : Hv (vw u (91 * qP)) := hI.1
  have hO := hv.1
  have hT := Tr_Hv hv
  have l := Tr_lv hO
  have d0 : (0 : Int32) ≤ 40 ∧ (40 : Int32) ≤ 200 := ⟨by decide, by decide⟩
  by_cases c : isSh s
  · have h4 := isSh_vi c
    have hs : NN s < 4 := vi_lt h4
    obtain ⟨m, hm, em⟩ := hS (NN s) hs
    have eK : NN (u.1 (430 + 2 * NN s + 1)) = m := by rw [em, NN_nI (by omega)]
    by_cases b0 : u.1 (430 + 2 * NN s) = 0
    · simp only [eX5_read_0, eX5_read_1, eX5_read_4, eX5_read_7, eX5_read_8, eX5_read_9, eX5_read_12, eX5_read_13, eX5_read_14, eX5_read_17, eX5_read_18, eX5_read_19, eX5_read_22, eX5_read_25, eX5_read_26, eX5_read_27, eX5_read_30, eX5_read_31, eX5_read_32, eX5_read_33, eX5_read_36, eX5_read_39, eX5_read_40, eX5_read_41, eX5_read_44, eX5_read_45, eX5_read_46, eX5_read_48, eX5_read_51, eX5_read_54, eX5_read_55, eX5_read_56, eX5_read_59, eX5_read_60, eX5_read_61, eX5_read_64, eX5_read_65, eX5_read_68, eX5_read_71, eX5_read_72, eX5_read_74, eX5_read_75, eX5_read_78, eX5_read_79, eX5_read_80, eX5_read_83, eX5_read_86, eX5_read_87, eX5_read_90, eX5_read_91, eX5_read_92, eX5_read_95, eX5_read_96, eX5_read_97, eX5_read_98, eX5_read_101, eX5_read_104, eX5_read_105, eX5_read_106, eX5_read_109, eX5_read_110, eX5_read_111, eX5_read_114, eX5_read_115, eX5_read_116, eX5_read_117, eX5_read_118, eX5_read_119, eX5_read_122, eX5_read_123, eX5_read_126, eX5_read_129, eX5_read_132, eX5_read_133, kl_i, kl_r, kl_n, kl_l, true_and, and_true, true_implies, false_implies, not_true_eq_false, not_false_eq_true, i10, Classical.not_not, ok_x0, rfP, ok_x1, rfT, ok_x2, rfK, ok_x3, ix_x3, ok_x4, rf_x4, ok_x5, rf_x5, ok_x6, rf_x6, as_fdd, ai_fdd, xa_fdd, rd_fdd, ok_h0 w hqP, rf_h0 w hqP, ok_h1 w hqP, rf_h1 w hqP, ok_h2 w hqP, ix_h2 w hqP, ok_h3 w hqP, ix_h3 w hqP, ok_h4 w hqP, ix_h4 w hqP, ar_sa w hqP, rf_sa w hqP, ar_oa w hqP, rf_oa w hqP, hw_0, hw_1, hw_2, hu_0, hu_1, hu_2, on_vw, on_f, se_vw, se_f, vw_pv, pv_pv, ost_uI, sst_uI, sit_d, may_d, far_d, stay_d, goe_d, stp_d, hOk_h w hqP, hq_hA, pX5_finding, mX5_finding, rfx0, rfx1, rfx2, rfx3, rfx4, rfx5, rfx6, N_0, N_1, N_2, N_3, N_4, N_5, N_6, v7_0, v7_1, v7_2, v7_3, v7_4, v7_5, v7_6, pX5_isSheet, rX5_isSheet, bi_t c, ar_sh, rf_sh, h4, ok_st0 w hs, rf_st0 w hs, ok_st1 w hs, ix_st1 w hs, ok_st2 w hs, ix_st2 w hs, aj_sn w hs, xj_sn w hs, tOk_st w hs, tq_stA, pX3_isMissing, rX3_isMissing, bi_t b0, rX5_read, mX5_read, Option.some.injEq, Value.int.injEq]
      exact nfq5 (by rw [rdNo, if_neg (fun z => z c), if_pos b0])
    · by_cases d : isSt (vw u (91 * qP)) e
      · have he := (isSt_vi hO).mp d
        have h6 : vp_in e 6 := vi_mono he hO.M.1
        simp only [eX5_read_0, eX5_read_1, eX5_read_4, eX5_read_7, eX5_read_8, eX5_read_9, eX5_read_12, eX5_read_13, eX5_read_14, eX5_read_17, eX5_read_18, eX5_read_19, eX5_read_22, eX5_read_25, eX5_read_26, eX5_read_27, eX5_read_30, eX5_read_31, eX5_read_32, eX5_read_33, eX5_read_36, eX5_read_39, eX5_read_40, eX5_read_41, eX5_read_44, eX5_read_45, eX5_read_46, eX5_read_48, eX5_read_51, eX5_read_54, eX5_read_55, eX5_read_56, eX5_read_59, eX5_read_60, eX5_read_61, eX5_read_64, eX5_read_65, eX5_read_68, eX5_read_71, eX5_read_72, eX5_read_74, eX5_read_75, eX5_read_78, eX5_read_79, eX5_read_80, eX5_read_83, eX5_read_86, eX5_read_87, eX5_read_90, eX5_read_91, eX5_read_92, eX5_read_95, eX5_read_96, eX5_read_97, eX5_read_98, eX5_read_101, eX5_read_104, eX5_read_105, eX5_read_106, eX5_read_109, eX5_read_110, eX5_read_111, eX5_read_114, eX5_read_115, eX5_read_116, eX5_read_117, eX5_read_118, eX5_read_119, eX5_read_122, eX5_read_123, eX5_read_126, eX5_read_129, eX5_read_132, eX5_read_133, kl_i, kl_r, kl_n, kl_l, true_and, and_true, true_implies, false_implies, not_true_eq_false, not_false_eq_true, i10, Classical.not_not, ok_x0, rfP, ok_x1, rfT, ok_x2, rfK, ok_x3, ix_x3, ok_x4, rf_x4, ok_x5, rf_x5, ok_x6, rf_x6, as_fdd, ai_fdd, xa_fdd, rd_fdd, ok_h0 w hqP, rf_h0 w hqP, ok_h1 w hqP, rf_h1 w hqP, ok_h2 w hqP, ix_h2 w hqP, ok_h3 w hqP, ix_h3 w hqP, ok_h4 w hqP, ix_h4 w hqP, ar_sa w hqP, rf_sa w hqP, ar_oa w hqP, rf_oa w hqP, hw_0, hw_1, hw_2, hu_0, hu_1, hu_2, on_vw, on_f, se_vw, se_f, vw_pv, pv_pv, ost_uI, sst_uI, sit_d, may_d, far_d, stay_d, goe_d, stp_d, hOk_h w hqP, hq_hA, ok_h0 w hqT, rf_h0 w hqT, ok_h1 w hqT, rf_h1 w hqT, ok_h2 w hqT, ix_h2 w hqT, ok_h3 w hqT, ix_h3 w hqT, ok_h4 w hqT, ix_h4 w hqT, ar_sa w hqT, rf_sa w hqT, ar_oa w hqT, rf_oa w hqT, hw_0, hw_1, hw_2, hu_0, hu_1, hu_2, on_vw, on_f, se_vw, se_f, vw_pv, pv_pv, ost_uI, sst_uI, sit_d, may_d, far_d, stay_d, goe_d, stp_d, hOk_h w hqT, hq_hA, pX5_finding, mX5_finding, rfx0, rfx1, rfx2, rfx3, rfx4, rfx5, rfx6, N_0, N_1, N_2, N_3, N_4, N_5, N_6, v7_0, v7_1, v7_2, v7_3, v7_4, v7_5, v7_6, pX5_isSheet, rX5_isSheet, bi_t c, ar_sh, rf_sh, h4, ok_st0 w hs, rf_st0 w hs, ok_st1 w hs, ix_st1 w hs, ok_st2 w hs, ix_st2 w hs, aj_sn w hs, xj_sn w hs, tOk_st w hs, tq_stA, pX3_isMissing, rX3_isMissing, bi_f b0, pX5_isSeat, rX5_isSeat, bi_t d, bi_0, pX5_isTooLateFor, eq_true hI, eq_true d0, rX5_isTooLateFor, pX0_become, neTP, eq_true hO, rX5_read, mX5_read]
        refine ⟨fun f => ?_, fun f => toV (nfq4 (by rw [rdNo, if_neg (fun z => z c), if_neg b0, if_neg (fun z => z d), if_pos f]))⟩
        have e0 : rdNo s e (u.1 (430 + 2 * NN s)) (vw u (91 * qP)) = none := by rw [rdNo, if_neg (fun z => z c), if_neg b0, if_neg (fun z => z d), if_neg f]
        rw [e0, eK, bec_stT]
        have el := rdW_lv (Z := Z5 u s) (e := NN e) m 0 l hO (vi_lt he)
        exact lX5_read (w := w) hw h4 h6 hm em (Q := fun r u' => r = some (.int (nf none (rdW (Z5 u s) (NN e) 0 m (vw u (91 * qP))).1)) ∧ u' = nfX none u (stT u (rdX (Z5 u s) (NN e) 0 m (Tr u)))) m 0 (Tr u) (by omega) hT (fun _ _ => rfl) ⟨by rw [el]; rfl, rfl⟩
      · simp only [eX5_read_0, eX5_read_1, eX5_read_4, eX5_read_7, eX5_read_8, eX5_read_9, eX5_read_12, eX5_read_13, eX5_read_14, eX5_read_17, eX5_read_18, eX5_read_19, eX5_read_22, eX5_read_25, eX5_read_26, eX5_read_27, eX5_read_30, eX5_read_31, eX5_read_32, eX5_read_33, eX5_read_36, eX5_read_39, eX5_read_40, eX5_read_41, eX5_read_44, eX5_read_45, eX5_read_46, eX5_read_48, eX5_read_51, eX5_read_54, eX5_read_55, eX5_read_56, eX5_read_59, eX5_read_60, eX5_read_61, eX5_read_64, eX5_read_65, eX5_read_68, eX5_read_71, eX5_read_72, eX5_read_74, eX5_read_75, eX5_read_78, eX5_read_79, eX5_read_80, eX5_read_83, eX5_read_86, eX5_read_87, eX5_read_90, eX5_read_91, eX5_read_92, eX5_read_95, eX5_read_96, eX5_read_97, eX5_read_98, eX5_read_101, eX5_read_104, eX5_read_105, eX5_read_106, eX5_read_109, eX5_read_110, eX5_read_111, eX5_read_114, eX5_read_115, eX5_read_116, eX5_read_117, eX5_read_118, eX5_read_119, eX5_read_122, eX5_read_123, eX5_read_126, eX5_read_129, eX5_read_132, eX5_read_133, kl_i, kl_r, kl_n, kl_l, true_and, and_true, true_implies, false_implies, not_true_eq_false, not_false_eq_true, i10, Classical.not_not, ok_x0, rfP, ok_x1, rfT, ok_x2, rfK, ok_x3, ix_x3, ok_x4, rf_x4, ok_x5, rf_x5, ok_x6, rf_x6, as_fdd, ai_fdd, xa_fdd, rd_fdd, ok_h0 w hqP, rf_h0 w hqP, ok_h1 w hqP, rf_h1 w hqP, ok_h2 w hqP, ix_h2 w hqP, ok_h3 w hqP, ix_h3 w hqP, ok_h4 w hqP, ix_h4 w hqP, ar_sa w hqP, rf_sa w hqP, ar_oa w hqP, rf_oa w hqP, hw_0, hw_1, hw_2, hu_0, hu_1, hu_2, on_vw, on_f, se_vw, se_f, vw_pv, pv_pv, ost_uI, sst_uI, sit_d, may_d, far_d, stay_d, goe_d, stp_d, hOk_h w hqP, hq_hA, pX5_finding, mX5_finding, rfx0, rfx1, rfx2, rfx3, rfx4, rfx5, rfx6, N_0, N_1, N_2, N_3, N_4, N_5, N_6, v7_0, v7_1, v7_2, v7_3, v7_4, v7_5, v7_6, pX5_isSheet, rX5_isSheet, bi_t c, ar_sh, rf_sh, h4, ok_st0 w hs, rf_st0 w hs, ok_st1 w hs, ix_st1 w hs, ok_st2 w hs, ix_st2 w hs, aj_sn w hs, xj_sn w hs, tOk_st w hs, tq_stA, pX3_isMissing, rX3_isMissing, bi_f b0, pX5_isSeat, rX5_isSeat, bi_f d, rX5_read, mX5_read, Option.some.injEq, Value.int.injEq]
        exact nfq0 (by rw [rdNo, if_neg (fun z => z c), if_neg b0, if_pos d])
  · simp only [eX5_read_0, eX5_read_1, eX5_read_4, eX5_read_7, eX5_read_8, eX5_read_9, eX5_read_12, eX5_read_13, eX5_read_14, eX5_read_17, eX5_read_18, eX5_read_19, eX5_read_22, eX5_read_25, eX5_read_26, eX5_read_27, eX5_read_30, eX5_read_31, eX5_read_32, eX5_read_33, eX5_read_36, eX5_read_39, eX5_read_40, eX5_read_41, eX5_read_44, eX5_read_45, eX5_read_46, eX5_read_48, eX5_read_51, eX5_read_54, eX5_read_55, eX5_read_56, eX5_read_59, eX5_read_60, eX5_read_61, eX5_read_64, eX5_read_65, eX5_read_68, eX5_read_71, eX5_read_72, eX5_read_74, eX5_read_75, eX5_read_78, eX5_read_79, eX5_read_80, eX5_read_83, eX5_read_86, eX5_read_87, eX5_read_90, eX5_read_91, eX5_read_92, eX5_read_95, eX5_read_96, eX5_read_97, eX5_read_98, eX5_read_101, eX5_read_104, eX5_read_105, eX5_read_106, eX5_read_109, eX5_read_110, eX5_read_111, eX5_read_114, eX5_read_115, eX5_read_116, eX5_read_117, eX5_read_118, eX5_read_119, eX5_read_122, eX5_read_123, eX5_read_126, eX5_read_129, eX5_read_132, eX5_read_133, kl_i, kl_r, kl_n, kl_l, true_and, and_true, true_implies, false_implies, not_true_eq_false, not_false_eq_true, i10, Classical.not_not, ok_x0, rfP, ok_x1, rfT, ok_x2, rfK, ok_x3, ix_x3, ok_x4, rf_x4, ok_x5, rf_x5, ok_x6, rf_x6, as_fdd, ai_fdd, xa_fdd, rd_fdd, pX5_finding, mX5_finding, rfx0, rfx1, rfx2, rfx3, rfx4, rfx5, rfx6, N_0, N_1, N_2, N_3, N_4, N_5, N_6, v7_0, v7_1, v7_2, v7_3, v7_4, v7_5, v7_6, pX5_isSheet, rX5_isSheet, bi_f c, rX5_read, mX5_read, Option.some.injEq, Value.int.injEq]
    exact nfq0 (by rw [rdNo, if_pos c])
set_option maxRecDepth 20000 in
theorem KX5_read_ok (w : WW) : KOk w MX5_read (KX5_read w) := KOk_mk flX5_ok ciX5_ok clX5_ok (fun _ _ h => by cases h) (fun _ _ h => by cases h) (List.forall_mem_cons.mpr ⟨itV (n := 52) (by decide) (COk_V (n := 1) (ci := 5) (ctX5_finding w) wcX5_52 nmX5_finding (by decide) (by decide) rfl (prX5_finding w)), List.forall_mem_cons.mpr ⟨itV (n := 67) (by decide) (COk_V (n := 1) (ci := 5) (ctX5_isSeat w) wcX5_67 nmX5_isSeat (by decide) (by decide) rfl (prX5_isSeat w)), List.forall_mem_cons.mpr ⟨itV (n := 169) (by decide) (COk_V (n := 1) (ci := 5) (ctX5_isTooLateFor w) wcX5_169 nmX5_isTooLateFor (by decide) (by decide) rfl (prX5_isTooLateFor w)), List.forall_mem_cons.mpr ⟨itV (n := 172) (by decide) (COk_V (n := 1) (ci := 0) (ctX0_become w) wcX5_172 nmX0_become (by decide) (by decide) rfl (prX0_become w)), List.forall_mem_cons.mpr ⟨itV (n := 176) (by decide) (COk_V (n := 1) (ci := 0) (ctX0_pass w) wcX5_176 nmX0_pass (by decide) (by decide) rfl (prX0_pass w)), List.forall_mem_cons.mpr ⟨itV (n := 235) (by decide) (COk_V (n := 0) (ci := 3) (ctX3_isMissing w) wcX5_235 nmX3_isMissing (by decide) (by decide) rfl (prX3_isMissing w)), List.forall_mem_cons.mpr ⟨itS (n := 227) (COk_S (n := 1) (ctX5_isSheet w) wcX5_65763 nmX5_isSheet (by decide)), List.forall_mem_nil _⟩⟩⟩⟩⟩⟩⟩)
theorem ctX5_read (w : WW) : CT w yX5_read MX5_read (csX5_read w).2.1 (csX5_read w).2.2 := by
  refine CT_of (by decide) rfl TX5_read_ok TX5_read_v (KX5_read_ok w) (fun as u h => ?_)
  obtain ⟨a0, a1, a2, rfl, h⟩ := sgRII h
  obtain ⟨rfl, hwok, hh⟩ := h
  refine ⟨Nat.le_of_ble_eq_true rfl, ?_⟩
  have key := vX5_read w a1 a2 u hwok hh
  exact key
theorem prX5_read (w : WW) : ∀ as u, (csX5_read w).2.1 as u → ∃ a r, as = .ref a :: r ∧ r.length = 2 ∧ okO w a 5 := by
  intro as u h
  obtain ⟨a0, a1, a2, rfl, h⟩ := sgRII h
  exact ⟨_, _, rfl, rfl, okO_x h⟩
theorem eLoop_pE {q : Nat} (hq : q < 3) : ∀ (f n : Nat) (u : MM), pE q u → pE q (eLoop q f n u).2
  | 0, _, _, h => h
  | f + 1, n, u, h => by
    have hp := eItem_pE hq h
    rw [eLoop]
    split
    · exact hp
    · split
      · exact eLoop_pE hq f (n + 1) _ (adv_pE hq hp)
      · exact hp
theorem into_pE {q : Nat} (hq : q < 3) {u : MM} (hT : TX u) (hH : Hv (vw u (91 * q))) : pE q (mX4_enterInto q u) := by
  have e0 : uI u 284 0 = tx u (u.1 282, u.1 283, 0, u.1 285) := by
    have := tx_w4 u (tc u) 0
    rw [tx_tc] at this
    exact this
  have hT0 : TX (uI u 284 0) := by rw [e0]; exact (TX_tx _ _).mpr hT
  have hE0 : EX (uI u 284 0) := by rw [e0]; exact ⟨0, Nat.zero_le _, rfl⟩
  have hH0 : Hv (vw (uI u 284 0) (91 * q)) := by
    rw [e0]; exact Hx_lv hH (Lv_ofO hH.1 (fun i hi => (vw_tx hq hi).symm))
  exact eLoop_pE hq _ _ _ ⟨adv_TX hT0, adv_TK hT0 hE0, adv_Hv hq hH0⟩
theorem bec_TX {u : MM} {q p : Nat} (hq : q < 3) (h : TX u) : TX (mX0_become q p u) := TX_same (fun j hj => cpq_out (by omega)) h
theorem vX5_hall (w : WW) : VX5_hall w := by
  intro u hw h
  obtain ⟨hI, hX⟩ := h
  have hv : Hv (vw u (91 * qP)) := hI.1
  have hO := hv.1
  have hT := Tr_Hv hv
  have hX1 := bec_TX (p := qP) hqT hX
  have hp := into_pE hqT hX1 hT
  have hO2 : Ok (vw (mX4_enterInto qT (mX0_become qT qP u)) (91 * qT)) := hp.2.2.1
  simp only [eX5_hall_0, eX5_hall_1, eX5_hall_4, eX5_hall_5, eX5_hall_8, eX5_hall_11, eX5_hall_12, eX5_hall_15, eX5_hall_16, eX5_hall_19, eX5_hall_22, eX5_hall_23, eX5_hall_24, eX5_hall_27, eX5_hall_28, eX5_hall_31, eX5_hall_32, eX5_hall_35, eX5_hall_38, eX5_hall_39, eX5_hall_42, eX5_hall_43, eX5_hall_46, eX5_hall_47, kl_i, kl_r, kl_n, kl_l, true_and, and_true, true_implies, false_implies, not_true_eq_false, not_false_eq_true, i10, Classical.not_not, ok_x0, rfP, ok_x1, rfT, ok_x2, rfK, ok_x3, ix_x3, ok_x4, rf_x4, ok_x5, rf_x5, ok_x6, rf_x6, as_fdd, ai_fdd, xa_fdd, rd_fdd, ok_h0 w hqP, rf_h0 w hqP, ok_h1 w hqP, rf_h1 w hqP, ok_h2 w hqP, ix_h2 w hqP, ok_h3 w hqP, ix_h3 w hqP, ok_h4 w hqP, ix_h4 w hqP, ar_sa w hqP, rf_sa w hqP, ar_oa w hqP, rf_oa w hqP, hw_0, hw_1, hw_2, hu_0, hu_1, hu_2, on_vw, on_f, se_vw, se_f, vw_pv, pv_pv, ost_uI, sst_uI, sit_d, may_d, far_d, stay_d, goe_d, stp_d, hOk_h w hqP, hq_hA, ok_h0 w hqT, rf_h0 w hqT, ok_h1 w hqT, rf_h1 w hqT, ok_h2 w hqT, ix_h2 w hqT, ok_h3 w hqT, ix_h3 w hqT, ok_h4 w hqT, ix_h4 w hqT, ar_sa w hqT, rf_sa w hqT, ar_oa w hqT, rf_oa w hqT, hw_0, hw_1, hw_2, hu_0, hu_1, hu_2, on_vw, on_f, se_vw, se_f, vw_pv, pv_pv, ost_uI, sst_uI, sit_d, may_d, far_d, stay_d, goe_d, stp_d, hOk_h w hqT, hq_hA, pX0_become, neTP, nePT, eq_true hO, hw, pX4_enterInto, eq_true hX1, eq_true hT, eq_true hO2, ok_tp1, ix_tp1, rX5_hall, mX5_hall, hlX]
  exact ⟨fun c => (congrArg (fun x => uI x 281 0) (if_pos (c := rX5_hall u < 0) c)).symm, fun c => (congrArg (fun x => uI x 281 0) (if_neg (c := rX5_hall u < 0) c)).symm⟩
theorem wcX5_223 : ∀ x ∈ wV1 RX5 223 yX4_enterInto MX4_enterInto, x ∈ Gt := by decide +kernel
theorem nmX4_enterInto : nmOk yX4_enterInto 1 = true := by decide +kernel
set_option maxRecDepth 20000 in
theorem KX5_hall_ok (w : WW) : KOk w MX5_hall (KX5_hall w) := KOk_mk flX5_ok ciX5_ok clX5_ok (fun _ _ h => by cases h) (fun _ _ h => by cases h) (List.forall_mem_cons.mpr ⟨itV (n := 172) (by decide) (COk_V (n := 1) (ci := 0) (ctX0_become w) wcX5_172 nmX0_become (by decide) (by decide) rfl (prX0_become w)), List.forall_mem_cons.mpr ⟨itV (n := 223) (by decide) (COk_V (n := 1) (ci := 4) (ctX4_enterInto w) wcX5_223 nmX4_enterInto (by decide) (by decide) rfl (prX4_enterInto w)), List.forall_mem_nil _⟩⟩)
theorem ctX5_hall (w : WW) : CT w yX5_hall MX5_hall (csX5_hall w).2.1 (csX5_hall w).2.2 := by
  refine CT_of (by decide) rfl TX5_hall_ok TX5_hall_v (KX5_hall_ok w) (fun as u h => ?_)
  obtain ⟨a0, rfl, h⟩ := sgR h
  obtain ⟨rfl, hwok, hh⟩ := h
  refine ⟨Nat.le_of_ble_eq_true rfl, ?_⟩
  have key := vX5_hall w u hwok hh
  exact key
theorem prX5_hall (w : WW) : ∀ as u, (csX5_hall w).2.1 as u → ∃ a r, as = .ref a :: r ∧ r.length = 0 ∧ okO w a 5 := by
  intro as u h
  obtain ⟨a0, rfl, h⟩ := sgR h
  exact ⟨_, _, rfl, rfl, okO_x h⟩
