/-! ===== the class's acts that play ahead: wills and kinds, walked ===== -/
theorem pass_st (u : MM) (R : Nat → Int32) (n : Int32) : mX0_pass qT n (stT u R) = stT u (goP (NN n) R) := by
  unfold mX0_pass; rw [vw_stT, pv_stT]
theorem cwX_Tsc {u : MM} (h : Hv (vw u (91 * qP))) {c k : Nat} {v n : Int32} (hc : c < 10) (hk : k < 7) (hO : Ok (ost (Tr u) c k v)) : Tsc u (cwX c k v n u) := by
  refine stT_Tsc (fun i hi => ?_)
  rw [goP_hi hO hi, ost_hi hc hk hi]
/-- one told otherwise in the trial hall, some seconds on: his coins -/
theorem cwX_coins {u v : MM} (hv : Hv (vw u (91 * qP))) (ht : Tsc u v) {c k : Nat} {x : Int32} (n : Nat) (hk : k < 7) (hc : c < NN (vw u (91 * qP) 2)) (hO : Ok (ost (vw u (91 * qP)) c k x)) : on (goP n (ost (Tr v) c k x)) c 4 = coinsW (vw u (91 * qP)) c k x n := by
  have l := (ht.lv hv.1).tr (Tr_lv ((ht.lv hv.1).Ok hv.1))
  exact coinsW_lv l hv.1.M.1 hk hc hO n
/-- the seat that is willed at the i-th try -/
def sv' (i : Nat) : Int32 := if i = 0 then -1 else nI (i - 1)
theorem sv_0 : sv' 0 = -1 := rfl
theorem sv_s (i : Nat) : sv' (i + 1) = nI i := rfl
theorem sv_1 : ∀ i, sv' i + 1 = sv' (i + 1)
  | 0 => by decide
  | i + 1 => nI_1 i
def wlS (c : Nat) (n : Int32) (u : MM) : Nat → MM
  | 0 => u
  | i + 1 => wlX c n u i
def wlB (R : Nat → Int32) (c m : Nat) : Nat → Int32 × Int32
  | 0 => (-1, -1)
  | i + 1 => willN R c m i
theorem wlS_st (c : Nat) (n : Int32) (u : MM) : ∀ i, wlS c n u (i + 1) = cwX c 3 (sv' i) n (wlS c n u i)
  | 0 => rfl
  | _ + 1 => rfl
theorem wOk3 {R : Nat → Int32} (hv : Hv R) {c i : Nat} (hi : i ≤ NN (R 1)) : Hv (ost R c 3 (sv' i)) := by
  have hM := hv.1.M.1
  refine ost_Hx hv (by decide) (fun z => absurd z (by decide)) (fun z => absurd z (by decide)) (fun _ => ?_)
  cases i with
  | zero => exact Or.inl rfl
  | succ i => exact Or.inr (vi_nI (by omega) (by omega))
theorem wlS_Tsc {u : MM} (hv : Hv (vw u (91 * qP))) {c : Nat} (hc : c < 10) (n : Int32) : ∀ i, i ≤ NN (vw u (91 * qP) 1) + 1 → Tsc u (wlS c n u i)
  | 0, _ => Tsc.rf u
  | i + 1, hi => by
    have ih := wlS_Tsc hv hc n i (by omega)
    have hl := ih.lv hv.1
    have l2 := hl.tr (Tr_lv (hl.Ok hv.1))
    rw [wlS_st]
    exact ih.tr (cwX_Tsc (Hx_lv hv hl) hc (by decide) (wOk3 (Hx_lv hv l2) (by rw [← l2.2.1]; omega)).1)
theorem lX5_will {w : WW} (hw : wOk w) {c n : Int32} {u : MM} (hv : Hv (vw u (91 * qP))) {t : Nat} (ht : t ≤ 9999) (hC : Cv (vw u (91 * qP)) t) (hc : vp_in c (NN (vw u (91 * qP) 2))) (hn : NN n ≤ 200) {M : Nat} (hM : M ≤ 6) (eM : vw u (91 * qP) 1 = nI M) {Q : Option Value → MM → Prop} (hQ : Q (some (.int (wlB (vw u (91 * qP)) (NN c) (NN n) (M + 1)).1)) (wlS (NN c) n u (M + 1))) :
    ∀ (d i : Nat), i + d = M + 1 → GX5_will w Q 46 [some (.ref (xA w)), some (.int c), some (.int n), some (.int (wlB (vw u (91 * qP)) (NN c) (NN n) i).1), some (.int (wlB (vw u (91 * qP)) (NN c) (NN n) i).2), some (.int (sv' i))] [] (wlS (NN c) n u i) := by
  have h10 : vp_in c 10 := vi_mono hc hv.1.K.1
  have hc10 : NN c < 10 := vi_lt h10
  have eN : NN (vw u (91 * qP) 1) = M := by rw [eM, NN_nI (by omega)]
  intro d
  induction d with
  | zero =>
    intro i hi
    have e : i = M + 1 := by omega
    subst e
    have hT := (wlS_Tsc hv hc10 n (M + 1) (by omega)).lv hv.1
    have e1 : vw (wlS (NN c) n u (M + 1)) (91 * qP) 1 = nI M := hT.2.1.symm.trans eM
    have hle : nI M ≤ sv' (M + 1) := nI_le (Nat.le_refl M) (by omega)
    rw [eX5_will_46]
    simp only [eX5_will_0, eX5_will_1, eX5_will_2, eX5_will_5, eX5_will_8, eX5_will_9, eX5_will_10, eX5_will_12, eX5_will_15, eX5_will_18, eX5_will_19, eX5_will_20, eX5_will_23, eX5_will_24, eX5_will_25, eX5_will_26, eX5_will_29, eX5_will_32, eX5_will_33, eX5_will_34, eX5_will_37, eX5_will_38, eX5_will_39, eX5_will_40, eX5_will_41, eX5_will_43, eX5_will_44, eX5_will_48, eX5_will_49, eX5_will_52, eX5_will_55, eX5_will_58, eX5_will_59, eX5_will_62, eX5_will_63, eX5_will_66, eX5_will_69, eX5_will_70, eX5_will_73, eX5_will_76, eX5_will_77, eX5_will_78, eX5_will_80, eX5_will_83, eX5_will_84, eX5_will_87, eX5_will_88, eX5_will_91, eX5_will_92, eX5_will_95, eX5_will_98, eX5_will_99, eX5_will_100, eX5_will_103, eX5_will_105, eX5_will_108, eX5_will_109, eX5_will_112, eX5_will_115, eX5_will_116, eX5_will_117, eX5_will_120, eX5_will_122, eX5_will_124, eX5_will_125, eX5_will_128, eX5_will_131, eX5_will_132, kl_i, kl_r, kl_n, kl_l, true_and, and_true, true_implies, false_implies, not_true_eq_false, not_false_eq_true, i10, Classical.not_not, ok_x0, rfP, ok_x1, rfT, ok_x2, rfK, ok_x3, ix_x3, ok_x4, rf_x4, ok_x5, rf_x5, ok_x6, rf_x6, as_fdd, ai_fdd, xa_fdd, rd_fdd, ok_h0 w hqP, rf_h0 w hqP, ok_h1 w hqP, rf_h1 w hqP, ok_h2 w hqP, ix_h2 w hqP, ok_h3 w hqP, ix_h3 w hqP, ok_h4 w hqP, ix_h4 w hqP, ar_sa w hqP, rf_sa w hqP, ar_oa w hqP, rf_oa w hqP, hw_0, hw_1, hw_2, hu_0, hu_1, hu_2, on_vw, on_f, se_vw, se_f, vw_pv, pv_pv, ost_uI, sst_uI, sit_d, may_d, far_d, stay_d, goe_d, stp_d, hOk_h w hqP, hq_hA, e1, hle]
    exact hQ
  | succ d ih =>
    intro i hi
    have hTs := wlS_Tsc hv hc10 n i (by omega)
    have hT := hTs.lv hv.1
    have e1 : vw (wlS (NN c) n u i) (91 * qP) 1 = nI M := hT.2.1.symm.trans eM
    have hlt : ¬ nI M ≤ sv' i := by
      cases i with
      | zero =>
        intro z
        exact absurd (Int32.le_trans (nI_pos' (show M < 2 ^ 31 by omega)) z) (by decide)
      | succ i => exact nI_ge (by omega) (by omega)
    have hv1 := Hx_lv hv hT
    have hO1 := hv1.1
    have l2 := hT.tr (Tr_lv hO1)
    have hX : Hv (ost (Tr (wlS (NN c) n u i)) (NN c) 3 (sv' i)) := wOk3 (Hx_lv hv l2) (by rw [← l2.2.1, eN]; omega)
    have hOR : Ok (ost (vw u (91 * qP)) (NN c) 3 (sv' i)) := (wOk3 hv (by rw [eN]; omega)).1
    have hcn := cwX_coins hv hTs (NN n) (show 3 < 7 by decide) (vi_lt hc) hOR
    have go : ∀ a b : Int32, (a, b) = wlB (vw u (91 * qP)) (NN c) (NN n) (i + 1) → GX5_will w Q 46 [some (.ref (xA w)), some (.int c), some (.int n), some (.int a), some (.int b), some (.int (sv' i + 1))] [] (stT (wlS (NN c) n u i) (goP (NN n) (ost (Tr (wlS (NN c) n u i)) (NN c) 3 (sv' i)))) := fun a b e => by
      have := ih (i + 1) (by omega)
      rw [← e, wlS_st] at this
      rw [sv_1]; exact this
    rw [eX5_will_46]
    simp only [eX5_will_0, eX5_will_1, eX5_will_2, eX5_will_5, eX5_will_8, eX5_will_9, eX5_will_10, eX5_will_12, eX5_will_15, eX5_will_18, eX5_will_19, eX5_will_20, eX5_will_23, eX5_will_24, eX5_will_25, eX5_will_26, eX5_will_29, eX5_will_32, eX5_will_33, eX5_will_34, eX5_will_37, eX5_will_38, eX5_will_39, eX5_will_40, eX5_will_41, eX5_will_43, eX5_will_44, eX5_will_48, eX5_will_49, eX5_will_52, eX5_will_55, eX5_will_58, eX5_will_59, eX5_will_62, eX5_will_63, eX5_will_66, eX5_will_69, eX5_will_70, eX5_will_73, eX5_will_76, eX5_will_77, eX5_will_78, eX5_will_80, eX5_will_83, eX5_will_84, eX5_will_87, eX5_will_88, eX5_will_91, eX5_will_92, eX5_will_95, eX5_will_98, eX5_will_99, eX5_will_100, eX5_will_103, eX5_will_105, eX5_will_108, eX5_will_109, eX5_will_112, eX5_will_115, eX5_will_116, eX5_will_117, eX5_will_120, eX5_will_122, eX5_will_124, eX5_will_125, eX5_will_128, eX5_will_131, eX5_will_132, kl_i, kl_r, kl_n, kl_l, true_and, and_true, true_implies, false_implies, not_true_eq_false, not_false_eq_true, i10, Classical.not_not, ok_x0, rfP, ok_x1, rfT, ok_x2, rfK, ok_x3, ix_x3, ok_x4, rf_x4, ok_x5, rf_x5, ok_x6, rf_x6, as_fdd, ai_fdd, xa_fdd, rd_fdd, ok_h0 w hqP, rf_h0 w hqP, ok_h1 w hqP, rf_h1 w hqP, ok_h2 w hqP, ix_h2 w hqP, ok_h3 w hqP, ix_h3 w hqP, ok_h4 w hqP, ix_h4 w hqP, ar_sa w hqP, rf_sa w hqP, ar_oa w hqP, rf_oa w hqP, hw_0, hw_1, hw_2, hu_0, hu_1, hu_2, on_vw, on_f, se_vw, se_f, vw_pv, pv_pv, ost_uI, sst_uI, sit_d, may_d, far_d, stay_d, goe_d, stp_d, hOk_h w hqP, hq_hA, ok_h0 w hqT, rf_h0 w hqT, ok_h1 w hqT, rf_h1 w hqT, ok_h2 w hqT, ix_h2 w hqT, ok_h3 w hqT, ix_h3 w hqT, ok_h4 w hqT, ix_h4 w hqT, ar_sa w hqT, rf_sa w hqT, ar_oa w hqT, rf_oa w hqT, hw_0, hw_1, hw_2, hu_0, hu_1, hu_2, on_vw, on_f, se_vw, se_f, vw_pv, pv_pv, ost_uI, sst_uI, sit_d, may_d, far_d, stay_d, goe_d, stp_d, hOk_h w hqT, hq_hA, e1, hlt, pX0_become, neTP, eq_true hO1, h10, ok_on0 w hqT hc10, ix_on0 w hqT hc10, ok_on1 w hqT hc10, ix_on1 w hqT hc10, ok_on2 w hqT hc10, ix_on2 w hqT hc10, ok_on3 w hqT hc10, ix_on3 w hqT hc10, ok_on4 w hqT hc10, ix_on4 w hqT hc10, ok_on5 w hqT hc10, ix_on5 w hqT hc10, ok_on6 w hqT hc10, ix_on6 w hqT hc10, oOk_on w hqT hc10, fo_on w hqT hc10, stT_bec, vw_stT, hw, pX0_pass, eq_true hX, pass_st, hcn]
    have hpos := coinsW_pos (c := NN c) (k := 3) (v := sv' i) (n := NN n) hC hOR hv.1.M.1 (by decide) (by decide) (vi_lt hc) (by omega)
    cases i with
    | zero =>
      refine ⟨fun z => absurd hpos (Int32.not_lt.mpr z), fun z => go _ _ rfl⟩
    | succ i =>
      refine ⟨fun z => go _ _ ?_, fun z => go _ _ ?_⟩
      · show willN _ _ _ i = willN _ _ _ (i + 1)
        rw [willN]; exact (if_neg (Int32.not_lt.mpr z)).symm
      · show _ = willN _ _ _ (i + 1)
        rw [willN]; exact (if_pos (Int32.not_le.mp z)).symm
theorem vX5_will (w : WW) : VX5_will w := by
  intro c n u hw h
  have hI : IX u := h
  have hv : Hv (vw u (91 * qP)) := h.1
  have hO := hv.1
  obtain ⟨t, ht, hC⟩ := hI.2
  by_cases c1 : isOn (vw u (91 * qP)) c
  · have hc := (isOn_vi hO).mp c1
    obtain ⟨M, hM, eM⟩ := hO.1
    have eN : NN (vw u (91 * qP) 1) = M := by rw [eM, NN_nI (by omega)]
    by_cases d : 1 ≤ n ∧ n ≤ 100
    · have d0 : 0 ≤ n ∧ n ≤ 200 := ⟨Int32.le_trans (by decide) d.1, Int32.le_trans d.2 (by decide)⟩
      have hn : NN n ≤ 200 := by
        obtain ⟨j, hj, rfl⟩ := nI_of2 (M := 200) (n := 200) rfl (Int32.not_lt.mpr d0.1) d0.2
        rw [NN_nI (by omega)]; exact hj
      simp only [eX5_will_0, eX5_will_1, eX5_will_2, eX5_will_5, eX5_will_8, eX5_will_9, eX5_will_10, eX5_will_12, eX5_will_15, eX5_will_18, eX5_will_19, eX5_will_20, eX5_will_23, eX5_will_24, eX5_will_25, eX5_will_26, eX5_will_29, eX5_will_32, eX5_will_33, eX5_will_34, eX5_will_37, eX5_will_38, eX5_will_39, eX5_will_40, eX5_will_41, eX5_will_43, eX5_will_44, eX5_will_48, eX5_will_49, eX5_will_52, eX5_will_55, eX5_will_58, eX5_will_59, eX5_will_62, eX5_will_63, eX5_will_66, eX5_will_69, eX5_will_70, eX5_will_73, eX5_will_76, eX5_will_77, eX5_will_78, eX5_will_80, eX5_will_83, eX5_will_84, eX5_will_87, eX5_will_88, eX5_will_91, eX5_will_92, eX5_will_95, eX5_will_98, eX5_will_99, eX5_will_100, eX5_will_103, eX5_will_105, eX5_will_108, eX5_will_109, eX5_will_112, eX5_will_115, eX5_will_116, eX5_will_117, eX5_will_120, eX5_will_122, eX5_will_124, eX5_will_125, eX5_will_128, eX5_will_131, eX5_will_132, kl_i, kl_r, kl_n, kl_l, true_and, and_true, true_implies, false_implies, not_true_eq_false, not_false_eq_true, i10, Classical.not_not, ok_x0, rfP, ok_x1, rfT, ok_x2, rfK, ok_x3, ix_x3, ok_x4, rf_x4, ok_x5, rf_x5, ok_x6, rf_x6, as_fdd, ai_fdd, xa_fdd, rd_fdd, ok_h0 w hqP, rf_h0 w hqP, ok_h1 w hqP, rf_h1 w hqP, ok_h2 w hqP, ix_h2 w hqP, ok_h3 w hqP, ix_h3 w hqP, ok_h4 w hqP, ix_h4 w hqP, ar_sa w hqP, rf_sa w hqP, ar_oa w hqP, rf_oa w hqP, hw_0, hw_1, hw_2, hu_0, hu_1, hu_2, on_vw, on_f, se_vw, se_f, vw_pv, pv_pv, ost_uI, sst_uI, sit_d, may_d, far_d, stay_d, goe_d, stp_d, hOk_h w hqP, hq_hA, pX5_finding, mX5_finding, rfx0, rfx1, rfx2, rfx3, rfx4, rfx5, rfx6, N_0, N_1, N_2, N_3, N_4, N_5, N_6, v7_0, v7_1, v7_2, v7_3, v7_4, v7_5, v7_6, pX5_isOne, rX5_isOne, bi_t c1, pX5_isFromTo, rX5_isFromTo, bi_t d, bi_0, pX5_isTooLateFor, eq_true hI, eq_true d0, rX5_isTooLateFor, rX5_will, mX5_will]
      refine ⟨fun f => ?_, fun f => toV (xl4 ?_)⟩
      · have ho : oWill (vw u (91 * qP)) c n = .inr ((willN (vw u (91 * qP)) (NN c) (NN n) M).1, vw u (91 * qP)) := by
          rw [oWill, if_neg (fun z => z ⟨c1, d⟩), if_neg f, eN]
        have hA := toV (xlr (u := u) (v := wlX (NN c) n u M) ho)
        rw [eN]
        exact lX5_will (Q := fun r u' => r = some (.int (an (oWill (vw u (91 * qP)) c n))) ∧ u' = mlX (oWill (vw u (91 * qP)) c n) u (wlX (NN c) n u M)) hw hv ht hC hc hn hM eM hA (M + 1) 0 (by omega)
      · rw [oWill, if_neg (fun z => z ⟨c1, d⟩), if_pos f]
    · simp only [eX5_will_0, eX5_will_1, eX5_will_2, eX5_will_5, eX5_will_8, eX5_will_9, eX5_will_10, eX5_will_12, eX5_will_15, eX5_will_18, eX5_will_19, eX5_will_20, eX5_will_23, eX5_will_24, eX5_will_25, eX5_will_26, eX5_will_29, eX5_will_32, eX5_will_33, eX5_will_34, eX5_will_37, eX5_will_38, eX5_will_39, eX5_will_40, eX5_will_41, eX5_will_43, eX5_will_44, eX5_will_48, eX5_will_49, eX5_will_52, eX5_will_55, eX5_will_58, eX5_will_59, eX5_will_62, eX5_will_63, eX5_will_66, eX5_will_69, eX5_will_70, eX5_will_73, eX5_will_76, eX5_will_77, eX5_will_78, eX5_will_80, eX5_will_83, eX5_will_84, eX5_will_87, eX5_will_88, eX5_will_91, eX5_will_92, eX5_will_95, eX5_will_98, eX5_will_99, eX5_will_100, eX5_will_103, eX5_will_105, eX5_will_108, eX5_will_109, eX5_will_112, eX5_will_115, eX5_will_116, eX5_will_117, eX5_will_120, eX5_will_122, eX5_will_124, eX5_will_125, eX5_will_128, eX5_will_131, eX5_will_132, kl_i, kl_r, kl_n, kl_l, true_and, and_true, true_implies, false_implies, not_true_eq_false, not_false_eq_true, i10, Classical.not_not, ok_x0, rfP, ok_x1, rfT, ok_x2, rfK, ok_x3, ix_x3, ok_x4, rf_x4, ok_x5, rf_x5, ok_x6, rf_x6, as_fdd, ai_fdd, xa_fdd, rd_fdd, ok_h0 w hqP, rf_h0 w hqP, ok_h1 w hqP, rf_h1 w hqP, ok_h2 w hqP, ix_h2 w hqP, ok_h3 w hqP, ix_h3 w hqP, ok_h4 w hqP, ix_h4 w hqP, ar_sa w hqP, rf_sa w hqP, ar_oa w hqP, rf_oa w hqP, hw_0, hw_1, hw_2, hu_0, hu_1, hu_2, on_vw, on_f, se_vw, se_f, vw_pv, pv_pv, ost_uI, sst_uI, sit_d, may_d, far_d, stay_d, goe_d, stp_d, hOk_h w hqP, hq_hA, pX5_finding, mX5_finding, rfx0, rfx1, rfx2, rfx3, rfx4, rfx5, rfx6, N_0, N_1, N_2, N_3, N_4, N_5, N_6, v7_0, v7_1, v7_2, v7_3, v7_4, v7_5, v7_6, pX5_isOne, rX5_isOne, bi_t c1, pX5_isFromTo, rX5_isFromTo, bi_f d, rX5_will, mX5_will, Option.some.injEq, Value.int.injEq]
      exact xl0 (by rw [oWill, if_pos (fun z => d z.2)])
  · simp only [eX5_will_0, eX5_will_1, eX5_will_2, eX5_will_5, eX5_will_8, eX5_will_9, eX5_will_10, eX5_will_12, eX5_will_15, eX5_will_18, eX5_will_19, eX5_will_20, eX5_will_23, eX5_will_24, eX5_will_25, eX5_will_26, eX5_will_29, eX5_will_32, eX5_will_33, eX5_will_34, eX5_will_37, eX5_will_38, eX5_will_39, eX5_will_40, eX5_will_41, eX5_will_43, eX5_will_44, eX5_will_48, eX5_will_49, eX5_will_52, eX5_will_55, eX5_will_58, eX5_will_59, eX5_will_62, eX5_will_63, eX5_will_66, eX5_will_69, eX5_will_70, eX5_will_73, eX5_will_76, eX5_will_77, eX5_will_78, eX5_will_80, eX5_will_83, eX5_will_84, eX5_will_87, eX5_will_88, eX5_will_91, eX5_will_92, eX5_will_95, eX5_will_98, eX5_will_99, eX5_will_100, eX5_will_103, eX5_will_105, eX5_will_108, eX5_will_109, eX5_will_112, eX5_will_115, eX5_will_116, eX5_will_117, eX5_will_120, eX5_will_122, eX5_will_124, eX5_will_125, eX5_will_128, eX5_will_131, eX5_will_132, kl_i, kl_r, kl_n, kl_l, true_and, and_true, true_implies, false_implies, not_true_eq_false, not_false_eq_true, i10, Classical.not_not, ok_x0, rfP, ok_x1, rfT, ok_x2, rfK, ok_x3, ix_x3, ok_x4, rf_x4, ok_x5, rf_x5, ok_x6, rf_x6, as_fdd, ai_fdd, xa_fdd, rd_fdd, ok_h0 w hqP, rf_h0 w hqP, ok_h1 w hqP, rf_h1 w hqP, ok_h2 w hqP, ix_h2 w hqP, ok_h3 w hqP, ix_h3 w hqP, ok_h4 w hqP, ix_h4 w hqP, ar_sa w hqP, rf_sa w hqP, ar_oa w hqP, rf_oa w hqP, hw_0, hw_1, hw_2, hu_0, hu_1, hu_2, on_vw, on_f, se_vw, se_f, vw_pv, pv_pv, ost_uI, sst_uI, sit_d, may_d, far_d, stay_d, goe_d, stp_d, hOk_h w hqP, hq_hA, pX5_finding, mX5_finding, rfx0, rfx1, rfx2, rfx3, rfx4, rfx5, rfx6, N_0, N_1, N_2, N_3, N_4, N_5, N_6, v7_0, v7_1, v7_2, v7_3, v7_4, v7_5, v7_6, pX5_isOne, rX5_isOne, bi_f c1, rX5_will, mX5_will, Option.some.injEq, Value.int.injEq]
    exact xl0 (by rw [oWill, if_pos (fun z => c1 z.1)])
set_option maxRecDepth 20000 in
theorem KX5_will_ok (w : WW) : KOk w MX5_will (KX5_will w) := KOk_mk flX5_ok ciX5_ok clX5_ok (fun _ _ h => by cases h) (fun _ _ h => by cases h) (List.forall_mem_cons.mpr ⟨itV (n := 52) (by decide) (COk_V (n := 1) (ci := 5) (ctX5_finding w) wcX5_52 nmX5_finding (by decide) (by decide) rfl (prX5_finding w)), List.forall_mem_cons.mpr ⟨itV (n := 99) (by decide) (COk_V (n := 1) (ci := 5) (ctX5_isOne w) wcX5_99 nmX5_isOne (by decide) (by decide) rfl (prX5_isOne w)), List.forall_mem_cons.mpr ⟨itV (n := 169) (by decide) (COk_V (n := 1) (ci := 5) (ctX5_isTooLateFor w) wcX5_169 nmX5_isTooLateFor (by decide) (by decide) rfl (prX5_isTooLateFor w)), List.forall_mem_cons.mpr ⟨itV (n := 172) (by decide) (COk_V (n := 1) (ci := 0) (ctX0_become w) wcX5_172 nmX0_become (by decide) (by decide) rfl (prX0_become w)), List.forall_mem_cons.mpr ⟨itV (n := 176) (by decide) (COk_V (n := 1) (ci := 0) (ctX0_pass w) wcX5_176 nmX0_pass (by decide) (by decide) rfl (prX0_pass w)), List.forall_mem_cons.mpr ⟨itS (n := 48) (COk_S (n := 3) (ctX5_isFromTo w) wcX5_65584 nmX5_isFromTo (by decide)), List.forall_mem_nil _⟩⟩⟩⟩⟩⟩)
theorem ctX5_will (w : WW) : CT w yX5_will MX5_will (csX5_will w).2.1 (csX5_will w).2.2 := by
  refine CT_of (by decide) rfl TX5_will_ok TX5_will_v (KX5_will_ok w) (fun as u h => ?_)
  obtain ⟨a0, a1, a2, rfl, h⟩ := sgRII h
  obtain ⟨rfl, hwok, hh⟩ := h
  refine ⟨Nat.le_of_ble_eq_true rfl, ?_⟩
  have key := vX5_will w a1 a2 u hwok hh
  exact key
theorem prX5_will (w : WW) : ∀ as u, (csX5_will w).2.1 as u → ∃ a r, as = .ref a :: r ∧ r.length = 2 ∧ okO w a 5 := by
  intro as u h
  obtain ⟨a0, a1, a2, rfl, h⟩ := sgRII h
  exact ⟨_, _, rfl, rfl, okO_x h⟩
theorem kOk0 {R : Nat → Int32} (hv : Hv R) {c i : Nat} (hi : i < 6) : Hv (ost R c 0 (nI i)) :=
  ost_Hx hv (by decide) (fun _ => ⟨nI_pos' (by omega), nI_le (a := i) (b := 5) (by omega) (by decide)⟩) (fun z => absurd z (by decide)) (fun z => absurd z (by decide))
theorem kdX_Tsc {u : MM} (hv : Hv (vw u (91 * qP))) {c : Nat} (hc : c < 10) (n : Int32) : ∀ i, i ≤ 6 → Tsc u (kdX c n u i)
  | 0, _ => Tsc.rf u
  | i + 1, hi => by
    have ih := kdX_Tsc hv hc n i (by omega)
    have hl := ih.lv hv.1
    have l2 := hl.tr (Tr_lv (hl.Ok hv.1))
    exact ih.tr (cwX_Tsc (Hx_lv hv hl) hc (by decide) (kOk0 (Hx_lv hv l2) (by omega)).1)
theorem lX5_kind {w : WW} (hw : wOk w) {c n : Int32} {u : MM} (hv : Hv (vw u (91 * qP))) (hc : vp_in c (NN (vw u (91 * qP) 2))) {Q : Option Value → MM → Prop} (hQ : Q (some (.int (kindN (vw u (91 * qP)) (NN c) (NN n) 6).1)) (kdX (NN c) n u 6)) :
    ∀ (d i : Nat), i + d = 6 → GX5_kind w Q 46 [some (.ref (xA w)), some (.int c), some (.int n), some (.int (kindN (vw u (91 * qP)) (NN c) (NN n) i).1), some (.int (kindN (vw u (91 * qP)) (NN c) (NN n) i).2), some (.int (nI i))] [] (kdX (NN c) n u i) := by
  have h10 : vp_in c 10 := vi_mono hc hv.1.K.1
  have hc10 : NN c < 10 := vi_lt h10
  intro d
  induction d with
  | zero =>
    intro i hi
    have e : i = 6 := by omega
    subst e
    have hle : (6 : Int32) ≤ nI 6 := by decide
    rw [eX5_kind_46]
    simp only [eX5_kind_0, eX5_kind_1, eX5_kind_2, eX5_kind_5, eX5_kind_8, eX5_kind_9, eX5_kind_10, eX5_kind_12, eX5_kind_15, eX5_kind_18, eX5_kind_19, eX5_kind_20, eX5_kind_23, eX5_kind_24, eX5_kind_25, eX5_kind_26, eX5_kind_29, eX5_kind_32, eX5_kind_33, eX5_kind_34, eX5_kind_37, eX5_kind_38, eX5_kind_39, eX5_kind_40, eX5_kind_41, eX5_kind_43, eX5_kind_44, eX5_kind_48, eX5_kind_50, eX5_kind_53, eX5_kind_54, eX5_kind_57, eX5_kind_58, eX5_kind_61, eX5_kind_64, eX5_kind_65, eX5_kind_68, eX5_kind_71, eX5_kind_72, eX5_kind_73, eX5_kind_75, eX5_kind_78, eX5_kind_79, eX5_kind_82, eX5_kind_83, eX5_kind_86, eX5_kind_87, eX5_kind_90, eX5_kind_93, eX5_kind_94, eX5_kind_95, eX5_kind_98, eX5_kind_100, eX5_kind_103, eX5_kind_104, eX5_kind_107, eX5_kind_110, eX5_kind_111, eX5_kind_112, eX5_kind_115, eX5_kind_117, eX5_kind_119, eX5_kind_120, eX5_kind_123, eX5_kind_126, eX5_kind_127, kl_i, kl_r, kl_n, kl_l, true_and, and_true, true_implies, false_implies, not_true_eq_false, not_false_eq_true, i10, Classical.not_not, hle]
    exact hQ
  | succ d ih =>
    intro i hi
    have hTs := kdX_Tsc hv hc10 n i (by omega)
    have hT := hTs.lv hv.1
    have hlt : ¬ (6 : Int32) ≤ nI i := nI_ge (a := i) (b := 6) (by omega) (by decide)
    have hO1 := (Hx_lv hv hT).1
    have l2 := hT.tr (Tr_lv hO1)
    have hX : Hv (ost (Tr (kdX (NN c) n u i)) (NN c) 0 (nI i)) := kOk0 (Hx_lv hv l2) (by omega)
    have hOR : Ok (ost (vw u (91 * qP)) (NN c) 0 (nI i)) := (kOk0 hv (by omega)).1
    have hcn := cwX_coins hv hTs (NN n) (show 0 < 7 by decide) (vi_lt hc) hOR
    have go : ∀ a b : Int32, (a, b) = kindN (vw u (91 * qP)) (NN c) (NN n) (i + 1) → GX5_kind w Q 46 [some (.ref (xA w)), some (.int c), some (.int n), some (.int a), some (.int b), some (.int (nI i + 1))] [] (stT (kdX (NN c) n u i) (goP (NN n) (ost (Tr (kdX (NN c) n u i)) (NN c) 0 (nI i)))) := fun a b e => by
      have := ih (i + 1) (by omega)
      rw [← e, kdX] at this
      rw [nI_1]; exact this
    rw [eX5_kind_46]
    simp only [eX5_kind_0, eX5_kind_1, eX5_kind_2, eX5_kind_5, eX5_kind_8, eX5_kind_9, eX5_kind_10, eX5_kind_12, eX5_kind_15, eX5_kind_18, eX5_kind_19, eX5_kind_20, eX5_kind_23, eX5_kind_24, eX5_kind_25, eX5_kind_26, eX5_kind_29, eX5_kind_32, eX5_kind_33, eX5_kind_34, eX5_kind_37, eX5_kind_38, eX5_kind_39, eX5_kind_40, eX5_kind_41, eX5_kind_43, eX5_kind_44, eX5_kind_48, eX5_kind_50, eX5_kind_53, eX5_kind_54, eX5_kind_57, eX5_kind_58, eX5_kind_61, eX5_kind_64, eX5_kind_65, eX5_kind_68, eX5_kind_71, eX5_kind_72, eX5_kind_73, eX5_kind_75, eX5_kind_78, eX5_kind_79, eX5_kind_82, eX5_kind_83, eX5_kind_86, eX5_kind_87, eX5_kind_90, eX5_kind_93, eX5_kind_94, eX5_kind_95, eX5_kind_98, eX5_kind_100, eX5_kind_103, eX5_kind_104, eX5_kind_107, eX5_kind_110, eX5_kind_111, eX5_kind_112, eX5_kind_115, eX5_kind_117, eX5_kind_119, eX5_kind_120, eX5_kind_123, eX5_kind_126, eX5_kind_127, kl_i, kl_r, kl_n, kl_l, true_and, and_true, true_implies, false_implies, not_true_eq_false, not_false_eq_true, i10, Classical.not_not, ok_x0, rfP, ok_x1, rfT, ok_x2, rfK, ok_x3, ix_x3, ok_x4, rf_x4, ok_x5, rf_x5, ok_x6, rf_x6, as_fdd, ai_fdd, xa_fdd, rd_fdd, ok_h0 w hqP, rf_h0 w hqP, ok_h1 w hqP, rf_h1 w hqP, ok_h2 w hqP, ix_h2 w hqP, ok_h3 w hqP, ix_h3 w hqP, ok_h4 w hqP, ix_h4 w hqP, ar_sa w hqP, rf_sa w hqP, ar_oa w hqP, rf_oa w hqP, hw_0, hw_1, hw_2, hu_0, hu_1, hu_2, on_vw, on_f, se_vw, se_f, vw_pv, pv_pv, ost_uI, sst_uI, sit_d, may_d, far_d, stay_d, goe_d, stp_d, hOk_h w hqP, hq_hA, ok_h0 w hqT, rf_h0 w hqT, ok_h1 w hqT, rf_h1 w hqT, ok_h2 w hqT, ix_h2 w hqT, ok_h3 w hqT, ix_h3 w hqT, ok_h4 w hqT, ix_h4 w hqT, ar_sa w hqT, rf_sa w hqT, ar_oa w hqT, rf_oa w hqT, hw_0, hw_1, hw_2, hu_0, hu_1, hu_2, on_vw, on_f, se_vw, se_f, vw_pv, pv_pv, ost_uI, sst_uI, sit_d, may_d, far_d, stay_d, goe_d, stp_d, hOk_h w hqT, hq_hA, hlt, pX0_become, neTP, eq_true hO1, h10, ok_on0 w hqT hc10, ix_on0 w hqT hc10, ok_on1 w hqT hc10, ix_on1 w hqT hc10, ok_on2 w hqT hc10, ix_on2 w hqT hc10, ok_on3 w hqT hc10, ix_on3 w hqT hc10, ok_on4 w hqT hc10, ix_on4 w hqT hc10, ok_on5 w hqT hc10, ix_on5 w hqT hc10, ok_on6 w hqT hc10, ix_on6 w hqT hc10, oOk_on w hqT hc10, fo_on w hqT hc10, stT_bec, vw_stT, hw, pX0_pass, eq_true hX, pass_st, hcn]
    refine ⟨fun z => go _ _ ?_, fun z => go _ _ ?_⟩
    · rw [kindN, if_neg (Int32.not_lt.mpr z)]
    · rw [kindN, if_pos (Int32.not_le.mp z)]
theorem vX5_kind (w : WW) : VX5_kind w := by
  intro c n u hw h
  have hI : IX u := h
  have hv : Hv (vw u (91 * qP)) := h.1
  have hO := hv.1
  by_cases c1 : isOn (vw u (91 * qP)) c
  · have hc := (isOn_vi hO).mp c1
    by_cases d : 1 ≤ n ∧ n ≤ 100
    · have d0 : 0 ≤ n ∧ n ≤ 200 := ⟨Int32.le_trans (by decide) d.1, Int32.le_trans d.2 (by decide)⟩
      simp only [eX5_kind_0, eX5_kind_1, eX5_kind_2, eX5_kind_5, eX5_kind_8, eX5_kind_9, eX5_kind_10, eX5_kind_12, eX5_kind_15, eX5_kind_18, eX5_kind_19, eX5_kind_20, eX5_kind_23, eX5_kind_24, eX5_kind_25, eX5_kind_26, eX5_kind_29, eX5_kind_32, eX5_kind_33, eX5_kind_34, eX5_kind_37, eX5_kind_38, eX5_kind_39, eX5_kind_40, eX5_kind_41, eX5_kind_43, eX5_kind_44, eX5_kind_48, eX5_kind_50, eX5_kind_53, eX5_kind_54, eX5_kind_57, eX5_kind_58, eX5_kind_61, eX5_kind_64, eX5_kind_65, eX5_kind_68, eX5_kind_71, eX5_kind_72, eX5_kind_73, eX5_kind_75, eX5_kind_78, eX5_kind_79, eX5_kind_82, eX5_kind_83, eX5_kind_86, eX5_kind_87, eX5_kind_90, eX5_kind_93, eX5_kind_94, eX5_kind_95, eX5_kind_98, eX5_kind_100, eX5_kind_103, eX5_kind_104, eX5_kind_107, eX5_kind_110, eX5_kind_111, eX5_kind_112, eX5_kind_115, eX5_kind_117, eX5_kind_119, eX5_kind_120, eX5_kind_123, eX5_kind_126, eX5_kind_127, kl_i, kl_r, kl_n, kl_l, true_and, and_true, true_implies, false_implies, not_true_eq_false, not_false_eq_true, i10, Classical.not_not, ok_x0, rfP, ok_x1, rfT, ok_x2, rfK, ok_x3, ix_x3, ok_x4, rf_x4, ok_x5, rf_x5, ok_x6, rf_x6, as_fdd, ai_fdd, xa_fdd, rd_fdd, ok_h0 w hqP, rf_h0 w hqP, ok_h1 w hqP, rf_h1 w hqP, ok_h2 w hqP, ix_h2 w hqP, ok_h3 w hqP, ix_h3 w hqP, ok_h4 w hqP, ix_h4 w hqP, ar_sa w hqP, rf_sa w hqP, ar_oa w hqP, rf_oa w hqP, hw_0, hw_1, hw_2, hu_0, hu_1, hu_2, on_vw, on_f, se_vw, se_f, vw_pv, pv_pv, ost_uI, sst_uI, sit_d, may_d, far_d, stay_d, goe_d, stp_d, hOk_h w hqP, hq_hA, pX5_finding, mX5_finding, rfx0, rfx1, rfx2, rfx3, rfx4, rfx5, rfx6, N_0, N_1, N_2, N_3, N_4, N_5, N_6, v7_0, v7_1, v7_2, v7_3, v7_4, v7_5, v7_6, pX5_isOne, rX5_isOne, bi_t c1, pX5_isFromTo, rX5_isFromTo, bi_t d, bi_0, pX5_isTooLateFor, eq_true hI, eq_true d0, rX5_isTooLateFor, rX5_kind, mX5_kind]
      refine ⟨fun f => ?_, fun f => toV (xl4 ?_)⟩
      · have ho : oKind (vw u (91 * qP)) c n = .inr ((kindN (vw u (91 * qP)) (NN c) (NN n) 6).1, vw u (91 * qP)) := by
          rw [oKind, if_neg (fun z => z ⟨c1, d⟩), if_neg f]
        have hA := toV (xlr (u := u) (v := kdX (NN c) n u 6) ho)
        exact lX5_kind (Q := fun r u' => r = some (.int (an (oKind (vw u (91 * qP)) c n))) ∧ u' = mlX (oKind (vw u (91 * qP)) c n) u (kdX (NN c) n u 6)) hw hv hc hA 6 0 (by omega)
      · rw [oKind, if_neg (fun z => z ⟨c1, d⟩), if_pos f]
    · simp only [eX5_kind_0, eX5_kind_1, eX5_kind_2, eX5_kind_5, eX5_kind_8, eX5_kind_9, eX5_kind_10, eX5_kind_12, eX5_kind_15, eX5_kind_18, eX5_kind_19, eX5_kind_20, eX5_kind_23, eX5_kind_24, eX5_kind_25, eX5_kind_26, eX5_kind_29, eX5_kind_32, eX5_kind_33, eX5_kind_34, eX5_kind_37, eX5_kind_38, eX5_kind_39, eX5_kind_40, eX5_kind_41, eX5_kind_43, eX5_kind_44, eX5_kind_48, eX5_kind_50, eX5_kind_53, eX5_kind_54, eX5_kind_57, eX5_kind_58, eX5_kind_61, eX5_kind_64, eX5_kind_65, eX5_kind_68, eX5_kind_71, eX5_kind_72, eX5_kind_73, eX5_kind_75, eX5_kind_78, eX5_kind_79, eX5_kind_82, eX5_kind_83, eX5_kind_86, eX5_kind_87, eX5_kind_90, eX5_kind_93, eX5_kind_94, eX5_kind_95, eX5_kind_98, eX5_kind_100, eX5_kind_103, eX5_kind_104, eX5_kind_107, eX5_kind_110, eX5_kind_111, eX5_kind_112, eX5_kind_115, eX5_kind_117, eX5_kind_119, eX5_kind_120, eX5_kind_123, eX5_kind_126, eX5_kind_127, kl_i, kl_r, kl_n, kl_l, true_and, and_true, true_implies, false_implies, not_true_eq_false, not_false_eq_true, i10, Classical.not_not, ok_x0, rfP, ok_x1, rfT, ok_x2, rfK, ok_x3, ix_x3, ok_x4, rf_x4, ok_x5, rf_x5, ok_x6, rf_x6, as_fdd, ai_fdd, xa_fdd, rd_fdd, ok_h0 w hqP, rf_h0 w hqP, ok_h1 w hqP, rf_h1 w hqP, ok_h2 w hqP, ix_h2 w hqP, ok_h3 w hqP, ix_h3 w hqP, ok_h4 w hqP, ix_h4 w hqP, ar_sa w hqP, rf_sa w hqP, ar_oa w hqP, rf_oa w hqP, hw_0, hw_1, hw_2, hu_0, hu_1, hu_2, on_vw, on_f, se_vw, se_f, vw_pv, pv_pv, ost_uI, sst_uI, sit_d, may_d, far_d, stay_d, goe_d, stp_d, hOk_h w hqP, hq_hA, pX5_finding, mX5_finding, rfx0, rfx1, rfx2, rfx3, rfx4, rfx5, rfx6, N_0, N_1, N_2, N_3, N_4, N_5, N_6, v7_0, v7_1, v7_2, v7_3, v7_4, v7_5, v7_6, pX5_isOne, rX5_isOne, bi_t c1, pX5_isFromTo, rX5_isFromTo, bi_f d, rX5_kind, mX5_kind, Option.some.injEq, Value.int.injEq]
      exact xl0 (by rw [oKind, if_pos (fun z => d z.2)])
  · simp only [eX5_kind_0, eX5_kind_1, eX5_kind_2, eX5_kind_5, eX5_kind_8, eX5_kind_9, eX5_kind_10, eX5_kind_12, eX5_kind_15, eX5_kind_18, eX5_kind_19, eX5_kind_20, eX5_kind_23, eX5_kind_24, eX5_kind_25, eX5_kind_26, eX5_kind_29, eX5_kind_32, eX5_kind_33, eX5_kind_34, eX5_kind_37, eX5_kind_38, eX5_kind_39, eX5_kind_40, eX5_kind_41, eX5_kind_43, eX5_kind_44, eX5_kind_48, eX5_kind_50, eX5_kind_53, eX5_kind_54, eX5_kind_57, eX5_kind_58, eX5_kind_61, eX5_kind_64, eX5_kind_65, eX5_kind_68, eX5_kind_71, eX5_kind_72, eX5_kind_73, eX5_kind_75, eX5_kind_78, eX5_kind_79, eX5_kind_82, eX5_kind_83, eX5_kind_86, eX5_kind_87, eX5_kind_90, eX5_kind_93, eX5_kind_94, eX5_kind_95, eX5_kind_98, eX5_kind_100, eX5_kind_103, eX5_kind_104, eX5_kind_107, eX5_kind_110, eX5_kind_111, eX5_kind_112, eX5_kind_115, eX5_kind_117, eX5_kind_119, eX5_kind_120, eX5_kind_123, eX5_kind_126, eX5_kind_127, kl_i, kl_r, kl_n, kl_l, true_and, and_true, true_implies, false_implies, not_true_eq_false, not_false_eq_true, i10, Classical.not_not, ok_x0, rfP, ok_x1, rfT, ok_x2, rfK, ok_x3, ix_x3, ok_x4, rf_x4, ok_x5, rf_x5, ok_x6, rf_x6, as_fdd, ai_fdd, xa_fdd, rd_fdd, ok_h0 w hqP, rf_h0 w hqP, ok_h1 w hqP, rf_h1 w hqP, ok_h2 w hqP, ix_h2 w hqP, ok_h3 w hqP, ix_h3 w hqP, ok_h4 w hqP, ix_h4 w hqP, ar_sa w hqP, rf_sa w hqP, ar_oa w hqP, rf_oa w hqP, hw_0, hw_1, hw_2, hu_0, hu_1, hu_2, on_vw, on_f, se_vw, se_f, vw_pv, pv_pv, ost_uI, sst_uI, sit_d, may_d, far_d, stay_d, goe_d, stp_d, hOk_h w hqP, hq_hA, pX5_finding, mX5_finding, rfx0, rfx1, rfx2, rfx3, rfx4, rfx5, rfx6, N_0, N_1, N_2, N_3, N_4, N_5, N_6, v7_0, v7_1, v7_2, v7_3, v7_4, v7_5, v7_6, pX5_isOne, rX5_isOne, bi_f c1, rX5_kind, mX5_kind, Option.some.injEq, Value.int.injEq]
    exact xl0 (by rw [oKind, if_pos (fun z => c1 z.1)])
set_option maxRecDepth 20000 in
theorem KX5_kind_ok (w : WW) : KOk w MX5_kind (KX5_kind w) := KOk_mk flX5_ok ciX5_ok clX5_ok (fun _ _ h => by cases h) (fun _ _ h => by cases h) (List.forall_mem_cons.mpr ⟨itV (n := 52) (by decide) (COk_V (n := 1) (ci := 5) (ctX5_finding w) wcX5_52 nmX5_finding (by decide) (by decide) rfl (prX5_finding w)), List.forall_mem_cons.mpr ⟨itV (n := 99) (by decide) (COk_V (n := 1) (ci := 5) (ctX5_isOne w) wcX5_99 nmX5_isOne (by decide) (by decide) rfl (prX5_isOne w)), List.forall_mem_cons.mpr ⟨itV (n := 169) (by decide) (COk_V (n := 1) (ci := 5) (ctX5_isTooLateFor w) wcX5_169 nmX5_isTooLateFor (by decide) (by decide) rfl (prX5_isTooLateFor w)), List.forall_mem_cons.mpr ⟨itV (n := 172) (by decide) (COk_V (n := 1) (ci := 0) (ctX0_become w) wcX5_172 nmX0_become (by decide) (by decide) rfl (prX0_become w)), List.forall_mem_cons.mpr ⟨itV (n := 176) (by decide) (COk_V (n := 1) (ci := 0) (ctX0_pass w) wcX5_176 nmX0_pass (by decide) (by decide) rfl (prX0_pass w)), List.forall_mem_cons.mpr ⟨itS (n := 48) (COk_S (n := 3) (ctX5_isFromTo w) wcX5_65584 nmX5_isFromTo (by decide)), List.forall_mem_nil _⟩⟩⟩⟩⟩⟩)
theorem ctX5_kind (w : WW) : CT w yX5_kind MX5_kind (csX5_kind w).2.1 (csX5_kind w).2.2 := by
  refine CT_of (by decide) rfl TX5_kind_ok TX5_kind_v (KX5_kind_ok w) (fun as u h => ?_)
  obtain ⟨a0, a1, a2, rfl, h⟩ := sgRII h
  obtain ⟨rfl, hwok, hh⟩ := h
  refine ⟨Nat.le_of_ble_eq_true rfl, ?_⟩
  have key := vX5_kind w a1 a2 u hwok hh
  exact key
theorem prX5_kind (w : WW) : ∀ as u, (csX5_kind w).2.1 as u → ∃ a r, as = .ref a :: r ∧ r.length = 2 ∧ okO w a 5 := by
  intro as u h
  obtain ⟨a0, a1, a2, rfl, h⟩ := sgRII h
  exact ⟨_, _, rfl, rfl, okO_x h⟩
