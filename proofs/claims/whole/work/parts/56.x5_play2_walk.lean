/-! ===== the class's acts that play ahead: places to stand, walked ===== -/
theorem would_lv {R S : Nat → Int32} (l : Lv R S) (hO : Ok R) {c s : Nat} (p : Int32) (hs : s < NN (R 1)) : would R c p s ↔ would S c p s := by
  have hK := hO.K.1
  have hM := hO.M.1
  have l2 := ost_lv (c := c) l hM (show 1 < 7 by decide) p
  rw [would, would, ← l.2.2.2.1 s hs 0 (by decide), ← l.2.2.1, nx_lv l2 _ _ (by rw [hd2_ost]; omega) _ (by rw [hd2_ost]; exact Nat.le_refl _)]
theorem wo_lv {R S : Nat → Int32} (l : Lv R S) (hO : Ok R) {c : Nat} (p : Int32) : ∀ n, n ≤ NN (R 1) → wo R c p n = wo S c p n
  | 0, _ => rfl
  | n + 1, hn => by
    simp only [wo]
    rw [wo_lv l hO p n (by omega), l.2.2.2.1 n (by omega) 1 (by decide), ifq (would_lv l hO p (by omega))]
/-- the trial hall, with one somewhere else -/
def tfm (c : Nat) (u : MM) (R : Nat → Int32) : Prop := R = Tr u ∨ ∃ x, R = ost (Tr u) c 1 x
theorem bec_stT (u : MM) : mX0_become qT qP u = stT u (Tr u) := (pv_vw _ _).symm
theorem tf {c : Nat} {u : MM} {R : Nat → Int32} (hT : Hv (Tr u)) (h5 : on (Tr u) c 5 = -1) (h : tfm c u R) :
    Hv R ∧ R 2 = Tr u 2 ∧ R 1 = Tr u 1 ∧ on R c 5 = -1 ∧ (∀ p s, s < 6 → (would R c p s ↔ would (Tr u) c p s)) ∧ (∀ p, ost R c 1 p = ost (Tr u) c 1 p) ∧ ∀ s, s < 6 → se R s 1 = se (Tr u) s 1 := by
  rcases h with rfl | ⟨x, rfl⟩
  · exact ⟨hT, rfl, rfl, h5, fun _ _ _ => Iff.rfl, fun _ => rfl, fun _ _ => rfl⟩
  · exact ⟨ost_Hx hT (by decide) (fun z => absurd z (by decide)) (fun _ => h5) (fun z => absurd z (by decide)), hd2_ost, hd1_ost, by rw [on_ost_ne (by decide) (by decide) (by decide)]; exact h5, fun p s hs => would_ost hs, fun p => ost_ost, fun s hs => se_ost1 hs⟩
theorem wo_tf {c : Nat} {u : MM} {R : Nat → Int32} (hT : Hv (Tr u)) (h5 : on (Tr u) c 5 = -1) (h : tfm c u R) (p : Int32) : ∀ n, n ≤ 6 → wo R c p n = wo (Tr u) c p n
  | 0, _ => rfl
  | n + 1, hn => by
    obtain ⟨-, -, -, -, k4, -, k6⟩ := tf hT h5 h
    simp only [wo]
    rw [wo_tf hT h5 h p n (by omega), k6 n (by omega), ifq (k4 p n (by omega))]
theorem isn_st (c p s : Int32) (u : MM) (R : Nat → Int32) : mX5_isNextInTrialFrom c p s (stT u R) = stT u (ost R (NN c) 1 p) := by
  unfold mX5_isNextInTrialFrom; rw [vw_stT, pv_stT]
theorem isn_r (c p s : Int32) (u : MM) (R : Nat → Int32) : rX5_isNextInTrialFrom c p s (stT u R) = bi (would R (NN c) p (NN s)) := by
  unfold rX5_isNextInTrialFrom; rw [vw_stT]
theorem isn_p {c p s : Int32} {u : MM} {R : Nat → Int32} (h1 : Hv R) (h2 : vp_in c (NN (R 2))) (h3 : on R (NN c) 5 = -1) (h4 : vp_in s 6) : pX5_isNextInTrialFrom c p s (stT u R) := by
  unfold pX5_isNextInTrialFrom; rw [vw_stT]; exact ⟨h1, h2, h3, h4⟩
theorem wif_st {c p : Int32} {u : MM} {R : Nat → Int32} : mX5_worthInTrialFrom c p (stT u R) = stT u (if NN (R 1) = 0 then R else ost R (NN c) 1 p) := by
  unfold mX5_worthInTrialFrom; rw [vw_stT, pv_stT]
  split <;> rfl
theorem wif_r (c p : Int32) (u : MM) (R : Nat → Int32) : rX5_worthInTrialFrom c p (stT u R) = wo R (NN c) p (NN (R 1)) := by
  unfold rX5_worthInTrialFrom; rw [vw_stT]
theorem wif_p {c p : Int32} {u : MM} {R : Nat → Int32} (h1 : Hv R) (h2 : vp_in c (NN (R 2))) (h3 : on R (NN c) 5 = -1) : pX5_worthInTrialFrom c p (stT u R) := by
  unfold pX5_worthInTrialFrom; rw [vw_stT]; exact ⟨h1, h2, h3⟩
theorem wtg_iff {R : Nat → Int32} {c : Nat} (h : Hc R c) : (on R c 5 = -1 ∧ ¬ on R c 0 = 2) ↔ wtg R c := ⟨fun z => ⟨h.sit.mpr z.1, z.2⟩, fun z => ⟨h.sit.mp z.1, z.2⟩⟩
theorem lX5_spots {w : WW} (hw : wOk w) {c s : Int32} {u : MM} (hv : Hv (vw u (91 * qP))) (hc : vp_in c (NN (vw u (91 * qP) 2))) (hs : vp_in s (NN (vw u (91 * qP) 1))) (h5 : on (vw u (91 * qP)) (NN c) 5 = -1) {Q : Option Value → MM → Prop} (hQ : Q (some (.int (spotN (vw u (91 * qP)) (NN c) (NN s) 100))) (stT u (ost (Tr u) (NN c) 1 99))) :
    ∀ (n i : Nat) (R : Nat → Int32), i + n = 100 → tfm (NN c) u R → (i = 100 → R = ost (Tr u) (NN c) 1 99) → GX5_spots w Q 59 [some (.ref (xA w)), some (.int c), some (.int s), some (.int (spotN (vw u (91 * qP)) (NN c) (NN s) i)), some (.int (nI i))] [] (stT u R) := by
  have hT := Tr_Hv hv
  have l := Tr_lv hv.1
  have t5 : on (Tr u) (NN c) 5 = -1 := by rw [← l.2.2.2.2 _ (vi_lt hc) 5 (by decide)]; exact h5
  have h6 : vp_in s 6 := vi_mono hs hv.1.M.1
  intro n
  induction n with
  | zero =>
    intro i R hi hR hf
    have e : i = 100 := by omega
    subst e
    have hle : (100 : Int32) ≤ nI 100 := by decide
    rw [eX5_spots_59]
    simp only [eX5_spots_0, eX5_spots_1, eX5_spots_2, eX5_spots_5, eX5_spots_8, eX5_spots_9, eX5_spots_10, eX5_spots_13, eX5_spots_16, eX5_spots_17, eX5_spots_18, eX5_spots_21, eX5_spots_22, eX5_spots_23, eX5_spots_26, eX5_spots_29, eX5_spots_30, eX5_spots_31, eX5_spots_34, eX5_spots_37, eX5_spots_38, eX5_spots_39, eX5_spots_42, eX5_spots_43, eX5_spots_44, eX5_spots_47, eX5_spots_48, eX5_spots_51, eX5_spots_54, eX5_spots_55, eX5_spots_56, eX5_spots_57, eX5_spots_61, eX5_spots_63, eX5_spots_66, eX5_spots_67, eX5_spots_68, eX5_spots_70, eX5_spots_71, eX5_spots_74, eX5_spots_77, eX5_spots_80, eX5_spots_83, eX5_spots_86, eX5_spots_87, kl_i, kl_r, kl_n, kl_l, true_and, and_true, true_implies, false_implies, not_true_eq_false, not_false_eq_true, i10, Classical.not_not, hle]
    rw [hf rfl]; exact hQ
  | succ n ih =>
    intro i R hi hR hf
    have hlt : ¬ (100 : Int32) ≤ nI i := nI_ge (a := i) (b := 100) (by omega) (by decide)
    obtain ⟨k0, k1, k2, k3, k4, k5, k6⟩ := tf hT t5 hR
    have hp : pX5_isNextInTrialFrom c (nI i) s (stT u R) := isn_p k0 (by rw [k1, ← l.2.2.1]; exact hc) k3 h6
    have wq : would R (NN c) (nI i) (NN s) ↔ would (vw u (91 * qP)) (NN c) (nI i) (NN s) := (k4 _ _ (vi_lt h6)).trans (would_lv l hv.1 _ (vi_lt hs)).symm
    have go : ∀ x : Int32, x = spotN (vw u (91 * qP)) (NN c) (NN s) (i + 1) → GX5_spots w Q 59 [some (.ref (xA w)), some (.int c), some (.int s), some (.int x), some (.int (nI i + 1))] [] (stT u (ost (Tr u) (NN c) 1 (nI i))) := fun x e => by
      rw [nI_1, e]; exact ih (i + 1) _ (by omega) (Or.inr ⟨_, rfl⟩) (fun z => by rw [show i = 99 by omega]; rfl)
    rw [eX5_spots_59]
    simp only [eX5_spots_0, eX5_spots_1, eX5_spots_2, eX5_spots_5, eX5_spots_8, eX5_spots_9, eX5_spots_10, eX5_spots_13, eX5_spots_16, eX5_spots_17, eX5_spots_18, eX5_spots_21, eX5_spots_22, eX5_spots_23, eX5_spots_26, eX5_spots_29, eX5_spots_30, eX5_spots_31, eX5_spots_34, eX5_spots_37, eX5_spots_38, eX5_spots_39, eX5_spots_42, eX5_spots_43, eX5_spots_44, eX5_spots_47, eX5_spots_48, eX5_spots_51, eX5_spots_54, eX5_spots_55, eX5_spots_56, eX5_spots_57, eX5_spots_61, eX5_spots_63, eX5_spots_66, eX5_spots_67, eX5_spots_68, eX5_spots_70, eX5_spots_71, eX5_spots_74, eX5_spots_77, eX5_spots_80, eX5_spots_83, eX5_spots_86, eX5_spots_87, kl_i, kl_r, kl_n, kl_l, true_and, and_true, true_implies, false_implies, not_true_eq_false, not_false_eq_true, i10, Classical.not_not, hlt, hw, eq_true hp, isn_r, isn_st, k5, wq, bi_0]
    refine ⟨fun d => go _ ?_, fun d => go _ ?_⟩
    · simp only [spotN]; rw [if_neg d, Int32.add_zero]
    · simp only [spotN]; rw [if_pos d]
theorem vX5_spots (w : WW) : VX5_spots w := by
  intro c s u hw h
  have hv : Hv (vw u (91 * qP)) := h.1
  have hO := hv.1
  by_cases c1 : isOn (vw u (91 * qP)) c
  · by_cases c2 : isSt (vw u (91 * qP)) s
    · have hs := (isSt_vi hO).mp c2
      have hc := (isOn_vi hO).mp c1
      have h10 : vp_in c 10 := vi_mono hc hO.K.1
      have hc10 : NN c < 10 := vi_lt h10
      have hW := wtg_iff (Hv.c hv (vi_lt hc))
      simp only [eX5_spots_0, eX5_spots_1, eX5_spots_2, eX5_spots_5, eX5_spots_8, eX5_spots_9, eX5_spots_10, eX5_spots_13, eX5_spots_16, eX5_spots_17, eX5_spots_18, eX5_spots_21, eX5_spots_22, eX5_spots_23, eX5_spots_26, eX5_spots_29, eX5_spots_30, eX5_spots_31, eX5_spots_34, eX5_spots_37, eX5_spots_38, eX5_spots_39, eX5_spots_42, eX5_spots_43, eX5_spots_44, eX5_spots_47, eX5_spots_48, eX5_spots_51, eX5_spots_54, eX5_spots_55, eX5_spots_56, eX5_spots_57, eX5_spots_61, eX5_spots_63, eX5_spots_66, eX5_spots_67, eX5_spots_68, eX5_spots_70, eX5_spots_71, eX5_spots_74, eX5_spots_77, eX5_spots_80, eX5_spots_83, eX5_spots_86, eX5_spots_87, kl_i, kl_r, kl_n, kl_l, true_and, and_true, true_implies, false_implies, not_true_eq_false, not_false_eq_true, i10, Classical.not_not, ok_x0, rfP, ok_x1, rfT, ok_x2, rfK, ok_x3, ix_x3, ok_x4, rf_x4, ok_x5, rf_x5, ok_x6, rf_x6, as_fdd, ai_fdd, xa_fdd, rd_fdd, ok_h0 w hqP, rf_h0 w hqP, ok_h1 w hqP, rf_h1 w hqP, ok_h2 w hqP, ix_h2 w hqP, ok_h3 w hqP, ix_h3 w hqP, ok_h4 w hqP, ix_h4 w hqP, ar_sa w hqP, rf_sa w hqP, ar_oa w hqP, rf_oa w hqP, hw_0, hw_1, hw_2, hu_0, hu_1, hu_2, on_vw, on_f, se_vw, se_f, vw_pv, pv_pv, ost_uI, sst_uI, sit_d, may_d, far_d, stay_d, goe_d, stp_d, hOk_h w hqP, hq_hA, ok_h0 w hqT, rf_h0 w hqT, ok_h1 w hqT, rf_h1 w hqT, ok_h2 w hqT, ix_h2 w hqT, ok_h3 w hqT, ix_h3 w hqT, ok_h4 w hqT, ix_h4 w hqT, ar_sa w hqT, rf_sa w hqT, ar_oa w hqT, rf_oa w hqT, hw_0, hw_1, hw_2, hu_0, hu_1, hu_2, on_vw, on_f, se_vw, se_f, vw_pv, pv_pv, ost_uI, sst_uI, sit_d, may_d, far_d, stay_d, goe_d, stp_d, hOk_h w hqT, hq_hA, pX5_finding, mX5_finding, rfx0, rfx1, rfx2, rfx3, rfx4, rfx5, rfx6, N_0, N_1, N_2, N_3, N_4, N_5, N_6, v7_0, v7_1, v7_2, v7_3, v7_4, v7_5, v7_6, pX5_isOne, rX5_isOne, bi_t c1, pX5_isSeat, rX5_isSeat, bi_t c2, bi_0, h10, ok_on0 w hqP hc10, ix_on0 w hqP hc10, ok_on1 w hqP hc10, ix_on1 w hqP hc10, ok_on2 w hqP hc10, ix_on2 w hqP hc10, ok_on3 w hqP hc10, ix_on3 w hqP hc10, ok_on4 w hqP hc10, ix_on4 w hqP hc10, ok_on5 w hqP hc10, ix_on5 w hqP hc10, ok_on6 w hqP hc10, ix_on6 w hqP hc10, oOk_on w hqP hc10, fo_on w hqP hc10, pX1_mayTakeSeat, hW, pX0_become, neTP, eq_true hO, rX5_spots, mX5_spots]
      refine ⟨fun d => ?_, fun d => toV (xl4 ?_)⟩
      · rw [bec_stT]
        refine lX5_spots hw hv hc hs (hW.mpr d).1 (toV (xlr (S := vw u (91 * qP)) ?_)) 100 0 _ (by decide) (Or.inl rfl) (fun z => absurd z (by decide))
        rw [oSpots, if_neg (fun z => z ⟨c1, c2⟩), if_neg (fun z => z d)]
      · rw [oSpots, if_neg (fun z => z ⟨c1, c2⟩), if_pos d]
    · simp only [eX5_spots_0, eX5_spots_1, eX5_spots_2, eX5_spots_5, eX5_spots_8, eX5_spots_9, eX5_spots_10, eX5_spots_13, eX5_spots_16, eX5_spots_17, eX5_spots_18, eX5_spots_21, eX5_spots_22, eX5_spots_23, eX5_spots_26, eX5_spots_29, eX5_spots_30, eX5_spots_31, eX5_spots_34, eX5_spots_37, eX5_spots_38, eX5_spots_39, eX5_spots_42, eX5_spots_43, eX5_spots_44, eX5_spots_47, eX5_spots_48, eX5_spots_51, eX5_spots_54, eX5_spots_55, eX5_spots_56, eX5_spots_57, eX5_spots_61, eX5_spots_63, eX5_spots_66, eX5_spots_67, eX5_spots_68, eX5_spots_70, eX5_spots_71, eX5_spots_74, eX5_spots_77, eX5_spots_80, eX5_spots_83, eX5_spots_86, eX5_spots_87, kl_i, kl_r, kl_n, kl_l, true_and, and_true, true_implies, false_implies, not_true_eq_false, not_false_eq_true, i10, Classical.not_not, ok_x0, rfP, ok_x1, rfT, ok_x2, rfK, ok_x3, ix_x3, ok_x4, rf_x4, ok_x5, rf_x5, ok_x6, rf_x6, as_fdd, ai_fdd, xa_fdd, rd_fdd, ok_h0 w hqP, rf_h0 w hqP, ok_h1 w hqP, rf_h1 w hqP, ok_h2 w hqP, ix_h2 w hqP, ok_h3 w hqP, ix_h3 w hqP, ok_h4 w hqP, ix_h4 w hqP, ar_sa w hqP, rf_sa w hqP, ar_oa w hqP, rf_oa w hqP, hw_0, hw_1, hw_2, hu_0, hu_1, hu_2, on_vw, on_f, se_vw, se_f, vw_pv, pv_pv, ost_uI, sst_uI, sit_d, may_d, far_d, stay_d, goe_d, stp_d, hOk_h w hqP, hq_hA, pX5_finding, mX5_finding, rfx0, rfx1, rfx2, rfx3, rfx4, rfx5, rfx6, N_0, N_1, N_2, N_3, N_4, N_5, N_6, v7_0, v7_1, v7_2, v7_3, v7_4, v7_5, v7_6, pX5_isOne, rX5_isOne, bi_t c1, pX5_isSeat, rX5_isSeat, bi_f c2, rX5_spots, mX5_spots, Option.some.injEq, Value.int.injEq]
      exact xl0 (by rw [oSpots, if_pos (fun z => c2 z.2)])
  · simp only [eX5_spots_0, eX5_spots_1, eX5_spots_2, eX5_spots_5, eX5_spots_8, eX5_spots_9, eX5_spots_10, eX5_spots_13, eX5_spots_16, eX5_spots_17, eX5_spots_18, eX5_spots_21, eX5_spots_22, eX5_spots_23, eX5_spots_26, eX5_spots_29, eX5_spots_30, eX5_spots_31, eX5_spots_34, eX5_spots_37, eX5_spots_38, eX5_spots_39, eX5_spots_42, eX5_spots_43, eX5_spots_44, eX5_spots_47, eX5_spots_48, eX5_spots_51, eX5_spots_54, eX5_spots_55, eX5_spots_56, eX5_spots_57, eX5_spots_61, eX5_spots_63, eX5_spots_66, eX5_spots_67, eX5_spots_68, eX5_spots_70, eX5_spots_71, eX5_spots_74, eX5_spots_77, eX5_spots_80, eX5_spots_83, eX5_spots_86, eX5_spots_87, kl_i, kl_r, kl_n, kl_l, true_and, and_true, true_implies, false_implies, not_true_eq_false, not_false_eq_true, i10, Classical.not_not, ok_x0, rfP, ok_x1, rfT, ok_x2, rfK, ok_x3, ix_x3, ok_x4, rf_x4, ok_x5, rf_x5, ok_x6, rf_x6, as_fdd, ai_fdd, xa_fdd, rd_fdd, ok_h0 w hqP, rf_h0 w hqP, ok_h1 w hqP, rf_h1 w hqP, ok_h2 w hqP, ix_h2 w hqP, ok_h3 w hqP, ix_h3 w hqP, ok_h4 w hqP, ix_h4 w hqP, ar_sa w hqP, rf_sa w hqP, ar_oa w hqP, rf_oa w hqP, hw_0, hw_1, hw_2, hu_0, hu_1, hu_2, on_vw, on_f, se_vw, se_f, vw_pv, pv_pv, ost_uI, sst_uI, sit_d, may_d, far_d, stay_d, goe_d, stp_d, hOk_h w hqP, hq_hA, pX5_finding, mX5_finding, rfx0, rfx1, rfx2, rfx3, rfx4, rfx5, rfx6, N_0, N_1, N_2, N_3, N_4, N_5, N_6, v7_0, v7_1, v7_2, v7_3, v7_4, v7_5, v7_6, pX5_isOne, rX5_isOne, bi_f c1, rX5_spots, mX5_spots, Option.some.injEq, Value.int.injEq]
    exact xl0 (by rw [oSpots, if_pos (fun z => c1 z.1)])
theorem wcX5_202 : ∀ x ∈ wV1 RX5 202 yX1_mayTakeSeat MX1_mayTakeSeat, x ∈ Gt := by decide +kernel
set_option maxRecDepth 20000 in
theorem KX5_spots_ok (w : WW) : KOk w MX5_spots (KX5_spots w) := KOk_mk flX5_ok ciX5_ok clX5_ok (fun _ _ h => by cases h) (fun _ _ h => by cases h) (List.forall_mem_cons.mpr ⟨itV (n := 52) (by decide) (COk_V (n := 1) (ci := 5) (ctX5_finding w) wcX5_52 nmX5_finding (by decide) (by decide) rfl (prX5_finding w)), List.forall_mem_cons.mpr ⟨itV (n := 67) (by decide) (COk_V (n := 1) (ci := 5) (ctX5_isSeat w) wcX5_67 nmX5_isSeat (by decide) (by decide) rfl (prX5_isSeat w)), List.forall_mem_cons.mpr ⟨itV (n := 99) (by decide) (COk_V (n := 1) (ci := 5) (ctX5_isOne w) wcX5_99 nmX5_isOne (by decide) (by decide) rfl (prX5_isOne w)), List.forall_mem_cons.mpr ⟨itV (n := 172) (by decide) (COk_V (n := 1) (ci := 0) (ctX0_become w) wcX5_172 nmX0_become (by decide) (by decide) rfl (prX0_become w)), List.forall_mem_cons.mpr ⟨itV (n := 202) (by decide) (COk_V (n := 0) (ci := 1) (ctX1_mayTakeSeat w) wcX5_202 nmX1_mayTakeSeat (by decide) (by decide) rfl (prX1_mayTakeSeat w)), List.forall_mem_cons.mpr ⟨itV (n := 205) (by decide) (COk_V (n := 3) (ci := 5) (ctX5_isNextInTrialFrom w) wcX5_205 nmX5_isNextInTrialFrom (by decide) (by decide) rfl (prX5_isNextInTrialFrom w)), List.forall_mem_nil _⟩⟩⟩⟩⟩⟩)
theorem ctX5_spots (w : WW) : CT w yX5_spots MX5_spots (csX5_spots w).2.1 (csX5_spots w).2.2 := by
  refine CT_of (by decide) rfl TX5_spots_ok TX5_spots_v (KX5_spots_ok w) (fun as u h => ?_)
  obtain ⟨a0, a1, a2, rfl, h⟩ := sgRII h
  obtain ⟨rfl, hwok, hh⟩ := h
  refine ⟨Nat.le_of_ble_eq_true rfl, ?_⟩
  have key := vX5_spots w a1 a2 u hwok hh
  exact key
theorem prX5_spots (w : WW) : ∀ as u, (csX5_spots w).2.1 as u → ∃ a r, as = .ref a :: r ∧ r.length = 2 ∧ okO w a 5 := by
  intro as u h
  obtain ⟨a0, a1, a2, rfl, h⟩ := sgRII h
  exact ⟨_, _, rfl, rfl, okO_x h⟩
theorem nearN_r (R : Nat → Int32) (c s : Nat) : ∀ n, nearN R c s n = -1 ∨ ∃ x, x < n ∧ nearN R c s n = nI x
  | 0 => Or.inl rfl
  | n + 1 => by
    rw [nearN]
    split
    · exact Or.inr ⟨n, by omega, rfl⟩
    · rcases nearN_r R c s n with h | ⟨x, h1, h2⟩
      · exact Or.inl h
      · exact Or.inr ⟨x, by omega, h2⟩
theorem nrT_f (R : Nat → Int32) (c s : Nat) (u : MM) : ∀ n, tfm c u (nrT R (Tr u) c s n)
  | 0 => Or.inl rfl
  | n + 1 => by
    rw [nrT]
    split
    · rcases nrT_f R c s u n with h | ⟨x, h⟩
      · rw [h]; exact Or.inr ⟨_, rfl⟩
      · rw [h, ost_ost]; exact Or.inr ⟨_, rfl⟩
    · exact nrT_f R c s u n
theorem lX5_nearest {w : WW} (hw : wOk w) {c s : Int32} {u : MM} (hv : Hv (vw u (91 * qP))) (hc : vp_in c (NN (vw u (91 * qP) 2))) (hs : vp_in s (NN (vw u (91 * qP) 1))) (h5 : on (vw u (91 * qP)) (NN c) 5 = -1) {Q : Option Value → MM → Prop} (hQ1 : nearN (vw u (91 * qP)) (NN c) (NN s) 100 = -1 → Q (some (.int (-1000000004))) (fndX 3 (stT u (nrT (vw u (91 * qP)) (Tr u) (NN c) (NN s) 100)))) (hQ2 : ¬ nearN (vw u (91 * qP)) (NN c) (NN s) 100 = -1 → Q (some (.int (nearN (vw u (91 * qP)) (NN c) (NN s) 100))) (stT u (nrT (vw u (91 * qP)) (Tr u) (NN c) (NN s) 100))) :
    ∀ (n i : Nat) (j : Option Value), i + n = 100 → GX5_nearest w Q 73 [some (.ref (xA w)), some (.int c), some (.int s), some (.int (on (vw u (91 * qP)) (NN c) 1)), some (.int (nearN (vw u (91 * qP)) (NN c) (NN s) i)), some (.int (nI i)), j] [] (stT u (nrT (vw u (91 * qP)) (Tr u) (NN c) (NN s) i)) := by
  have hT := Tr_Hv hv
  have l := Tr_lv hv.1
  have t5 : on (Tr u) (NN c) 5 = -1 := by rw [← l.2.2.2.2 _ (vi_lt hc) 5 (by decide)]; exact h5
  have h6 : vp_in s 6 := vi_mono hs hv.1.M.1
  intro n
  induction n with
  | zero =>
    intro i j hi
    have e : i = 100 := by omega
    subst e
    have hle : (100 : Int32) ≤ nI 100 := by decide
    rw [eX5_nearest_73]
    simp only [eX5_nearest_0, eX5_nearest_1, eX5_nearest_2, eX5_nearest_5, eX5_nearest_8, eX5_nearest_9, eX5_nearest_10, eX5_nearest_13, eX5_nearest_16, eX5_nearest_17, eX5_nearest_18, eX5_nearest_21, eX5_nearest_22, eX5_nearest_23, eX5_nearest_26, eX5_nearest_29, eX5_nearest_30, eX5_nearest_31, eX5_nearest_34, eX5_nearest_37, eX5_nearest_38, eX5_nearest_39, eX5_nearest_42, eX5_nearest_43, eX5_nearest_44, eX5_nearest_47, eX5_nearest_48, eX5_nearest_51, eX5_nearest_54, eX5_nearest_55, eX5_nearest_58, eX5_nearest_61, eX5_nearest_62, eX5_nearest_63, eX5_nearest_66, eX5_nearest_67, eX5_nearest_68, eX5_nearest_70, eX5_nearest_71, eX5_nearest_75, eX5_nearest_77, eX5_nearest_80, eX5_nearest_82, eX5_nearest_83, eX5_nearest_86, eX5_nearest_87, eX5_nearest_89, eX5_nearest_92, eX5_nearest_93, eX5_nearest_95, eX5_nearest_98, eX5_nearest_101, eX5_nearest_102, eX5_nearest_105, eX5_nearest_106, eX5_nearest_108, eX5_nearest_110, eX5_nearest_113, eX5_nearest_114, eX5_nearest_115, eX5_nearest_117, eX5_nearest_118, eX5_nearest_121, eX5_nearest_124, eX5_nearest_126, eX5_nearest_128, eX5_nearest_131, eX5_nearest_134, eX5_nearest_136, eX5_nearest_137, eX5_nearest_140, eX5_nearest_141, eX5_nearest_142, eX5_nearest_145, eX5_nearest_148, eX5_nearest_150, kl_i, kl_r, kl_n, kl_l, true_and, and_true, true_implies, false_implies, not_true_eq_false, not_false_eq_true, i10, Classical.not_not, pX5_finding, mX5_finding, rfx0, rfx1, rfx2, rfx3, rfx4, rfx5, rfx6, N_0, N_1, N_2, N_3, N_4, N_5, N_6, v7_0, v7_1, v7_2, v7_3, v7_4, v7_5, v7_6, hle]
    exact ⟨hQ2, hQ1⟩
  | succ n ih =>
    intro i j hi
    have hlt : ¬ (100 : Int32) ≤ nI i := nI_ge (a := i) (b := 100) (by omega) (by decide)
    have hR := nrT_f (vw u (91 * qP)) (NN c) (NN s) u i
    have hX := ih (i + 1)
    obtain ⟨k0, k1, k2, k3, k4, k5, k6⟩ := tf hT t5 hR
    have hp : pX5_isNextInTrialFrom c (nI i) s (stT u (nrT (vw u (91 * qP)) (Tr u) (NN c) (NN s) i)) := isn_p k0 (by rw [k1, ← l.2.2.1]; exact hc) k3 h6
    have wq : would (nrT (vw u (91 * qP)) (Tr u) (NN c) (NN s) i) (NN c) (nI i) (NN s) ↔ would (vw u (91 * qP)) (NN c) (nI i) (NN s) := (k4 _ _ (vi_lt h6)).trans (would_lv l hv.1 _ (vi_lt hs)).symm
    have neg : nearN (vw u (91 * qP)) (NN c) (NN s) i < 0 ↔ nearN (vw u (91 * qP)) (NN c) (NN s) i = -1 := by
      rcases nearN_r (vw u (91 * qP)) (NN c) (NN s) i with e | ⟨x, x1, x2⟩
      · rw [e]; exact ⟨fun _ => rfl, fun _ => by decide⟩
      · rw [x2]; exact ⟨fun z => absurd z (nI_pos (by omega)), fun z => absurd z (nI_ne1 (by omega))⟩
    -- from the flag on
    have tl : ∀ (f : Prop) [Decidable f] (j : Option Value), (f ↔ nearN (vw u (91 * qP)) (NN c) (NN s) i = -1 ∨ stepsP (on (vw u (91 * qP)) (NN c) 1) (nI i) < stepsP (on (vw u (91 * qP)) (NN c) 1) (nearN (vw u (91 * qP)) (NN c) (NN s) i)) → GX5_nearest w Q 106 [some (.ref (xA w)), some (.int c), some (.int s), some (.int (on (vw u (91 * qP)) (NN c) 1)), some (.int (nearN (vw u (91 * qP)) (NN c) (NN s) i)), some (.int (nI i)), j] [.int (bi f)] (stT u (nrT (vw u (91 * qP)) (Tr u) (NN c) (NN s) i)) := by
      intro f _ j hf
      simp only [eX5_nearest_0, eX5_nearest_1, eX5_nearest_2, eX5_nearest_5, eX5_nearest_8, eX5_nearest_9, eX5_nearest_10, eX5_nearest_13, eX5_nearest_16, eX5_nearest_17, eX5_nearest_18, eX5_nearest_21, eX5_nearest_22, eX5_nearest_23, eX5_nearest_26, eX5_nearest_29, eX5_nearest_30, eX5_nearest_31, eX5_nearest_34, eX5_nearest_37, eX5_nearest_38, eX5_nearest_39, eX5_nearest_42, eX5_nearest_43, eX5_nearest_44, eX5_nearest_47, eX5_nearest_48, eX5_nearest_51, eX5_nearest_54, eX5_nearest_55, eX5_nearest_58, eX5_nearest_61, eX5_nearest_62, eX5_nearest_63, eX5_nearest_66, eX5_nearest_67, eX5_nearest_68, eX5_nearest_70, eX5_nearest_71, eX5_nearest_75, eX5_nearest_77, eX5_nearest_80, eX5_nearest_82, eX5_nearest_83, eX5_nearest_86, eX5_nearest_87, eX5_nearest_89, eX5_nearest_92, eX5_nearest_93, eX5_nearest_95, eX5_nearest_98, eX5_nearest_101, eX5_nearest_102, eX5_nearest_105, eX5_nearest_106, eX5_nearest_108, eX5_nearest_110, eX5_nearest_113, eX5_nearest_114, eX5_nearest_115, eX5_nearest_117, eX5_nearest_118, eX5_nearest_121, eX5_nearest_124, eX5_nearest_126, eX5_nearest_128, eX5_nearest_131, eX5_nearest_134, eX5_nearest_136, eX5_nearest_137, eX5_nearest_140, eX5_nearest_141, eX5_nearest_142, eX5_nearest_145, eX5_nearest_148, eX5_nearest_150, kl_i, kl_r, kl_n, kl_l, true_and, and_true, true_implies, false_implies, not_true_eq_false, not_false_eq_true, i10, Classical.not_not, bi_0, hw, eq_true hp, isn_r, isn_st, wq]
      refine ⟨fun a => ?_, fun a => ⟨fun b => ?_, fun b => ?_⟩⟩
      · have e1 : nearN (vw u (91 * qP)) (NN c) (NN s) (i + 1) = nearN (vw u (91 * qP)) (NN c) (NN s) i := by
          rw [nearN, if_neg (fun z => a (hf.mpr (z.2.imp neg.mp id)))]
        have e2 : nrT (vw u (91 * qP)) (Tr u) (NN c) (NN s) (i + 1) = nrT (vw u (91 * qP)) (Tr u) (NN c) (NN s) i := by
          rw [nrT, if_neg (fun z => a (hf.mpr z))]
        have := hX (some (.int (bi f))) (by omega)
        rw [e1, e2, ← nI_1] at this
        exact this
      · have e1 : nearN (vw u (91 * qP)) (NN c) (NN s) (i + 1) = nearN (vw u (91 * qP)) (NN c) (NN s) i := by
          rw [nearN, if_neg (fun z => b z.1)]
        have e2 : nrT (vw u (91 * qP)) (Tr u) (NN c) (NN s) (i + 1) = ost (nrT (vw u (91 * qP)) (Tr u) (NN c) (NN s) i) (NN c) 1 (nI i) := by
          rw [nrT, if_pos (hf.mp a)]
        have := hX (some (.int (bi f))) (by omega)
        rw [e1, e2, ← nI_1] at this
        exact this
      · have e1 : nearN (vw u (91 * qP)) (NN c) (NN s) (i + 1) = nI i := by
          rw [nearN, if_pos ⟨b, (hf.mp a).imp neg.mpr id⟩]
        have e2 : nrT (vw u (91 * qP)) (Tr u) (NN c) (NN s) (i + 1) = ost (nrT (vw u (91 * qP)) (Tr u) (NN c) (NN s) i) (NN c) 1 (nI i) := by
          rw [nrT, if_pos (hf.mp a)]
        have := hX (some (.int (bi f))) (by omega)
        rw [e1, e2, ← nI_1] at this
        exact this
    have t1 := fun j => tl True j
    have t0 := fun j => tl False j
    rw [bi_t trivial] at t1
    rw [bi_f (fun z => z)] at t0
    rw [eX5_nearest_73]
    simp only [eX5_nearest_0, eX5_nearest_1, eX5_nearest_2, eX5_nearest_5, eX5_nearest_8, eX5_nearest_9, eX5_nearest_10, eX5_nearest_13, eX5_nearest_16, eX5_nearest_17, eX5_nearest_18, eX5_nearest_21, eX5_nearest_22, eX5_nearest_23, eX5_nearest_26, eX5_nearest_29, eX5_nearest_30, eX5_nearest_31, eX5_nearest_34, eX5_nearest_37, eX5_nearest_38, eX5_nearest_39, eX5_nearest_42, eX5_nearest_43, eX5_nearest_44, eX5_nearest_47, eX5_nearest_48, eX5_nearest_51, eX5_nearest_54, eX5_nearest_55, eX5_nearest_58, eX5_nearest_61, eX5_nearest_62, eX5_nearest_63, eX5_nearest_66, eX5_nearest_67, eX5_nearest_68, eX5_nearest_70, eX5_nearest_71, eX5_nearest_75, eX5_nearest_77, eX5_nearest_80, eX5_nearest_82, eX5_nearest_83, eX5_nearest_86, eX5_nearest_87, eX5_nearest_89, eX5_nearest_92, eX5_nearest_93, eX5_nearest_95, eX5_nearest_98, eX5_nearest_101, eX5_nearest_102, eX5_nearest_105, eX5_nearest_108, eX5_nearest_110, eX5_nearest_113, eX5_nearest_114, eX5_nearest_115, eX5_nearest_117, eX5_nearest_118, eX5_nearest_121, eX5_nearest_124, eX5_nearest_126, eX5_nearest_128, eX5_nearest_131, eX5_nearest_134, eX5_nearest_136, eX5_nearest_137, eX5_nearest_140, eX5_nearest_141, eX5_nearest_142, eX5_nearest_145, eX5_nearest_148, eX5_nearest_150, kl_i, kl_r, kl_n, kl_l, true_and, and_true, true_implies, false_implies, not_true_eq_false, not_false_eq_true, i10, Classical.not_not, hlt, pX5_steps, rX5_steps]
    refine ⟨fun a => t1 _ ⟨fun _ => Or.inl a, fun _ => trivial⟩, fun a => ⟨fun b => t0 _ ⟨fun z => z.elim, fun z => z.elim a (fun y => absurd y (Int32.not_lt.mpr b))⟩, fun b => t1 _ ⟨fun _ => Or.inr (Int32.not_le.mp b), fun _ => trivial⟩⟩⟩
theorem vX5_nearest (w : WW) : VX5_nearest w := by
  intro c s u hw h
  have hv : Hv (vw u (91 * qP)) := h.1
  have hO := hv.1
  by_cases c1 : isOn (vw u (91 * qP)) c
  · by_cases c2 : isSt (vw u (91 * qP)) s
    · have hs := (isSt_vi hO).mp c2
      have hc := (isOn_vi hO).mp c1
      have h10 : vp_in c 10 := vi_mono hc hO.K.1
      have hc10 : NN c < 10 := vi_lt h10
      have hW := wtg_iff (Hv.c hv (vi_lt hc))
      have e1 : on (vw (mX0_become qT qP u) (91 * qP)) (NN c) 1 = on (vw u (91 * qP)) (NN c) 1 := (bec_Tsc u).P (by omega)
      simp only [eX5_nearest_0, eX5_nearest_1, eX5_nearest_2, eX5_nearest_5, eX5_nearest_8, eX5_nearest_9, eX5_nearest_10, eX5_nearest_13, eX5_nearest_16, eX5_nearest_17, eX5_nearest_18, eX5_nearest_21, eX5_nearest_22, eX5_nearest_23, eX5_nearest_26, eX5_nearest_29, eX5_nearest_30, eX5_nearest_31, eX5_nearest_34, eX5_nearest_37, eX5_nearest_38, eX5_nearest_39, eX5_nearest_42, eX5_nearest_43, eX5_nearest_44, eX5_nearest_47, eX5_nearest_48, eX5_nearest_51, eX5_nearest_54, eX5_nearest_55, eX5_nearest_58, eX5_nearest_61, eX5_nearest_62, eX5_nearest_63, eX5_nearest_66, eX5_nearest_67, eX5_nearest_68, eX5_nearest_70, eX5_nearest_71, eX5_nearest_75, eX5_nearest_77, eX5_nearest_80, eX5_nearest_82, eX5_nearest_83, eX5_nearest_86, eX5_nearest_87, eX5_nearest_89, eX5_nearest_92, eX5_nearest_93, eX5_nearest_95, eX5_nearest_98, eX5_nearest_101, eX5_nearest_102, eX5_nearest_105, eX5_nearest_106, eX5_nearest_108, eX5_nearest_110, eX5_nearest_113, eX5_nearest_114, eX5_nearest_115, eX5_nearest_117, eX5_nearest_118, eX5_nearest_121, eX5_nearest_124, eX5_nearest_126, eX5_nearest_128, eX5_nearest_131, eX5_nearest_134, eX5_nearest_136, eX5_nearest_137, eX5_nearest_140, eX5_nearest_141, eX5_nearest_142, eX5_nearest_145, eX5_nearest_148, eX5_nearest_150, kl_i, kl_r, kl_n, kl_l, true_and, and_true, true_implies, false_implies, not_true_eq_false, not_false_eq_true, i10, Classical.not_not, ok_x0, rfP, ok_x1, rfT, ok_x2, rfK, ok_x3, ix_x3, ok_x4, rf_x4, ok_x5, rf_x5, ok_x6, rf_x6, as_fdd, ai_fdd, xa_fdd, rd_fdd, ok_h0 w hqP, rf_h0 w hqP, ok_h1 w hqP, rf_h1 w hqP, ok_h2 w hqP, ix_h2 w hqP, ok_h3 w hqP, ix_h3 w hqP, ok_h4 w hqP, ix_h4 w hqP, ar_sa w hqP, rf_sa w hqP, ar_oa w hqP, rf_oa w hqP, hw_0, hw_1, hw_2, hu_0, hu_1, hu_2, on_vw, on_f, se_vw, se_f, vw_pv, pv_pv, ost_uI, sst_uI, sit_d, may_d, far_d, stay_d, goe_d, stp_d, hOk_h w hqP, hq_hA, ok_h0 w hqT, rf_h0 w hqT, ok_h1 w hqT, rf_h1 w hqT, ok_h2 w hqT, ix_h2 w hqT, ok_h3 w hqT, ix_h3 w hqT, ok_h4 w hqT, ix_h4 w hqT, ar_sa w hqT, rf_sa w hqT, ar_oa w hqT, rf_oa w hqT, hw_0, hw_1, hw_2, hu_0, hu_1, hu_2, on_vw, on_f, se_vw, se_f, vw_pv, pv_pv, ost_uI, sst_uI, sit_d, may_d, far_d, stay_d, goe_d, stp_d, hOk_h w hqT, hq_hA, pX5_finding, mX5_finding, rfx0, rfx1, rfx2, rfx3, rfx4, rfx5, rfx6, N_0, N_1, N_2, N_3, N_4, N_5, N_6, v7_0, v7_1, v7_2, v7_3, v7_4, v7_5, v7_6, pX5_isOne, rX5_isOne, bi_t c1, pX5_isSeat, rX5_isSeat, bi_t c2, bi_0, h10, ok_on0 w hqP hc10, ix_on0 w hqP hc10, ok_on1 w hqP hc10, ix_on1 w hqP hc10, ok_on2 w hqP hc10, ix_on2 w hqP hc10, ok_on3 w hqP hc10, ix_on3 w hqP hc10, ok_on4 w hqP hc10, ix_on4 w hqP hc10, ok_on5 w hqP hc10, ix_on5 w hqP hc10, ok_on6 w hqP hc10, ix_on6 w hqP hc10, oOk_on w hqP hc10, fo_on w hqP hc10, pX1_mayTakeSeat, hW, pX0_become, neTP, eq_true hO, e1, rX5_nearest, mX5_nearest]
      refine ⟨fun d => ?_, fun d => toV (xl4 ?_)⟩
      · rw [bec_stT]
        refine lX5_nearest hw hv hc hs (hW.mpr d).1 (fun e => toV (xl3 ?_)) (fun e => toV (xlr (S := vw u (91 * qP)) ?_)) 100 0 _ (by decide)
        · rw [oNearest, if_neg (fun z => z ⟨c1, c2⟩), if_neg (fun z => z d), e, if_pos neg1]
        · rw [oNearest, if_neg (fun z => z ⟨c1, c2⟩), if_neg (fun z => z d), if_neg]
          rcases nearN_r (vw u (91 * qP)) (NN c) (NN s) 100 with q | ⟨x, x1, x2⟩
          · exact absurd q e
          · rw [x2]; exact nI_pos (by omega)
      · rw [oNearest, if_neg (fun z => z ⟨c1, c2⟩), if_pos d]
    · simp only [eX5_nearest_0, eX5_nearest_1, eX5_nearest_2, eX5_nearest_5, eX5_nearest_8, eX5_nearest_9, eX5_nearest_10, eX5_nearest_13, eX5_nearest_16, eX5_nearest_17, eX5_nearest_18, eX5_nearest_21, eX5_nearest_22, eX5_nearest_23, eX5_nearest_26, eX5_nearest_29, eX5_nearest_30, eX5_nearest_31, eX5_nearest_34, eX5_nearest_37, eX5_nearest_38, eX5_nearest_39, eX5_nearest_42, eX5_nearest_43, eX5_nearest_44, eX5_nearest_47, eX5_nearest_48, eX5_nearest_51, eX5_nearest_54, eX5_nearest_55, eX5_nearest_58, eX5_nearest_61, eX5_nearest_62, eX5_nearest_63, eX5_nearest_66, eX5_nearest_67, eX5_nearest_68, eX5_nearest_70, eX5_nearest_71, eX5_nearest_75, eX5_nearest_77, eX5_nearest_80, eX5_nearest_82, eX5_nearest_83, eX5_nearest_86, eX5_nearest_87, eX5_nearest_89, eX5_nearest_92, eX5_nearest_93, eX5_nearest_95, eX5_nearest_98, eX5_nearest_101, eX5_nearest_102, eX5_nearest_105, eX5_nearest_106, eX5_nearest_108, eX5_nearest_110, eX5_nearest_113, eX5_nearest_114, eX5_nearest_115, eX5_nearest_117, eX5_nearest_118, eX5_nearest_121, eX5_nearest_124, eX5_nearest_126, eX5_nearest_128, eX5_nearest_131, eX5_nearest_134, eX5_nearest_136, eX5_nearest_137, eX5_nearest_140, eX5_nearest_141, eX5_nearest_142, eX5_nearest_145, eX5_nearest_148, eX5_nearest_150, kl_i, kl_r, kl_n, kl_l, true_and, and_true, true_implies, false_implies, not_true_eq_false, not_false_eq_true, i10, Classical.not_not, ok_x0, rfP, ok_x1, rfT, ok_x2, rfK, ok_x3, ix_x3, ok_x4, rf_x4, ok_x5, rf_x5, ok_x6, rf_x6, as_fdd, ai_fdd, xa_fdd, rd_fdd, ok_h0 w hqP, rf_h0 w hqP, ok_h1 w hqP, rf_h1 w hqP, ok_h2 w hqP, ix_h2 w hqP, ok_h3 w hqP, ix_h3 w hqP, ok_h4 w hqP, ix_h4 w hqP, ar_sa w hqP, rf_sa w hqP, ar_oa w hqP, rf_oa w hqP, hw_0, hw_1, hw_2, hu_0, hu_1, hu_2, on_vw, on_f, se_vw, se_f, vw_pv, pv_pv, ost_uI, sst_uI, sit_d, may_d, far_d, stay_d, goe_d, stp_d, hOk_h w hqP, hq_hA, pX5_finding, mX5_finding, rfx0, rfx1, rfx2, rfx3, rfx4, rfx5, rfx6, N_0, N_1, N_2, N_3, N_4, N_5, N_6, v7_0, v7_1, v7_2, v7_3, v7_4, v7_5, v7_6, pX5_isOne, rX5_isOne, bi_t c1, pX5_isSeat, rX5_isSeat, bi_f c2, rX5_nearest, mX5_nearest, Option.some.injEq, Value.int.injEq]
      exact xl0 (by rw [oNearest, if_pos (fun z => c2 z.2)])
  · simp only [eX5_nearest_0, eX5_nearest_1, eX5_nearest_2, eX5_nearest_5, eX5_nearest_8, eX5_nearest_9, eX5_nearest_10, eX5_nearest_13, eX5_nearest_16, eX5_nearest_17, eX5_nearest_18, eX5_nearest_21, eX5_nearest_22, eX5_nearest_23, eX5_nearest_26, eX5_nearest_29, eX5_nearest_30, eX5_nearest_31, eX5_nearest_34, eX5_nearest_37, eX5_nearest_38, eX5_nearest_39, eX5_nearest_42, eX5_nearest_43, eX5_nearest_44, eX5_nearest_47, eX5_nearest_48, eX5_nearest_51, eX5_nearest_54, eX5_nearest_55, eX5_nearest_58, eX5_nearest_61, eX5_nearest_62, eX5_nearest_63, eX5_nearest_66, eX5_nearest_67, eX5_nearest_68, eX5_nearest_70, eX5_nearest_71, eX5_nearest_75, eX5_nearest_77, eX5_nearest_80, eX5_nearest_82, eX5_nearest_83, eX5_nearest_86, eX5_nearest_87, eX5_nearest_89, eX5_nearest_92, eX5_nearest_93, eX5_nearest_95, eX5_nearest_98, eX5_nearest_101, eX5_nearest_102, eX5_nearest_105, eX5_nearest_106, eX5_nearest_108, eX5_nearest_110, eX5_nearest_113, eX5_nearest_114, eX5_nearest_115, eX5_nearest_117, eX5_nearest_118, eX5_nearest_121, eX5_nearest_124, eX5_nearest_126, eX5_nearest_128, eX5_nearest_131, eX5_nearest_134, eX5_nearest_136, eX5_nearest_137, eX5_nearest_140, eX5_nearest_141, eX5_nearest_142, eX5_nearest_145, eX5_nearest_148, eX5_nearest_150, kl_i, kl_r, kl_n, kl_l, true_and, and_true, true_implies, false_implies, not_true_eq_false, not_false_eq_true, i10, Classical.not_not, ok_x0, rfP, ok_x1, rfT, ok_x2, rfK, ok_x3, ix_x3, ok_x4, rf_x4, ok_x5, rf_x5, ok_x6, rf_x6, as_fdd, ai_fdd, xa_fdd, rd_fdd, ok_h0 w hqP, rf_h0 w hqP, ok_h1 w hqP, rf_h1 w hqP, ok_h2 w hqP, ix_h2 w hqP, ok_h3 w hqP, ix_h3 w hqP, ok_h4 w hqP, ix_h4 w hqP, ar_sa w hqP, rf_sa w hqP, ar_oa w hqP, rf_oa w hqP, hw_0, hw_1, hw_2, hu_0, hu_1, hu_2, on_vw, on_f, se_vw, se_f, vw_pv, pv_pv, ost_uI, sst_uI, sit_d, may_d, far_d, stay_d, goe_d, stp_d, hOk_h w hqP, hq_hA, pX5_finding, mX5_finding, rfx0, rfx1, rfx2, rfx3, rfx4, rfx5, rfx6, N_0, N_1, N_2, N_3, N_4, N_5, N_6, v7_0, v7_1, v7_2, v7_3, v7_4, v7_5, v7_6, pX5_isOne, rX5_isOne, bi_f c1, rX5_nearest, mX5_nearest, Option.some.injEq, Value.int.injEq]
    exact xl0 (by rw [oNearest, if_pos (fun z => c1 z.1)])
theorem wcX5_65744 : ∀ x ∈ wS1 RX5 208 yX5_steps MX5_steps, x ∈ Gt := by decide +kernel
theorem nmX5_steps : nmOk yX5_steps 2 = true := by decide +kernel
set_option maxRecDepth 20000 in
theorem KX5_nearest_ok (w : WW) : KOk w MX5_nearest (KX5_nearest w) := KOk_mk flX5_ok ciX5_ok clX5_ok (fun _ _ h => by cases h) (fun _ _ h => by cases h) (List.forall_mem_cons.mpr ⟨itV (n := 52) (by decide) (COk_V (n := 1) (ci := 5) (ctX5_finding w) wcX5_52 nmX5_finding (by decide) (by decide) rfl (prX5_finding w)), List.forall_mem_cons.mpr ⟨itV (n := 67) (by decide) (COk_V (n := 1) (ci := 5) (ctX5_isSeat w) wcX5_67 nmX5_isSeat (by decide) (by decide) rfl (prX5_isSeat w)), List.forall_mem_cons.mpr ⟨itV (n := 99) (by decide) (COk_V (n := 1) (ci := 5) (ctX5_isOne w) wcX5_99 nmX5_isOne (by decide) (by decide) rfl (prX5_isOne w)), List.forall_mem_cons.mpr ⟨itV (n := 172) (by decide) (COk_V (n := 1) (ci := 0) (ctX0_become w) wcX5_172 nmX0_become (by decide) (by decide) rfl (prX0_become w)), List.forall_mem_cons.mpr ⟨itV (n := 202) (by decide) (COk_V (n := 0) (ci := 1) (ctX1_mayTakeSeat w) wcX5_202 nmX1_mayTakeSeat (by decide) (by decide) rfl (prX1_mayTakeSeat w)), List.forall_mem_cons.mpr ⟨itV (n := 205) (by decide) (COk_V (n := 3) (ci := 5) (ctX5_isNextInTrialFrom w) wcX5_205 nmX5_isNextInTrialFrom (by decide) (by decide) rfl (prX5_isNextInTrialFrom w)), List.forall_mem_cons.mpr ⟨itS (n := 208) (COk_S (n := 2) (ctX5_steps w) wcX5_65744 nmX5_steps (by decide)), List.forall_mem_nil _⟩⟩⟩⟩⟩⟩⟩)
theorem ctX5_nearest (w : WW) : CT w yX5_nearest MX5_nearest (csX5_nearest w).2.1 (csX5_nearest w).2.2 := by
  refine CT_of (by decide) rfl TX5_nearest_ok TX5_nearest_v (KX5_nearest_ok w) (fun as u h => ?_)
  obtain ⟨a0, a1, a2, rfl, h⟩ := sgRII h
  obtain ⟨rfl, hwok, hh⟩ := h
  refine ⟨Nat.le_of_ble_eq_true rfl, ?_⟩
  have key := vX5_nearest w a1 a2 u hwok hh
  exact key
theorem prX5_nearest (w : WW) : ∀ as u, (csX5_nearest w).2.1 as u → ∃ a r, as = .ref a :: r ∧ r.length = 2 ∧ okO w a 5 := by
  intro as u h
  obtain ⟨a0, a1, a2, rfl, h⟩ := sgRII h
  exact ⟨_, _, rfl, rfl, okO_x h⟩
theorem vX5_place (w : WW) : VX5_place w := by
  intro c p u hw h
  have hv : Hv (vw u (91 * qP)) := h.1
  have hO := hv.1
  by_cases c1 : isOn (vw u (91 * qP)) c
  · have hc := (isOn_vi hO).mp c1
    have h10 : vp_in c 10 := vi_mono hc hO.K.1
    have hc10 : NN c < 10 := vi_lt h10
    have hW := wtg_iff (Hv.c hv (vi_lt hc))
    have l := Tr_lv hO
    by_cases d : wtg (vw u (91 * qP)) (NN c)
    · have t5 : on (Tr u) (NN c) 5 = -1 := by rw [← l.2.2.2.2 _ (vi_lt hc) 5 (by decide)]; exact (hW.mpr d).1
      have hp : pX5_worthInTrialFrom c p (mX0_become qT qP u) := ⟨Tr_Hv hv, by rw [show vw (mX0_become qT qP u) (91 * qT) 2 = vw u (91 * qP) 2 from l.2.2.1.symm]; exact hc, t5⟩
      have hr : rX5_worthInTrialFrom c p (mX0_become qT qP u) = wo (vw u (91 * qP)) (NN c) p (NN (vw u (91 * qP) 1)) := by
        unfold rX5_worthInTrialFrom
        rw [show vw (mX0_become qT qP u) (91 * qT) 1 = vw u (91 * qP) 1 from l.2.1.symm, wo_lv l hO p _ (Nat.le_refl _)]
      simp only [eX5_place_0, eX5_place_1, eX5_place_2, eX5_place_5, eX5_place_8, eX5_place_9, eX5_place_12, eX5_place_15, eX5_place_16, eX5_place_17, eX5_place_20, eX5_place_21, eX5_place_22, eX5_place_25, eX5_place_28, eX5_place_29, eX5_place_30, eX5_place_33, eX5_place_36, eX5_place_37, eX5_place_38, eX5_place_41, eX5_place_42, eX5_place_43, eX5_place_46, eX5_place_47, eX5_place_50, eX5_place_53, eX5_place_54, eX5_place_55, eX5_place_56, eX5_place_59, kl_i, kl_r, kl_n, kl_l, true_and, and_true, true_implies, false_implies, not_true_eq_false, not_false_eq_true, i10, Classical.not_not, ok_x0, rfP, ok_x1, rfT, ok_x2, rfK, ok_x3, ix_x3, ok_x4, rf_x4, ok_x5, rf_x5, ok_x6, rf_x6, as_fdd, ai_fdd, xa_fdd, rd_fdd, ok_h0 w hqP, rf_h0 w hqP, ok_h1 w hqP, rf_h1 w hqP, ok_h2 w hqP, ix_h2 w hqP, ok_h3 w hqP, ix_h3 w hqP, ok_h4 w hqP, ix_h4 w hqP, ar_sa w hqP, rf_sa w hqP, ar_oa w hqP, rf_oa w hqP, hw_0, hw_1, hw_2, hu_0, hu_1, hu_2, on_vw, on_f, se_vw, se_f, vw_pv, pv_pv, ost_uI, sst_uI, sit_d, may_d, far_d, stay_d, goe_d, stp_d, hOk_h w hqP, hq_hA, ok_h0 w hqT, rf_h0 w hqT, ok_h1 w hqT, rf_h1 w hqT, ok_h2 w hqT, ix_h2 w hqT, ok_h3 w hqT, ix_h3 w hqT, ok_h4 w hqT, ix_h4 w hqT, ar_sa w hqT, rf_sa w hqT, ar_oa w hqT, rf_oa w hqT, hw_0, hw_1, hw_2, hu_0, hu_1, hu_2, on_vw, on_f, se_vw, se_f, vw_pv, pv_pv, ost_uI, sst_uI, sit_d, may_d, far_d, stay_d, goe_d, stp_d, hOk_h w hqT, hq_hA, pX5_finding, mX5_finding, rfx0, rfx1, rfx2, rfx3, rfx4, rfx5, rfx6, N_0, N_1, N_2, N_3, N_4, N_5, N_6, v7_0, v7_1, v7_2, v7_3, v7_4, v7_5, v7_6, pX5_isOne, rX5_isOne, bi_t c1, pX5_isSpot, rX5_isSpot, bi_0, h10, ok_on0 w hqP hc10, ix_on0 w hqP hc10, ok_on1 w hqP hc10, ix_on1 w hqP hc10, ok_on2 w hqP hc10, ix_on2 w hqP hc10, ok_on3 w hqP hc10, ix_on3 w hqP hc10, ok_on4 w hqP hc10, ix_on4 w hqP hc10, ok_on5 w hqP hc10, ix_on5 w hqP hc10, ok_on6 w hqP hc10, ix_on6 w hqP hc10, oOk_on w hqP hc10, fo_on w hqP hc10, pX1_mayTakeSeat, hW, eq_true d, pX0_become, neTP, eq_true hO, hw, eq_true hp, hr, rX5_place, mX5_place, Option.some.injEq, Value.int.injEq]
      refine ⟨fun f => xlr (S := vw u (91 * qP)) ?_, fun f => xl0 ?_⟩
      · rw [oPlace, if_neg (fun z => z ⟨c1, f⟩), if_pos d]
      · rw [oPlace, if_pos (fun z => f z.2)]
    · simp only [eX5_place_0, eX5_place_1, eX5_place_2, eX5_place_5, eX5_place_8, eX5_place_9, eX5_place_12, eX5_place_15, eX5_place_16, eX5_place_17, eX5_place_20, eX5_place_21, eX5_place_22, eX5_place_25, eX5_place_28, eX5_place_29, eX5_place_30, eX5_place_33, eX5_place_36, eX5_place_37, eX5_place_38, eX5_place_41, eX5_place_42, eX5_place_43, eX5_place_46, eX5_place_47, eX5_place_50, eX5_place_53, eX5_place_54, eX5_place_55, eX5_place_56, eX5_place_59, kl_i, kl_r, kl_n, kl_l, true_and, and_true, true_implies, false_implies, not_true_eq_false, not_false_eq_true, i10, Classical.not_not, ok_x0, rfP, ok_x1, rfT, ok_x2, rfK, ok_x3, ix_x3, ok_x4, rf_x4, ok_x5, rf_x5, ok_x6, rf_x6, as_fdd, ai_fdd, xa_fdd, rd_fdd, ok_h0 w hqP, rf_h0 w hqP, ok_h1 w hqP, rf_h1 w hqP, ok_h2 w hqP, ix_h2 w hqP, ok_h3 w hqP, ix_h3 w hqP, ok_h4 w hqP, ix_h4 w hqP, ar_sa w hqP, rf_sa w hqP, ar_oa w hqP, rf_oa w hqP, hw_0, hw_1, hw_2, hu_0, hu_1, hu_2, on_vw, on_f, se_vw, se_f, vw_pv, pv_pv, ost_uI, sst_uI, sit_d, may_d, far_d, stay_d, goe_d, stp_d, hOk_h w hqP, hq_hA, ok_h0 w hqT, rf_h0 w hqT, ok_h1 w hqT, rf_h1 w hqT, ok_h2 w hqT, ix_h2 w hqT, ok_h3 w hqT, ix_h3 w hqT, ok_h4 w hqT, ix_h4 w hqT, ar_sa w hqT, rf_sa w hqT, ar_oa w hqT, rf_oa w hqT, hw_0, hw_1, hw_2, hu_0, hu_1, hu_2, on_vw, on_f, se_vw, se_f, vw_pv, pv_pv, ost_uI, sst_uI, sit_d, may_d, far_d, stay_d, goe_d, stp_d, hOk_h w hqT, hq_hA, pX5_finding, mX5_finding, rfx0, rfx1, rfx2, rfx3, rfx4, rfx5, rfx6, N_0, N_1, N_2, N_3, N_4, N_5, N_6, v7_0, v7_1, v7_2, v7_3, v7_4, v7_5, v7_6, pX5_isOne, rX5_isOne, bi_t c1, pX5_isSpot, rX5_isSpot, bi_0, h10, ok_on0 w hqP hc10, ix_on0 w hqP hc10, ok_on1 w hqP hc10, ix_on1 w hqP hc10, ok_on2 w hqP hc10, ix_on2 w hqP hc10, ok_on3 w hqP hc10, ix_on3 w hqP hc10, ok_on4 w hqP hc10, ix_on4 w hqP hc10, ok_on5 w hqP hc10, ix_on5 w hqP hc10, ok_on6 w hqP hc10, ix_on6 w hqP hc10, oOk_on w hqP hc10, fo_on w hqP hc10, pX1_mayTakeSeat, hW, eq_false d, rX5_place, mX5_place, Option.some.injEq, Value.int.injEq]
      refine ⟨fun f => xl4 ?_, fun f => xl0 ?_⟩
      · rw [oPlace, if_neg (fun z => z ⟨c1, f⟩), if_neg d]
      · rw [oPlace, if_pos (fun z => f z.2)]
  · simp only [eX5_place_0, eX5_place_1, eX5_place_2, eX5_place_5, eX5_place_8, eX5_place_9, eX5_place_12, eX5_place_15, eX5_place_16, eX5_place_17, eX5_place_20, eX5_place_21, eX5_place_22, eX5_place_25, eX5_place_28, eX5_place_29, eX5_place_30, eX5_place_33, eX5_place_36, eX5_place_37, eX5_place_38, eX5_place_41, eX5_place_42, eX5_place_43, eX5_place_46, eX5_place_47, eX5_place_50, eX5_place_53, eX5_place_54, eX5_place_55, eX5_place_56, eX5_place_59, kl_i, kl_r, kl_n, kl_l, true_and, and_true, true_implies, false_implies, not_true_eq_false, not_false_eq_true, i10, Classical.not_not, ok_x0, rfP, ok_x1, rfT, ok_x2, rfK, ok_x3, ix_x3, ok_x4, rf_x4, ok_x5, rf_x5, ok_x6, rf_x6, as_fdd, ai_fdd, xa_fdd, rd_fdd, ok_h0 w hqP, rf_h0 w hqP, ok_h1 w hqP, rf_h1 w hqP, ok_h2 w hqP, ix_h2 w hqP, ok_h3 w hqP, ix_h3 w hqP, ok_h4 w hqP, ix_h4 w hqP, ar_sa w hqP, rf_sa w hqP, ar_oa w hqP, rf_oa w hqP, hw_0, hw_1, hw_2, hu_0, hu_1, hu_2, on_vw, on_f, se_vw, se_f, vw_pv, pv_pv, ost_uI, sst_uI, sit_d, may_d, far_d, stay_d, goe_d, stp_d, hOk_h w hqP, hq_hA, pX5_finding, mX5_finding, rfx0, rfx1, rfx2, rfx3, rfx4, rfx5, rfx6, N_0, N_1, N_2, N_3, N_4, N_5, N_6, v7_0, v7_1, v7_2, v7_3, v7_4, v7_5, v7_6, pX5_isOne, rX5_isOne, bi_f c1, rX5_place, mX5_place, Option.some.injEq, Value.int.injEq]
    exact xl0 (by rw [oPlace, if_pos (fun z => c1 z.1)])
theorem wcX5_211 : ∀ x ∈ wV1 RX5 211 yX5_worthInTrialFrom MX5_worthInTrialFrom, x ∈ Gt := by decide +kernel
theorem nmX5_worthInTrialFrom : nmOk yX5_worthInTrialFrom 2 = true := by decide +kernel
set_option maxRecDepth 20000 in
theorem KX5_place_ok (w : WW) : KOk w MX5_place (KX5_place w) := KOk_mk flX5_ok ciX5_ok clX5_ok (fun _ _ h => by cases h) (fun _ _ h => by cases h) (List.forall_mem_cons.mpr ⟨itV (n := 52) (by decide) (COk_V (n := 1) (ci := 5) (ctX5_finding w) wcX5_52 nmX5_finding (by decide) (by decide) rfl (prX5_finding w)), List.forall_mem_cons.mpr ⟨itV (n := 99) (by decide) (COk_V (n := 1) (ci := 5) (ctX5_isOne w) wcX5_99 nmX5_isOne (by decide) (by decide) rfl (prX5_isOne w)), List.forall_mem_cons.mpr ⟨itV (n := 172) (by decide) (COk_V (n := 1) (ci := 0) (ctX0_become w) wcX5_172 nmX0_become (by decide) (by decide) rfl (prX0_become w)), List.forall_mem_cons.mpr ⟨itV (n := 202) (by decide) (COk_V (n := 0) (ci := 1) (ctX1_mayTakeSeat w) wcX5_202 nmX1_mayTakeSeat (by decide) (by decide) rfl (prX1_mayTakeSeat w)), List.forall_mem_cons.mpr ⟨itV (n := 211) (by decide) (COk_V (n := 2) (ci := 5) (ctX5_worthInTrialFrom w) wcX5_211 nmX5_worthInTrialFrom (by decide) (by decide) rfl (prX5_worthInTrialFrom w)), List.forall_mem_cons.mpr ⟨itS (n := 44) (COk_S (n := 1) (ctX5_isSpot w) wcX5_65580 nmX5_isSpot (by decide)), List.forall_mem_nil _⟩⟩⟩⟩⟩⟩)
theorem ctX5_place (w : WW) : CT w yX5_place MX5_place (csX5_place w).2.1 (csX5_place w).2.2 := by
  refine CT_of (by decide) rfl TX5_place_ok TX5_place_v (KX5_place_ok w) (fun as u h => ?_)
  obtain ⟨a0, a1, a2, rfl, h⟩ := sgRII h
  obtain ⟨rfl, hwok, hh⟩ := h
  refine ⟨Nat.le_of_ble_eq_true rfl, ?_⟩
  have key := vX5_place w a1 a2 u hwok hh
  exact key
theorem prX5_place (w : WW) : ∀ as u, (csX5_place w).2.1 as u → ∃ a r, as = .ref a :: r ∧ r.length = 2 ∧ okO w a 5 := by
  intro as u h
  obtain ⟨a0, a1, a2, rfl, h⟩ := sgRII h
  exact ⟨_, _, rfl, rfl, okO_x h⟩
theorem bsM_f (c : Int32) (u : MM) : ∀ n, ∃ R, bsM c u n = stT u R ∧ tfm (NN c) u R
  | 0 => ⟨_, bec_stT u, Or.inl rfl⟩
  | n + 1 => by
    obtain ⟨R, h1, h2⟩ := bsM_f c u n
    rw [bsM, h1, wif_st]
    refine ⟨_, rfl, ?_⟩
    split
    · exact h2
    · rcases h2 with h | ⟨x, h⟩
      · rw [h]; exact Or.inr ⟨_, rfl⟩
      · rw [h, ost_ost]; exact Or.inr ⟨_, rfl⟩
theorem lX5_best {w : WW} (hw : wOk w) {c : Int32} {u : MM} (hv : Hv (vw u (91 * qP))) (hc : vp_in c (NN (vw u (91 * qP) 2))) (h5 : on (vw u (91 * qP)) (NN c) 5 = -1) {Q : Option Value → MM → Prop} (hQ : Q (some (.int (bestN (vw u (91 * qP)) (NN c) 100).1)) (bsM c u 100)) :
    ∀ (n i : Nat) (j : Option Value), i + n = 100 → GX5_best w Q 53 [some (.ref (xA w)), some (.int c), some (.int (bestN (vw u (91 * qP)) (NN c) i).1), some (.int (bestN (vw u (91 * qP)) (NN c) i).2), some (.int (nI i)), j] [] (bsM c u i) := by
  have hT := Tr_Hv hv
  have l := Tr_lv hv.1
  have t5 : on (Tr u) (NN c) 5 = -1 := by rw [← l.2.2.2.2 _ (vi_lt hc) 5 (by decide)]; exact h5
  intro n
  induction n with
  | zero =>
    intro i j hi
    have e : i = 100 := by omega
    subst e
    have hle : (100 : Int32) ≤ nI 100 := by decide
    rw [eX5_best_53]
    simp only [eX5_best_0, eX5_best_1, eX5_best_2, eX5_best_5, eX5_best_8, eX5_best_9, eX5_best_10, eX5_best_13, eX5_best_14, eX5_best_15, eX5_best_18, eX5_best_21, eX5_best_22, eX5_best_23, eX5_best_26, eX5_best_29, eX5_best_30, eX5_best_31, eX5_best_34, eX5_best_35, eX5_best_36, eX5_best_39, eX5_best_40, eX5_best_43, eX5_best_46, eX5_best_47, eX5_best_48, eX5_best_49, eX5_best_50, eX5_best_51, eX5_best_55, eX5_best_57, eX5_best_60, eX5_best_61, eX5_best_62, eX5_best_64, eX5_best_67, eX5_best_69, eX5_best_71, eX5_best_72, eX5_best_75, eX5_best_77, eX5_best_78, eX5_best_80, eX5_best_81, eX5_best_84, eX5_best_87, eX5_best_88, kl_i, kl_r, kl_n, kl_l, true_and, and_true, true_implies, false_implies, not_true_eq_false, not_false_eq_true, i10, Classical.not_not, hle]
    exact hQ
  | succ n ih =>
    intro i j hi
    have hlt : ¬ (100 : Int32) ≤ nI i := nI_ge (a := i) (b := 100) (by omega) (by decide)
    obtain ⟨R, r1, r2⟩ := bsM_f c u i
    obtain ⟨k0, k1, k2, k3, k4, k5, k6⟩ := tf hT t5 r2
    have hM : NN (Tr u 1) ≤ 6 := hT.1.M.1
    have hp : pX5_worthInTrialFrom c (nI i) (bsM c u i) := by rw [r1]; exact wif_p k0 (by rw [k1, ← l.2.2.1]; exact hc) k3
    have hr : rX5_worthInTrialFrom c (nI i) (bsM c u i) = wo (vw u (91 * qP)) (NN c) (nI i) (NN (vw u (91 * qP) 1)) := by
      rw [r1, wif_r, k2, wo_tf hT t5 r2 _ _ hM, ← l.2.1, wo_lv l hv.1 _ _ (Nat.le_refl _)]
    have go : ∀ (a b : Int32) (j : Option Value), (a, b) = bestN (vw u (91 * qP)) (NN c) (i + 1) → GX5_best w Q 53 [some (.ref (xA w)), some (.int c), some (.int a), some (.int b), some (.int (nI i + 1)), j] [] (mX5_worthInTrialFrom c (nI i) (bsM c u i)) := fun a b j e => by
      have := ih (i + 1) j (by omega)
      rw [← e] at this
      rw [nI_1]; exact this
    rw [eX5_best_53]
    simp only [eX5_best_0, eX5_best_1, eX5_best_2, eX5_best_5, eX5_best_8, eX5_best_9, eX5_best_10, eX5_best_13, eX5_best_14, eX5_best_15, eX5_best_18, eX5_best_21, eX5_best_22, eX5_best_23, eX5_best_26, eX5_best_29, eX5_best_30, eX5_best_31, eX5_best_34, eX5_best_35, eX5_best_36, eX5_best_39, eX5_best_40, eX5_best_43, eX5_best_46, eX5_best_47, eX5_best_48, eX5_best_49, eX5_best_50, eX5_best_51, eX5_best_55, eX5_best_57, eX5_best_60, eX5_best_61, eX5_best_62, eX5_best_64, eX5_best_67, eX5_best_69, eX5_best_71, eX5_best_72, eX5_best_75, eX5_best_77, eX5_best_78, eX5_best_80, eX5_best_81, eX5_best_84, eX5_best_87, eX5_best_88, kl_i, kl_r, kl_n, kl_l, true_and, and_true, true_implies, false_implies, not_true_eq_false, not_false_eq_true, i10, Classical.not_not, hlt, hw, eq_true hp, hr]
    refine ⟨fun d => go _ _ _ ?_, fun d => go _ _ _ ?_⟩
    · rw [bestN, if_neg (Int32.not_lt.mpr d)]
    · rw [bestN, if_pos (Int32.not_le.mp d)]
theorem vX5_best (w : WW) : VX5_best w := by
  intro c u hw h
  have hv : Hv (vw u (91 * qP)) := h.1
  have hO := hv.1
  by_cases c1 : isOn (vw u (91 * qP)) c
  · have hc := (isOn_vi hO).mp c1
    have h10 : vp_in c 10 := vi_mono hc hO.K.1
    have hc10 : NN c < 10 := vi_lt h10
    have hW := wtg_iff (Hv.c hv (vi_lt hc))
    simp only [eX5_best_0, eX5_best_1, eX5_best_2, eX5_best_5, eX5_best_8, eX5_best_9, eX5_best_10, eX5_best_13, eX5_best_14, eX5_best_15, eX5_best_18, eX5_best_21, eX5_best_22, eX5_best_23, eX5_best_26, eX5_best_29, eX5_best_30, eX5_best_31, eX5_best_34, eX5_best_35, eX5_best_36, eX5_best_39, eX5_best_40, eX5_best_43, eX5_best_46, eX5_best_47, eX5_best_48, eX5_best_49, eX5_best_50, eX5_best_51, eX5_best_55, eX5_best_57, eX5_best_60, eX5_best_61, eX5_best_62, eX5_best_64, eX5_best_67, eX5_best_69, eX5_best_71, eX5_best_72, eX5_best_75, eX5_best_77, eX5_best_78, eX5_best_80, eX5_best_81, eX5_best_84, eX5_best_87, eX5_best_88, kl_i, kl_r, kl_n, kl_l, true_and, and_true, true_implies, false_implies, not_true_eq_false, not_false_eq_true, i10, Classical.not_not, ok_x0, rfP, ok_x1, rfT, ok_x2, rfK, ok_x3, ix_x3, ok_x4, rf_x4, ok_x5, rf_x5, ok_x6, rf_x6, as_fdd, ai_fdd, xa_fdd, rd_fdd, ok_h0 w hqP, rf_h0 w hqP, ok_h1 w hqP, rf_h1 w hqP, ok_h2 w hqP, ix_h2 w hqP, ok_h3 w hqP, ix_h3 w hqP, ok_h4 w hqP, ix_h4 w hqP, ar_sa w hqP, rf_sa w hqP, ar_oa w hqP, rf_oa w hqP, hw_0, hw_1, hw_2, hu_0, hu_1, hu_2, on_vw, on_f, se_vw, se_f, vw_pv, pv_pv, ost_uI, sst_uI, sit_d, may_d, far_d, stay_d, goe_d, stp_d, hOk_h w hqP, hq_hA, ok_h0 w hqT, rf_h0 w hqT, ok_h1 w hqT, rf_h1 w hqT, ok_h2 w hqT, ix_h2 w hqT, ok_h3 w hqT, ix_h3 w hqT, ok_h4 w hqT, ix_h4 w hqT, ar_sa w hqT, rf_sa w hqT, ar_oa w hqT, rf_oa w hqT, hw_0, hw_1, hw_2, hu_0, hu_1, hu_2, on_vw, on_f, se_vw, se_f, vw_pv, pv_pv, ost_uI, sst_uI, sit_d, may_d, far_d, stay_d, goe_d, stp_d, hOk_h w hqT, hq_hA, pX5_finding, mX5_finding, rfx0, rfx1, rfx2, rfx3, rfx4, rfx5, rfx6, N_0, N_1, N_2, N_3, N_4, N_5, N_6, v7_0, v7_1, v7_2, v7_3, v7_4, v7_5, v7_6, pX5_isOne, rX5_isOne, bi_t c1, bi_0, h10, ok_on0 w hqP hc10, ix_on0 w hqP hc10, ok_on1 w hqP hc10, ix_on1 w hqP hc10, ok_on2 w hqP hc10, ix_on2 w hqP hc10, ok_on3 w hqP hc10, ix_on3 w hqP hc10, ok_on4 w hqP hc10, ix_on4 w hqP hc10, ok_on5 w hqP hc10, ix_on5 w hqP hc10, ok_on6 w hqP hc10, ix_on6 w hqP hc10, oOk_on w hqP hc10, fo_on w hqP hc10, pX1_mayTakeSeat, hW, pX0_become, neTP, eq_true hO, rX5_best, mX5_best]
    refine ⟨fun d => ?_, fun d => toV (xl4 ?_)⟩
    · have ho : oBest (vw u (91 * qP)) c = .inr ((bestN (vw u (91 * qP)) (NN c) 100).1, vw u (91 * qP)) := by
        rw [oBest, if_neg (fun z => z c1), if_neg (fun z => z d)]
      have hA := xlr (u := u) (v := bsM c u 100) ho
      have hB := toV hA
      exact lX5_best (Q := fun r u' => r = some (.int (an (oBest (vw u (91 * qP)) c))) ∧ u' = mlX (oBest (vw u (91 * qP)) c) u (bsM c u 100)) hw hv hc (hW.mpr d).1 hB 100 0 none (by decide)
    · rw [oBest, if_neg (fun z => z c1), if_pos d]
  · simp only [eX5_best_0, eX5_best_1, eX5_best_2, eX5_best_5, eX5_best_8, eX5_best_9, eX5_best_10, eX5_best_13, eX5_best_14, eX5_best_15, eX5_best_18, eX5_best_21, eX5_best_22, eX5_best_23, eX5_best_26, eX5_best_29, eX5_best_30, eX5_best_31, eX5_best_34, eX5_best_35, eX5_best_36, eX5_best_39, eX5_best_40, eX5_best_43, eX5_best_46, eX5_best_47, eX5_best_48, eX5_best_49, eX5_best_50, eX5_best_51, eX5_best_55, eX5_best_57, eX5_best_60, eX5_best_61, eX5_best_62, eX5_best_64, eX5_best_67, eX5_best_69, eX5_best_71, eX5_best_72, eX5_best_75, eX5_best_77, eX5_best_78, eX5_best_80, eX5_best_81, eX5_best_84, eX5_best_87, eX5_best_88, kl_i, kl_r, kl_n, kl_l, true_and, and_true, true_implies, false_implies, not_true_eq_false, not_false_eq_true, i10, Classical.not_not, ok_x0, rfP, ok_x1, rfT, ok_x2, rfK, ok_x3, ix_x3, ok_x4, rf_x4, ok_x5, rf_x5, ok_x6, rf_x6, as_fdd, ai_fdd, xa_fdd, rd_fdd, ok_h0 w hqP, rf_h0 w hqP, ok_h1 w hqP, rf_h1 w hqP, ok_h2 w hqP, ix_h2 w hqP, ok_h3 w hqP, ix_h3 w hqP, ok_h4 w hqP, ix_h4 w hqP, ar_sa w hqP, rf_sa w hqP, ar_oa w hqP, rf_oa w hqP, hw_0, hw_1, hw_2, hu_0, hu_1, hu_2, on_vw, on_f, se_vw, se_f, vw_pv, pv_pv, ost_uI, sst_uI, sit_d, may_d, far_d, stay_d, goe_d, stp_d, hOk_h w hqP, hq_hA, pX5_finding, mX5_finding, rfx0, rfx1, rfx2, rfx3, rfx4, rfx5, rfx6, N_0, N_1, N_2, N_3, N_4, N_5, N_6, v7_0, v7_1, v7_2, v7_3, v7_4, v7_5, v7_6, pX5_isOne, rX5_isOne, bi_f c1, rX5_best, mX5_best, Option.some.injEq, Value.int.injEq]
    exact xl0 (by rw [oBest, if_pos c1])
set_option maxRecDepth 20000 in
theorem KX5_best_ok (w : WW) : KOk w MX5_best (KX5_best w) := KOk_mk flX5_ok ciX5_ok clX5_ok (fun _ _ h => by cases h) (fun _ _ h => by cases h) (List.forall_mem_cons.mpr ⟨itV (n := 52) (by decide) (COk_V (n := 1) (ci := 5) (ctX5_finding w) wcX5_52 nmX5_finding (by decide) (by decide) rfl (prX5_finding w)), List.forall_mem_cons.mpr ⟨itV (n := 99) (by decide) (COk_V (n := 1) (ci := 5) (ctX5_isOne w) wcX5_99 nmX5_isOne (by decide) (by decide) rfl (prX5_isOne w)), List.forall_mem_cons.mpr ⟨itV (n := 172) (by decide) (COk_V (n := 1) (ci := 0) (ctX0_become w) wcX5_172 nmX0_become (by decide) (by decide) rfl (prX0_become w)), List.forall_mem_cons.mpr ⟨itV (n := 202) (by decide) (COk_V (n := 0) (ci := 1) (ctX1_mayTakeSeat w) wcX5_202 nmX1_mayTakeSeat (by decide) (by decide) rfl (prX1_mayTakeSeat w)), List.forall_mem_cons.mpr ⟨itV (n := 211) (by decide) (COk_V (n := 2) (ci := 5) (ctX5_worthInTrialFrom w) wcX5_211 nmX5_worthInTrialFrom (by decide) (by decide) rfl (prX5_worthInTrialFrom w)), List.forall_mem_nil _⟩⟩⟩⟩⟩)
theorem ctX5_best (w : WW) : CT w yX5_best MX5_best (csX5_best w).2.1 (csX5_best w).2.2 := by
  refine CT_of (by decide) rfl TX5_best_ok TX5_best_v (KX5_best_ok w) (fun as u h => ?_)
  obtain ⟨a0, a1, rfl, h⟩ := sgRI h
  obtain ⟨rfl, hwok, hh⟩ := h
  refine ⟨Nat.le_of_ble_eq_true rfl, ?_⟩
  have key := vX5_best w a1 u hwok hh
  exact key
theorem prX5_best (w : WW) : ∀ as u, (csX5_best w).2.1 as u → ∃ a r, as = .ref a :: r ∧ r.length = 1 ∧ okO w a 5 := by
  intro as u h
  obtain ⟨a0, a1, rfl, h⟩ := sgRI h
  exact ⟨_, _, rfl, rfl, okO_x h⟩
