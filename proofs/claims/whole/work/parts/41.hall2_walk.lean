/-! ===== the class's halls go on by seconds, walked ===== -/
theorem brd_up {R : Nat → Int32} {p b : Int32} {n : Nat} (h : brd R p b n = true) : ∀ d, brd R p b (n + d) = true
  | 0 => h
  | d + 1 => by rw [← Nat.add_assoc]; simp only [brd, brd_up h d, Bool.true_or]
theorem lX0_isInTheWay {w : WW} {q : Nat} (hq : q < 3) {p : Int32} {u : MM} (h : Hv (vw u (91 * q))) {K : Nat} (hK : K ≤ 10) (eK : vw u (91 * q) 2 = nI K) {Q : Option Value → MM → Prop} (hQ : Q (some (.int (bi (brd (vw u (91 * q)) p (-1) K = true)))) u) :
    ∀ (n i : Nat), i + n = K → brd (vw u (91 * q)) p (-1) i = false → GX0_isInTheWay w Q 2 [some (.ref (hA w q)), some (.int p), some (.int (nI i))] [] u := by
  intro n
  induction n with
  | zero =>
    intro i hi hb
    have e : i = K := by omega
    subst e
    have hle : nI i ≤ nI i := nI_le (Nat.le_refl i) (by omega)
    rw [eX0_isInTheWay_2]
    simp only [eX0_isInTheWay_0, eX0_isInTheWay_1, eX0_isInTheWay_3, eX0_isInTheWay_4, eX0_isInTheWay_7, eX0_isInTheWay_10, eX0_isInTheWay_11, eX0_isInTheWay_14, eX0_isInTheWay_15, eX0_isInTheWay_16, eX0_isInTheWay_19, eX0_isInTheWay_20, eX0_isInTheWay_23, eX0_isInTheWay_24, eX0_isInTheWay_27, eX0_isInTheWay_28, eX0_isInTheWay_29, eX0_isInTheWay_32, eX0_isInTheWay_33, eX0_isInTheWay_36, eX0_isInTheWay_37, eX0_isInTheWay_40, eX0_isInTheWay_41, eX0_isInTheWay_42, eX0_isInTheWay_45, eX0_isInTheWay_48, eX0_isInTheWay_49, eX0_isInTheWay_50, eX0_isInTheWay_53, eX0_isInTheWay_56, eX0_isInTheWay_57, kl_i, kl_r, kl_n, kl_l, true_and, and_true, true_implies, false_implies, not_true_eq_false, not_false_eq_true, i10, Classical.not_not, ok_h0 w hq, rf_h0 w hq, ok_h1 w hq, rf_h1 w hq, ok_h2 w hq, ix_h2 w hq, ok_h3 w hq, ix_h3 w hq, ok_h4 w hq, ix_h4 w hq, ar_sa w hq, rf_sa w hq, ar_oa w hq, rf_oa w hq, hw_0, hw_1, hw_2, hu_0, hu_1, hu_2, on_vw, on_f, se_vw, se_f, vw_pv, pv_pv, ost_uI, sst_uI, sit_d, may_d, far_d, stay_d, goe_d, stp_d, hOk_h w hq, hq_hA, eK, hle]
    rw [bi_f (by rw [hb]; decide)] at hQ
    exact ⟨nb_0, hQ⟩
  | succ n ih =>
    intro i hi hb
    have hc : i < 10 := by omega
    have hN : NN (nI i) = i := NN_nI (by omega)
    have hv : vp_in (nI i) 10 := vi_nI hc
    have hlt : ¬ nI K ≤ nI i := nI_ge (by omega) (by omega)
    have hci : Hc (vw u (91 * q)) i := h.c (by rw [eK, NN_nI (by omega)]; omega)
    have go : brd (vw u (91 * q)) p (-1) (i + 1) = false → GX0_isInTheWay w Q 2 [some (.ref (hA w q)), some (.int p), some (.int (nI i + 1))] [] u := fun z => by rw [nI_1]; exact ih (i + 1) (by omega) z
    rw [eX0_isInTheWay_2]
    simp only [eX0_isInTheWay_0, eX0_isInTheWay_1, eX0_isInTheWay_3, eX0_isInTheWay_4, eX0_isInTheWay_7, eX0_isInTheWay_10, eX0_isInTheWay_11, eX0_isInTheWay_14, eX0_isInTheWay_15, eX0_isInTheWay_16, eX0_isInTheWay_19, eX0_isInTheWay_20, eX0_isInTheWay_23, eX0_isInTheWay_24, eX0_isInTheWay_27, eX0_isInTheWay_28, eX0_isInTheWay_29, eX0_isInTheWay_32, eX0_isInTheWay_33, eX0_isInTheWay_36, eX0_isInTheWay_37, eX0_isInTheWay_40, eX0_isInTheWay_41, eX0_isInTheWay_42, eX0_isInTheWay_45, eX0_isInTheWay_48, eX0_isInTheWay_49, eX0_isInTheWay_50, eX0_isInTheWay_53, eX0_isInTheWay_56, eX0_isInTheWay_57, kl_i, kl_r, kl_n, kl_l, true_and, and_true, true_implies, false_implies, not_true_eq_false, not_false_eq_true, i10, Classical.not_not, ok_h0 w hq, rf_h0 w hq, ok_h1 w hq, rf_h1 w hq, ok_h2 w hq, ix_h2 w hq, ok_h3 w hq, ix_h3 w hq, ok_h4 w hq, ix_h4 w hq, ar_sa w hq, rf_sa w hq, ar_oa w hq, rf_oa w hq, hw_0, hw_1, hw_2, hu_0, hu_1, hu_2, on_vw, on_f, se_vw, se_f, vw_pv, pv_pv, ost_uI, sst_uI, sit_d, may_d, far_d, stay_d, goe_d, stp_d, hOk_h w hq, hq_hA, hN, ok_on0 w hq hc, ix_on0 w hq hc, ok_on1 w hq hc, ix_on1 w hq hc, ok_on2 w hq hc, ix_on2 w hq hc, ok_on3 w hq hc, ix_on3 w hq hc, ok_on4 w hq hc, ix_on4 w hq hc, ok_on5 w hq hc, ix_on5 w hq hc, ok_on6 w hq hc, ix_on6 w hq hc, oOk_on w hq hc, fo_on w hq hc, eK, hlt, hv, pX1_sits, bi_0]
    refine ⟨fun c => go ?_, fun c => ⟨fun d => go ?_, fun d => ⟨fun e => go ?_, fun e => ⟨nb_1, ?_⟩⟩⟩⟩
    · simp only [brd, hb, Bool.false_or, decide_eq_false_iff_not]; exact fun z => c z.2.2.2
    · simp only [brd, hb, Bool.false_or, decide_eq_false_iff_not]; exact fun z => d z.2.1
    · simp only [brd, hb, Bool.false_or, decide_eq_false_iff_not]; exact fun z => e (hci.sit.mp z.2.2.1)
    · have k1 : brd (vw u (91 * q)) p (-1) (i + 1) = true := by
        simp only [brd, hb, Bool.false_or, decide_eq_true_eq]; exact ⟨nI_ne1 (by omega), d, hci.sit.mpr e, c⟩
      have k2 := brd_up k1 n
      rw [show i + 1 + n = K by omega] at k2
      rw [bi_t k2] at hQ
      exact hQ
theorem vX0_isInTheWay (w : WW) : VX0_isInTheWay w := by
  intro q p u hq h
  obtain ⟨K, hK, eK⟩ := h.1.2.1
  simp only [eX0_isInTheWay_0, eX0_isInTheWay_1, eX0_isInTheWay_3, eX0_isInTheWay_4, eX0_isInTheWay_7, eX0_isInTheWay_10, eX0_isInTheWay_11, eX0_isInTheWay_14, eX0_isInTheWay_15, eX0_isInTheWay_16, eX0_isInTheWay_19, eX0_isInTheWay_20, eX0_isInTheWay_23, eX0_isInTheWay_24, eX0_isInTheWay_27, eX0_isInTheWay_28, eX0_isInTheWay_29, eX0_isInTheWay_32, eX0_isInTheWay_33, eX0_isInTheWay_36, eX0_isInTheWay_37, eX0_isInTheWay_40, eX0_isInTheWay_41, eX0_isInTheWay_42, eX0_isInTheWay_45, eX0_isInTheWay_48, eX0_isInTheWay_49, eX0_isInTheWay_50, eX0_isInTheWay_53, eX0_isInTheWay_56, eX0_isInTheWay_57, kl_i, kl_r, kl_n, kl_l, true_and, and_true, true_implies, false_implies, not_true_eq_false, not_false_eq_true, i10, Classical.not_not]
  exact lX0_isInTheWay hq h hK eK ⟨by rw [rX0_isInTheWay, eK, NN_nI (by omega)], rfl⟩ K 0 (by omega) rfl
theorem wcX0_89 : ∀ x ∈ wV1 RX0 89 yX1_sits MX1_sits, x ∈ Gt := by decide +kernel
theorem nmX1_sits : nmOk yX1_sits 0 = true := by decide +kernel
set_option maxRecDepth 20000 in
theorem KX0_isInTheWay_ok (w : WW) : KOk w MX0_isInTheWay (KX0_isInTheWay w) := KOk_mk flX0_ok ciX0_ok clX0_ok (fun _ _ h => by cases h) (fun _ _ h => by cases h) (List.forall_mem_cons.mpr ⟨itV (n := 89) (by decide) (COk_V (n := 0) (ci := 1) (ctX1_sits w) wcX0_89 nmX1_sits (by decide) (by decide) rfl (prX1_sits w)), List.forall_mem_nil _⟩)
theorem ctX0_isInTheWay (w : WW) : CT w yX0_isInTheWay MX0_isInTheWay (csX0_isInTheWay w).2.1 (csX0_isInTheWay w).2.2 := by
  refine CT_of (by decide) rfl TX0_isInTheWay_ok TX0_isInTheWay_v (KX0_isInTheWay_ok w) (fun as u h => ?_)
  obtain ⟨a0, a1, rfl, h⟩ := sgRI h
  obtain ⟨h0, hh⟩ := h
  obtain ⟨q0, e0, rfl⟩ := h0
  rw [hq_hA] at hh
  refine ⟨Nat.le_of_ble_eq_true rfl, ?_⟩
  have key := vX0_isInTheWay w q0 a1 u e0 hh
  simp only [csX0_isInTheWay, hq_hA]
  exact key
theorem prX0_isInTheWay (w : WW) : ∀ as u, (csX0_isInTheWay w).2.1 as u → ∃ a r, as = .ref a :: r ∧ r.length = 1 ∧ okO w a 0 := by
  intro as u h
  obtain ⟨a0, a1, rfl, h⟩ := sgRI h
  exact ⟨_, _, rfl, rfl, okO_h h⟩
theorem goe_rng (k s : Int32) : ∃ n, n ≤ 2 ∧ goe k s = nI n := by
  unfold goe
  split
  · split
    · exact ⟨1, by decide, rfl⟩
    · exact ⟨0, by decide, rfl⟩
  · split
    · exact ⟨2, by decide, rfl⟩
    · split
      · split
        · exact ⟨0, by decide, rfl⟩
        · exact ⟨1, by decide, rfl⟩
      · exact ⟨1, by decide, rfl⟩
theorem wk_stop {c : Nat} {t : Int32} {R : Nat → Int32} (h : ¬ mayGo R c t) : ∀ n, wk c t n R = R
  | 0 => rfl
  | n + 1 => by simp only [wk]; rw [if_neg h]
theorem lX0_walk {w : WW} {q c : Nat} (hq : q < 3) (hc : c < 10) {t : Int32} {u : MM} {N : Nat} (hN : N ≤ 2) {Q : Option Value → MM → Prop} :
    ∀ (n i : Nat) (R : Nat → Int32) (j : Option Value), i + n = N → Hv R → on R c 5 = -1 → Q none (pv u (91 * q) (wk c t n R)) → GX0_walk w Q 12 [some (.ref (hA w q)), some (.ref (onA w q c)), some (.int t), some (.int (nI N)), some (.int (nI i)), j] [] (pv u (91 * q) R) := by
  intro n
  induction n with
  | zero =>
    intro i R j hi hv h5 hQ
    have e : i = N := by omega
    subst e
    have hle : nI i ≤ nI i := nI_le (Nat.le_refl i) (by omega)
    rw [eX0_walk_12]
    simp only [eX0_walk_0, eX0_walk_1, eX0_walk_2, eX0_walk_5, eX0_walk_8, eX0_walk_9, eX0_walk_10, eX0_walk_14, eX0_walk_15, eX0_walk_18, eX0_walk_19, eX0_walk_22, eX0_walk_23, eX0_walk_26, eX0_walk_27, eX0_walk_28, eX0_walk_31, eX0_walk_33, eX0_walk_34, eX0_walk_36, eX0_walk_39, eX0_walk_42, eX0_walk_43, eX0_walk_45, eX0_walk_48, eX0_walk_51, eX0_walk_54, kl_i, kl_r, kl_n, kl_l, true_and, and_true, true_implies, false_implies, not_true_eq_false, not_false_eq_true, i10, Classical.not_not, hle]
    exact hQ
  | succ n ih =>
    intro i R j hi hv h5 hQ
    have hlt : ¬ nI N ≤ nI i := nI_ge (by omega) (by omega)
    have go : ∀ (S : Nat → Int32) (j : Option Value), Hv S → on S c 5 = -1 → Q none (pv u (91 * q) (wk c t n S)) → GX0_walk w Q 12 [some (.ref (hA w q)), some (.ref (onA w q c)), some (.int t), some (.int (nI N)), some (.int (nI i + 1)), j] [] (pv u (91 * q) S) := fun S j a b d => by rw [nI_1]; exact ih (i + 1) S j (by omega) a b d
    rw [eX0_walk_12]
    simp only [eX0_walk_0, eX0_walk_1, eX0_walk_2, eX0_walk_5, eX0_walk_8, eX0_walk_9, eX0_walk_10, eX0_walk_14, eX0_walk_15, eX0_walk_18, eX0_walk_19, eX0_walk_22, eX0_walk_23, eX0_walk_26, eX0_walk_27, eX0_walk_28, eX0_walk_31, eX0_walk_33, eX0_walk_34, eX0_walk_36, eX0_walk_39, eX0_walk_42, eX0_walk_43, eX0_walk_45, eX0_walk_48, eX0_walk_51, eX0_walk_54, kl_i, kl_r, kl_n, kl_l, true_and, and_true, true_implies, false_implies, not_true_eq_false, not_false_eq_true, i10, Classical.not_not, ok_h0 w hq, rf_h0 w hq, ok_h1 w hq, rf_h1 w hq, ok_h2 w hq, ix_h2 w hq, ok_h3 w hq, ix_h3 w hq, ok_h4 w hq, ix_h4 w hq, ar_sa w hq, rf_sa w hq, ar_oa w hq, rf_oa w hq, hw_0, hw_1, hw_2, hu_0, hu_1, hu_2, on_vw, on_f, se_vw, se_f, vw_pv, pv_pv, ost_uI, sst_uI, sit_d, may_d, far_d, stay_d, goe_d, stp_d, hOk_h w hq, hq_hA, ok_on0 w hq hc, ix_on0 w hq hc, ok_on1 w hq hc, ix_on1 w hq hc, ok_on2 w hq hc, ix_on2 w hq hc, ok_on3 w hq hc, ix_on3 w hq hc, ok_on4 w hq hc, ix_on4 w hq hc, ok_on5 w hq hc, ix_on5 w hq hc, ok_on6 w hq hc, ix_on6 w hq hc, oOk_on w hq hc, fo_on w hq hc, hlt, pX1_spotOneStepTowards, pX0_isInTheWay, hv, rX0_isInTheWay, bi_0]
    refine ⟨fun e => ?_, fun e => ⟨fun b => ?_, fun b => ?_⟩⟩
    · rw [wk_stop (fun z => z.1 e)] at hQ; exact hQ
    · have no : ¬ mayGo R c t := fun z => by
        have := z.2; rw [brd_self e (by omega) _ (by have := hv.1.K.1; omega)] at this; rw [this] at b; exact absurd b (by decide)
      rw [wk_stop no] at hQ
      exact go R _ hv h5 (by rw [wk_stop no]; exact hQ)
    · have ye : mayGo R c t := ⟨e, by rw [brd_self e (by omega) _ (by have := hv.1.K.1; omega)]; exact Bool.eq_false_iff.mpr b⟩
      simp only [wk] at hQ
      rw [if_pos ye] at hQ
      exact go _ _ (ost_Hx hv (by decide) (fun z => absurd z (by decide)) (fun _ => h5) (fun z => absurd z (by decide))) (by rw [on_ost_ne (by decide) (by decide) (by decide)]; exact h5) hQ
theorem vX0_walk (w : WW) : VX0_walk w := by
  intro q a t u hq ha h
  obtain ⟨q', c', h1, h2, rfl⟩ := ha
  obtain ⟨⟨c, hcK, eb, h5⟩, hv⟩ := h
  have hK := hv.1.K.1
  rw [fo_on w h1 h2] at eb ⊢
  have e1 : q' = q := by omega
  subst e1
  have e2 : c' = c := by omega
  subst e2
  obtain ⟨N, hN, eN⟩ := goe_rng (on (vw u (91 * q')) c' 0) (vw u (91 * q') 0)
  have key := lX0_walk (w := w) hq h2 (t := t) (u := u) hN (Q := fun r u' => r = none ∧ u' = mX0_walk q' (91 * q' + (21 + 7 * c')) t u) N 0 (vw u (91 * q')) none (by omega) hv h5 ⟨rfl, by rw [mX0_walk, oc_eq, eN, NN_nI (by omega)]⟩
  rw [pv_vw] at key
  simp only [eX0_walk_0, eX0_walk_1, eX0_walk_2, eX0_walk_5, eX0_walk_8, eX0_walk_9, eX0_walk_10, eX0_walk_14, eX0_walk_15, eX0_walk_18, eX0_walk_19, eX0_walk_22, eX0_walk_23, eX0_walk_26, eX0_walk_27, eX0_walk_28, eX0_walk_31, eX0_walk_33, eX0_walk_34, eX0_walk_36, eX0_walk_39, eX0_walk_42, eX0_walk_43, eX0_walk_45, eX0_walk_48, eX0_walk_51, eX0_walk_54, kl_i, kl_r, kl_n, kl_l, true_and, and_true, true_implies, false_implies, not_true_eq_false, not_false_eq_true, i10, Classical.not_not, ok_h0 w hq, rf_h0 w hq, ok_h1 w hq, rf_h1 w hq, ok_h2 w hq, ix_h2 w hq, ok_h3 w hq, ix_h3 w hq, ok_h4 w hq, ix_h4 w hq, ar_sa w hq, rf_sa w hq, ar_oa w hq, rf_oa w hq, hw_0, hw_1, hw_2, hu_0, hu_1, hu_2, on_vw, on_f, se_vw, se_f, vw_pv, pv_pv, ost_uI, sst_uI, sit_d, may_d, far_d, stay_d, goe_d, stp_d, hOk_h w hq, hq_hA, ok_on0 w hq h2, ix_on0 w hq h2, ok_on1 w hq h2, ix_on1 w hq h2, ok_on2 w hq h2, ix_on2 w hq h2, ok_on3 w hq h2, ix_on3 w hq h2, ok_on4 w hq h2, ix_on4 w hq h2, ok_on5 w hq h2, ix_on5 w hq h2, ok_on6 w hq h2, ix_on6 w hq h2, oOk_on w hq h2, fo_on w hq h2, pX1_goes, eN]
  exact key
theorem wcX0_99 : ∀ x ∈ wV1 RX0 99 yX1_goes MX1_goes, x ∈ Gt := by decide +kernel
theorem nmX1_goes : nmOk yX1_goes 1 = true := by decide +kernel
theorem wcX0_102 : ∀ x ∈ wV1 RX0 102 yX1_spotOneStepTowards MX1_spotOneStepTowards, x ∈ Gt := by decide +kernel
theorem nmX1_spotOneStepTowards : nmOk yX1_spotOneStepTowards 1 = true := by decide +kernel
theorem wcX0_105 : ∀ x ∈ wV1 RX0 105 yX0_isInTheWay MX0_isInTheWay, x ∈ Gt := by decide +kernel
theorem nmX0_isInTheWay : nmOk yX0_isInTheWay 1 = true := by decide +kernel
set_option maxRecDepth 20000 in
theorem KX0_walk_ok (w : WW) : KOk w MX0_walk (KX0_walk w) := KOk_mk flX0_ok ciX0_ok clX0_ok (fun _ _ h => by cases h) (fun _ _ h => by cases h) (List.forall_mem_cons.mpr ⟨itV (n := 99) (by decide) (COk_V (n := 1) (ci := 1) (ctX1_goes w) wcX0_99 nmX1_goes (by decide) (by decide) rfl (prX1_goes w)), List.forall_mem_cons.mpr ⟨itV (n := 102) (by decide) (COk_V (n := 1) (ci := 1) (ctX1_spotOneStepTowards w) wcX0_102 nmX1_spotOneStepTowards (by decide) (by decide) rfl (prX1_spotOneStepTowards w)), List.forall_mem_cons.mpr ⟨itV (n := 105) (by decide) (COk_V (n := 1) (ci := 0) (ctX0_isInTheWay w) wcX0_105 nmX0_isInTheWay (by decide) (by decide) rfl (prX0_isInTheWay w)), List.forall_mem_nil _⟩⟩⟩)
theorem ctX0_walk (w : WW) : CT w yX0_walk MX0_walk (csX0_walk w).2.1 (csX0_walk w).2.2 := by
  refine CT_of (by decide) rfl TX0_walk_ok TX0_walk_v (KX0_walk_ok w) (fun as u h => ?_)
  obtain ⟨a0, a1, a2, rfl, h⟩ := sgRRI h
  obtain ⟨h0, h1, hh⟩ := h
  obtain ⟨q0, e0, rfl⟩ := h0
  rw [hq_hA] at hh
  refine ⟨Nat.le_of_ble_eq_true rfl, ?_⟩
  have key := vX0_walk w q0 a1 a2 u e0 h1 hh
  simp only [csX0_walk, hq_hA]
  exact key
theorem prX0_walk (w : WW) : ∀ as u, (csX0_walk w).2.1 as u → ∃ a r, as = .ref a :: r ∧ r.length = 2 ∧ okO w a 0 := by
  intro as u h
  obtain ⟨a0, a1, a2, rfl, h⟩ := sgRRI h
  exact ⟨_, _, rfl, rfl, okO_h h⟩
theorem lX0_walkAll {w : WW} {q : Nat} (hq : q < 3) {u : MM} (h : Hv (vw u (91 * q))) {K : Nat} (hK : K ≤ 10) (eK : vw u (91 * q) 2 = nI K) {Q : Option Value → MM → Prop} (hQ : Q none (pv u (91 * q) (wa (vw u (91 * q)) K))) :
    ∀ (n i : Nat), i + n = K → GX0_walkAll w Q 2 [some (.ref (hA w q)), some (.int (nI i))] [] (pv u (91 * q) (wa (vw u (91 * q)) i)) := by
  intro n
  induction n with
  | zero =>
    intro i hi
    have e : i = K := by omega
    subst e
    have hle : nI i ≤ nI i := nI_le (Nat.le_refl i) (by omega)
    have e2 : wa (vw u (91 * q)) i 2 = nI i := (wa_hd _ (by decide) i).trans eK
    rw [eX0_walkAll_2]
    simp only [eX0_walkAll_0, eX0_walkAll_1, eX0_walkAll_3, eX0_walkAll_4, eX0_walkAll_7, eX0_walkAll_10, eX0_walkAll_11, eX0_walkAll_14, eX0_walkAll_15, eX0_walkAll_16, eX0_walkAll_19, eX0_walkAll_22, eX0_walkAll_23, eX0_walkAll_26, eX0_walkAll_27, eX0_walkAll_28, eX0_walkAll_31, eX0_walkAll_32, eX0_walkAll_35, eX0_walkAll_36, eX0_walkAll_37, eX0_walkAll_40, eX0_walkAll_41, eX0_walkAll_42, eX0_walkAll_43, eX0_walkAll_46, eX0_walkAll_47, eX0_walkAll_50, eX0_walkAll_51, eX0_walkAll_52, eX0_walkAll_55, eX0_walkAll_56, eX0_walkAll_59, eX0_walkAll_62, eX0_walkAll_65, eX0_walkAll_68, kl_i, kl_r, kl_n, kl_l, true_and, and_true, true_implies, false_implies, not_true_eq_false, not_false_eq_true, i10, Classical.not_not, ok_h0 w hq, rf_h0 w hq, ok_h1 w hq, rf_h1 w hq, ok_h2 w hq, ix_h2 w hq, ok_h3 w hq, ix_h3 w hq, ok_h4 w hq, ix_h4 w hq, ar_sa w hq, rf_sa w hq, ar_oa w hq, rf_oa w hq, hw_0, hw_1, hw_2, hu_0, hu_1, hu_2, on_vw, on_f, se_vw, se_f, vw_pv, pv_pv, ost_uI, sst_uI, sit_d, may_d, far_d, stay_d, goe_d, stp_d, hOk_h w hq, hq_hA, e2, hle]
    exact hQ
  | succ n ih =>
    intro i hi
    have hc : i < 10 := by omega
    have hN : NN (nI i) = i := NN_nI (by omega)
    have hv : vp_in (nI i) 10 := vi_nI hc
    have hlt : ¬ nI K ≤ nI i := nI_ge (by omega) (by omega)
    have iK : i < NN (vw u (91 * q) 2) := by rw [eK, NN_nI (by omega)]; omega
    have hH : Hv (wa (vw u (91 * q)) i) := wa_Hv h i (Nat.le_of_lt iK)
    have e2 : wa (vw u (91 * q)) i 2 = nI K := (wa_hd _ (by decide) i).trans eK
    have iK2 : i < NN (wa (vw u (91 * q)) i 2) := by rw [e2, NN_nI (by omega)]; omega
    have hci : Hc (wa (vw u (91 * q)) i) i := hH.c iK2
    have go : ∀ S : Nat → Int32, S = wa (vw u (91 * q)) (i + 1) → GX0_walkAll w Q 2 [some (.ref (hA w q)), some (.int (nI i + 1))] [] (pv u (91 * q) S) := fun S e => by rw [nI_1, e]; exact ih (i + 1) (by omega)
    rw [eX0_walkAll_2]
    by_cases e : on (wa (vw u (91 * q)) i) i 3 = -1
    · have hno : wa (vw u (91 * q)) i = wa (vw u (91 * q)) (i + 1) := by
        simp only [wa]; rw [if_neg (fun z => z.2 (hci.wil.mpr e))]
      simp only [eX0_walkAll_0, eX0_walkAll_1, eX0_walkAll_3, eX0_walkAll_4, eX0_walkAll_7, eX0_walkAll_10, eX0_walkAll_11, eX0_walkAll_14, eX0_walkAll_15, eX0_walkAll_16, eX0_walkAll_19, eX0_walkAll_22, eX0_walkAll_23, eX0_walkAll_26, eX0_walkAll_27, eX0_walkAll_28, eX0_walkAll_31, eX0_walkAll_32, eX0_walkAll_35, eX0_walkAll_36, eX0_walkAll_37, eX0_walkAll_40, eX0_walkAll_41, eX0_walkAll_42, eX0_walkAll_43, eX0_walkAll_46, eX0_walkAll_47, eX0_walkAll_50, eX0_walkAll_51, eX0_walkAll_52, eX0_walkAll_55, eX0_walkAll_56, eX0_walkAll_59, eX0_walkAll_62, eX0_walkAll_65, eX0_walkAll_68, kl_i, kl_r, kl_n, kl_l, true_and, and_true, true_implies, false_implies, not_true_eq_false, not_false_eq_true, i10, Classical.not_not, ok_h0 w hq, rf_h0 w hq, ok_h1 w hq, rf_h1 w hq, ok_h2 w hq, ix_h2 w hq, ok_h3 w hq, ix_h3 w hq, ok_h4 w hq, ix_h4 w hq, ar_sa w hq, rf_sa w hq, ar_oa w hq, rf_oa w hq, hw_0, hw_1, hw_2, hu_0, hu_1, hu_2, on_vw, on_f, se_vw, se_f, vw_pv, pv_pv, ost_uI, sst_uI, sit_d, may_d, far_d, stay_d, goe_d, stp_d, hOk_h w hq, hq_hA, hN, ok_on0 w hq hc, ix_on0 w hq hc, ok_on1 w hq hc, ix_on1 w hq hc, ok_on2 w hq hc, ix_on2 w hq hc, ok_on3 w hq hc, ix_on3 w hq hc, ok_on4 w hq hc, ix_on4 w hq hc, ok_on5 w hq hc, ix_on5 w hq hc, ok_on6 w hq hc, ix_on6 w hq hc, oOk_on w hq hc, fo_on w hq hc, e2, hlt, hv, pX1_sits, bi_0, e]
      exact ⟨fun _ => go _ hno, fun _ => go _ hno⟩
    · have hw3 := hci.2.1.resolve_left e
      have hM := hH.1.M.1
      have hs : NN (on (wa (vw u (91 * q)) i) i 3) < 6 := by have := vi_lt hw3; omega
      have hv6 : vp_in (on (wa (vw u (91 * q)) i) i 3) 6 := vi_mono hw3 hM
      simp only [eX0_walkAll_0, eX0_walkAll_1, eX0_walkAll_3, eX0_walkAll_4, eX0_walkAll_7, eX0_walkAll_10, eX0_walkAll_11, eX0_walkAll_14, eX0_walkAll_15, eX0_walkAll_16, eX0_walkAll_19, eX0_walkAll_22, eX0_walkAll_23, eX0_walkAll_26, eX0_walkAll_27, eX0_walkAll_28, eX0_walkAll_31, eX0_walkAll_32, eX0_walkAll_35, eX0_walkAll_36, eX0_walkAll_37, eX0_walkAll_40, eX0_walkAll_41, eX0_walkAll_42, eX0_walkAll_43, eX0_walkAll_46, eX0_walkAll_47, eX0_walkAll_50, eX0_walkAll_51, eX0_walkAll_52, eX0_walkAll_55, eX0_walkAll_56, eX0_walkAll_59, eX0_walkAll_62, eX0_walkAll_65, eX0_walkAll_68, kl_i, kl_r, kl_n, kl_l, true_and, and_true, true_implies, false_implies, not_true_eq_false, not_false_eq_true, i10, Classical.not_not, ok_h0 w hq, rf_h0 w hq, ok_h1 w hq, rf_h1 w hq, ok_h2 w hq, ix_h2 w hq, ok_h3 w hq, ix_h3 w hq, ok_h4 w hq, ix_h4 w hq, ar_sa w hq, rf_sa w hq, ar_oa w hq, rf_oa w hq, hw_0, hw_1, hw_2, hu_0, hu_1, hu_2, on_vw, on_f, se_vw, se_f, vw_pv, pv_pv, ost_uI, sst_uI, sit_d, may_d, far_d, stay_d, goe_d, stp_d, hOk_h w hq, hq_hA, hN, ok_on0 w hq hc, ix_on0 w hq hc, ok_on1 w hq hc, ix_on1 w hq hc, ok_on2 w hq hc, ix_on2 w hq hc, ok_on3 w hq hc, ix_on3 w hq hc, ok_on4 w hq hc, ix_on4 w hq hc, ok_on5 w hq hc, ix_on5 w hq hc, ok_on6 w hq hc, ix_on6 w hq hc, oOk_on w hq hc, fo_on w hq hc, e2, hlt, hv, pX1_sits, bi_0, e, hv6, ok_se0 w hq hs, ix_se0 w hq hs, ok_se1 w hq hs, ix_se1 w hq hs, ok_se2 w hq hs, ix_se2 w hq hs, eOk_se w hq hs, fo_se w hq hs, pX0_walk, mX0_walk, oc_eq]
      refine ⟨fun z => go _ ?_, fun z => ⟨⟨⟨i, by rw [NN_nI (by omega)]; omega, rfl, z⟩, hH⟩, go _ ?_⟩⟩
      · simp only [wa]; rw [if_neg (fun y => z (hci.sit.mp y.1))]
      · simp only [wa, walkP]; rw [if_pos ⟨hci.sit.mpr z, vi_pos hw3⟩]
theorem vX0_walkAll (w : WW) : VX0_walkAll w := by
  intro q u hq h
  obtain ⟨K, hK, eK⟩ := h.1.2.1
  have key := lX0_walkAll (w := w) hq h hK eK (Q := fun r u' => r = none ∧ u' = mX0_walkAll q u) ⟨rfl, by rw [mX0_walkAll, eK, NN_nI (by omega)]⟩ K 0 (by omega)
  simp only [wa, pv_vw] at key
  simp only [eX0_walkAll_0, eX0_walkAll_1, eX0_walkAll_3, eX0_walkAll_4, eX0_walkAll_7, eX0_walkAll_10, eX0_walkAll_11, eX0_walkAll_14, eX0_walkAll_15, eX0_walkAll_16, eX0_walkAll_19, eX0_walkAll_22, eX0_walkAll_23, eX0_walkAll_26, eX0_walkAll_27, eX0_walkAll_28, eX0_walkAll_31, eX0_walkAll_32, eX0_walkAll_35, eX0_walkAll_36, eX0_walkAll_37, eX0_walkAll_40, eX0_walkAll_41, eX0_walkAll_42, eX0_walkAll_43, eX0_walkAll_46, eX0_walkAll_47, eX0_walkAll_50, eX0_walkAll_51, eX0_walkAll_52, eX0_walkAll_55, eX0_walkAll_56, eX0_walkAll_59, eX0_walkAll_62, eX0_walkAll_65, eX0_walkAll_68, kl_i, kl_r, kl_n, kl_l, true_and, and_true, true_implies, false_implies, not_true_eq_false, not_false_eq_true, i10, Classical.not_not]
  exact key
theorem wcX0_95 : ∀ x ∈ wV1 RX0 95 yX0_walk MX0_walk, x ∈ Gt := by decide +kernel
theorem nmX0_walk : nmOk yX0_walk 2 = true := by decide +kernel
set_option maxRecDepth 20000 in
theorem KX0_walkAll_ok (w : WW) : KOk w MX0_walkAll (KX0_walkAll w) := KOk_mk flX0_ok ciX0_ok clX0_ok (fun _ _ h => by cases h) (fun _ _ h => by cases h) (List.forall_mem_cons.mpr ⟨itV (n := 89) (by decide) (COk_V (n := 0) (ci := 1) (ctX1_sits w) wcX0_89 nmX1_sits (by decide) (by decide) rfl (prX1_sits w)), List.forall_mem_cons.mpr ⟨itV (n := 95) (by decide) (COk_V (n := 2) (ci := 0) (ctX0_walk w) wcX0_95 nmX0_walk (by decide) (by decide) rfl (prX0_walk w)), List.forall_mem_nil _⟩⟩)
theorem ctX0_walkAll (w : WW) : CT w yX0_walkAll MX0_walkAll (csX0_walkAll w).2.1 (csX0_walkAll w).2.2 := by
  refine CT_of (by decide) rfl TX0_walkAll_ok TX0_walkAll_v (KX0_walkAll_ok w) (fun as u h => ?_)
  obtain ⟨a0, rfl, h⟩ := sgR h
  obtain ⟨h0, hh⟩ := h
  obtain ⟨q0, e0, rfl⟩ := h0
  rw [hq_hA] at hh
  refine ⟨Nat.le_of_ble_eq_true rfl, ?_⟩
  have key := vX0_walkAll w q0 u e0 hh
  simp only [csX0_walkAll, hq_hA]
  exact key
theorem prX0_walkAll (w : WW) : ∀ as u, (csX0_walkAll w).2.1 as u → ∃ a r, as = .ref a :: r ∧ r.length = 0 ∧ okO w a 0 := by
  intro as u h
  obtain ⟨a0, rfl, h⟩ := sgR h
  exact ⟨_, _, rfl, rfl, okO_h h⟩
theorem lX0_changeSeats {w : WW} {q : Nat} (hq : q < 3) (hw : wOk w) {u : MM} (h : Hv (vw u (91 * q))) {M : Nat} (hM : M ≤ 6) (eM : vw u (91 * q) 1 = nI M) {Q : Option Value → MM → Prop} (hQ : Q none (pv u (91 * q) (ss (vw u (91 * q)) M))) :
    ∀ (n i : Nat) (j : Option Value), i + n = M → GX0_changeSeats w Q 2 [some (.ref (hA w q)), some (.int (nI i)), j] [] (pv u (91 * q) (ss (vw u (91 * q)) i)) := by
  intro n
  induction n with
  | zero =>
    intro i j hi
    have e : i = M := by omega
    subst e
    have hle : nI i ≤ nI i := nI_le (Nat.le_refl i) (by omega)
    have e2 : ss (vw u (91 * q)) i 1 = nI i := (ss_hd _ (by decide) i).trans eM
    rw [eX0_changeSeats_2]
    simp only [eX0_changeSeats_0, eX0_changeSeats_1, eX0_changeSeats_3, eX0_changeSeats_4, eX0_changeSeats_7, eX0_changeSeats_10, eX0_changeSeats_11, eX0_changeSeats_14, eX0_changeSeats_15, eX0_changeSeats_16, eX0_changeSeats_19, eX0_changeSeats_20, eX0_changeSeats_21, eX0_changeSeats_22, eX0_changeSeats_25, eX0_changeSeats_26, eX0_changeSeats_27, eX0_changeSeats_28, eX0_changeSeats_29, eX0_changeSeats_32, eX0_changeSeats_35, eX0_changeSeats_38, eX0_changeSeats_39, eX0_changeSeats_42, eX0_changeSeats_43, eX0_changeSeats_44, eX0_changeSeats_47, eX0_changeSeats_48, eX0_changeSeats_51, eX0_changeSeats_52, eX0_changeSeats_53, eX0_changeSeats_56, eX0_changeSeats_59, eX0_changeSeats_60, eX0_changeSeats_61, eX0_changeSeats_64, eX0_changeSeats_67, eX0_changeSeats_70, kl_i, kl_r, kl_n, kl_l, true_and, and_true, true_implies, false_implies, not_true_eq_false, not_false_eq_true, i10, Classical.not_not, ok_h0 w hq, rf_h0 w hq, ok_h1 w hq, rf_h1 w hq, ok_h2 w hq, ix_h2 w hq, ok_h3 w hq, ix_h3 w hq, ok_h4 w hq, ix_h4 w hq, ar_sa w hq, rf_sa w hq, ar_oa w hq, rf_oa w hq, hw_0, hw_1, hw_2, hu_0, hu_1, hu_2, on_vw, on_f, se_vw, se_f, vw_pv, pv_pv, ost_uI, sst_uI, sit_d, may_d, far_d, stay_d, goe_d, stp_d, hOk_h w hq, hq_hA, e2, hle]
    exact hQ
  | succ n ih =>
    intro i j hi
    have hs : i < 6 := by omega
    have hN : NN (nI i) = i := NN_nI (by omega)
    have hv : vp_in (nI i) 6 := vi_nI hs
    have hlt : ¬ nI M ≤ nI i := nI_ge (by omega) (by omega)
    have iM : i < NN (vw u (91 * q) 1) := by rw [eM, NN_nI (by omega)]; omega
    have hH : Hv (ss (vw u (91 * q)) i) := ss_Hv h i (Nat.le_of_lt iM)
    have e2 : ss (vw u (91 * q)) i 1 = nI M := (ss_hd _ (by decide) i).trans eM
    have iM2 : i < NN (ss (vw u (91 * q)) i 1) := by rw [e2, NN_nI (by omega)]; omega
    have hbi : Hb (ss (vw u (91 * q)) i) i := hH.b iM2
    have hK := hH.1.K.1
    have go : ∀ (S : Nat → Int32) (j : Option Value), S = seat1 (ss (vw u (91 * q)) i) i → GX0_changeSeats w Q 2 [some (.ref (hA w q)), some (.int (nI i + 1)), j] [] (pv u (91 * q) S) := fun S j e => by rw [nI_1, e]; exact ih (i + 1) j (by omega)
    rw [eX0_changeSeats_2]
    by_cases e : se (ss (vw u (91 * q)) i) i 2 = -1
    · have hn : nx (ss (vw u (91 * q)) i) (se (ss (vw u (91 * q)) i) i 0) (-1) (NN (ss (vw u (91 * q)) i 2)) = -1 ∨ vp_in (nx (ss (vw u (91 * q)) i) (se (ss (vw u (91 * q)) i) i 0) (-1) (NN (ss (vw u (91 * q)) i 2))) 10 := (nx_to hH _ _).imp id (fun z => vi_mono z.1 hK)
      simp only [eX0_changeSeats_0, eX0_changeSeats_1, eX0_changeSeats_3, eX0_changeSeats_4, eX0_changeSeats_7, eX0_changeSeats_10, eX0_changeSeats_11, eX0_changeSeats_14, eX0_changeSeats_15, eX0_changeSeats_16, eX0_changeSeats_19, eX0_changeSeats_20, eX0_changeSeats_21, eX0_changeSeats_22, eX0_changeSeats_25, eX0_changeSeats_26, eX0_changeSeats_27, eX0_changeSeats_28, eX0_changeSeats_29, eX0_changeSeats_32, eX0_changeSeats_35, eX0_changeSeats_38, eX0_changeSeats_39, eX0_changeSeats_42, eX0_changeSeats_43, eX0_changeSeats_44, eX0_changeSeats_47, eX0_changeSeats_48, eX0_changeSeats_51, eX0_changeSeats_52, eX0_changeSeats_53, eX0_changeSeats_56, eX0_changeSeats_59, eX0_changeSeats_60, eX0_changeSeats_61, eX0_changeSeats_64, eX0_changeSeats_67, eX0_changeSeats_70, kl_i, kl_r, kl_n, kl_l, true_and, and_true, true_implies, false_implies, not_true_eq_false, not_false_eq_true, i10, Classical.not_not, ok_h0 w hq, rf_h0 w hq, ok_h1 w hq, rf_h1 w hq, ok_h2 w hq, ix_h2 w hq, ok_h3 w hq, ix_h3 w hq, ok_h4 w hq, ix_h4 w hq, ar_sa w hq, rf_sa w hq, ar_oa w hq, rf_oa w hq, hw_0, hw_1, hw_2, hu_0, hu_1, hu_2, on_vw, on_f, se_vw, se_f, vw_pv, pv_pv, ost_uI, sst_uI, sit_d, may_d, far_d, stay_d, goe_d, stp_d, hOk_h w hq, hq_hA, hN, ok_se0 w hq hs, ix_se0 w hq hs, ok_se1 w hq hs, ix_se1 w hq hs, ok_se2 w hq hs, ix_se2 w hq hs, eOk_se w hq hs, fo_se w hq hs, e2, hlt, hv, e, hw, pX0_nextFor, hH, rX0_nextFor, pX0_fall, hn, mX0_fall]
      refine go _ _ ?_
      unfold seat1; rw [if_pos (hbi.neg.mpr e)]
    · have q1 := hbi.resolve_left e
      have hc : NN (se (ss (vw u (91 * q)) i) i 2) < 10 := by have := vi_lt q1.1; omega
      have hv10 : vp_in (se (ss (vw u (91 * q)) i) i 2) 10 := vi_mono q1.1 hK
      have hk : kO (on (ss (vw u (91 * q)) i) (NN (se (ss (vw u (91 * q)) i) i 2)) 0) := (hH.c (vi_lt q1.1)).1
      have hvM : vp_in (nI i) (NN (nI M)) := by rw [NN_nI (by omega)]; exact vi_nI (by omega) (by omega)
      have nn : ¬ se (ss (vw u (91 * q)) i) i 2 < 0 := vi_pos q1.1
      simp only [eX0_changeSeats_0, eX0_changeSeats_1, eX0_changeSeats_3, eX0_changeSeats_4, eX0_changeSeats_7, eX0_changeSeats_10, eX0_changeSeats_11, eX0_changeSeats_14, eX0_changeSeats_15, eX0_changeSeats_16, eX0_changeSeats_19, eX0_changeSeats_20, eX0_changeSeats_21, eX0_changeSeats_22, eX0_changeSeats_25, eX0_changeSeats_26, eX0_changeSeats_27, eX0_changeSeats_28, eX0_changeSeats_29, eX0_changeSeats_32, eX0_changeSeats_35, eX0_changeSeats_38, eX0_changeSeats_39, eX0_changeSeats_42, eX0_changeSeats_43, eX0_changeSeats_44, eX0_changeSeats_47, eX0_changeSeats_48, eX0_changeSeats_51, eX0_changeSeats_52, eX0_changeSeats_53, eX0_changeSeats_56, eX0_changeSeats_59, eX0_changeSeats_60, eX0_changeSeats_61, eX0_changeSeats_64, eX0_changeSeats_67, eX0_changeSeats_70, kl_i, kl_r, kl_n, kl_l, true_and, and_true, true_implies, false_implies, not_true_eq_false, not_false_eq_true, i10, Classical.not_not, ok_h0 w hq, rf_h0 w hq, ok_h1 w hq, rf_h1 w hq, ok_h2 w hq, ix_h2 w hq, ok_h3 w hq, ix_h3 w hq, ok_h4 w hq, ix_h4 w hq, ar_sa w hq, rf_sa w hq, ar_oa w hq, rf_oa w hq, hw_0, hw_1, hw_2, hu_0, hu_1, hu_2, on_vw, on_f, se_vw, se_f, vw_pv, pv_pv, ost_uI, sst_uI, sit_d, may_d, far_d, stay_d, goe_d, stp_d, hOk_h w hq, hq_hA, hN, ok_se0 w hq hs, ix_se0 w hq hs, ok_se1 w hq hs, ix_se1 w hq hs, ok_se2 w hq hs, ix_se2 w hq hs, eOk_se w hq hs, fo_se w hq hs, e2, hlt, hv, e, hv10, ok_on0 w hq hc, ix_on0 w hq hc, ok_on1 w hq hc, ix_on1 w hq hc, ok_on2 w hq hc, ix_on2 w hq hc, ok_on3 w hq hc, ix_on3 w hq hc, ok_on4 w hq hc, ix_on4 w hq hc, ok_on5 w hq hc, ix_on5 w hq hc, ok_on6 w hq hc, ix_on6 w hq hc, oOk_on w hq hc, fo_on w hq hc, hw, pX1_stays, hk, pX0_makeRise, hvM, hH, mX0_makeRise, if_false]
      refine ⟨fun z => go _ _ ?_, fun z => go _ _ ?_⟩
      · unfold seat1; rw [if_neg nn, if_neg (Int32.not_le.mpr z)]
      · unfold seat1; rw [if_neg nn, if_pos (Int32.not_lt.mp z)]
theorem vX0_changeSeats (w : WW) : VX0_changeSeats w := by
  intro q u hq hw h
  obtain ⟨M, hM, eM⟩ := h.1.1
  have key := lX0_changeSeats (w := w) hq hw h hM eM (Q := fun r u' => r = none ∧ u' = mX0_changeSeats q u) ⟨rfl, by rw [mX0_changeSeats, eM, NN_nI (by omega)]⟩ M 0 none (by omega)
  simp only [ss, pv_vw] at key
  simp only [eX0_changeSeats_0, eX0_changeSeats_1, eX0_changeSeats_3, eX0_changeSeats_4, eX0_changeSeats_7, eX0_changeSeats_10, eX0_changeSeats_11, eX0_changeSeats_14, eX0_changeSeats_15, eX0_changeSeats_16, eX0_changeSeats_19, eX0_changeSeats_20, eX0_changeSeats_21, eX0_changeSeats_22, eX0_changeSeats_25, eX0_changeSeats_26, eX0_changeSeats_27, eX0_changeSeats_28, eX0_changeSeats_29, eX0_changeSeats_32, eX0_changeSeats_35, eX0_changeSeats_38, eX0_changeSeats_39, eX0_changeSeats_42, eX0_changeSeats_43, eX0_changeSeats_44, eX0_changeSeats_47, eX0_changeSeats_48, eX0_changeSeats_51, eX0_changeSeats_52, eX0_changeSeats_53, eX0_changeSeats_56, eX0_changeSeats_59, eX0_changeSeats_60, eX0_changeSeats_61, eX0_changeSeats_64, eX0_changeSeats_67, eX0_changeSeats_70, kl_i, kl_r, kl_n, kl_l, true_and, and_true, true_implies, false_implies, not_true_eq_false, not_false_eq_true, i10, Classical.not_not]
  exact key
theorem wcX0_112 : ∀ x ∈ wV1 RX0 112 yX1_stays MX1_stays, x ∈ Gt := by decide +kernel
theorem nmX1_stays : nmOk yX1_stays 0 = true := by decide +kernel
theorem wcX0_116 : ∀ x ∈ wV1 RX0 116 yX0_makeRise MX0_makeRise, x ∈ Gt := by decide +kernel
theorem nmX0_makeRise : nmOk yX0_makeRise 1 = true := by decide +kernel
set_option maxRecDepth 20000 in
theorem KX0_changeSeats_ok (w : WW) : KOk w MX0_changeSeats (KX0_changeSeats w) := KOk_mk flX0_ok ciX0_ok clX0_ok (fun _ _ h => by cases h) (fun _ _ h => by cases h) (List.forall_mem_cons.mpr ⟨itV (n := 73) (by decide) (COk_V (n := 1) (ci := 0) (ctX0_nextFor w) wcX0_73 nmX0_nextFor (by decide) (by decide) rfl (prX0_nextFor w)), List.forall_mem_cons.mpr ⟨itV (n := 76) (by decide) (COk_V (n := 2) (ci := 0) (ctX0_fall w) wcX0_76 nmX0_fall (by decide) (by decide) rfl (prX0_fall w)), List.forall_mem_cons.mpr ⟨itV (n := 112) (by decide) (COk_V (n := 0) (ci := 1) (ctX1_stays w) wcX0_112 nmX1_stays (by decide) (by decide) rfl (prX1_stays w)), List.forall_mem_cons.mpr ⟨itV (n := 116) (by decide) (COk_V (n := 1) (ci := 0) (ctX0_makeRise w) wcX0_116 nmX0_makeRise (by decide) (by decide) rfl (prX0_makeRise w)), List.forall_mem_nil _⟩⟩⟩⟩)
theorem ctX0_changeSeats (w : WW) : CT w yX0_changeSeats MX0_changeSeats (csX0_changeSeats w).2.1 (csX0_changeSeats w).2.2 := by
  refine CT_of (by decide) rfl TX0_changeSeats_ok TX0_changeSeats_v (KX0_changeSeats_ok w) (fun as u h => ?_)
  obtain ⟨a0, rfl, h⟩ := sgR h
  obtain ⟨h0, hwok, hh⟩ := h
  obtain ⟨q0, e0, rfl⟩ := h0
  rw [hq_hA] at hh
  refine ⟨Nat.le_of_ble_eq_true rfl, ?_⟩
  have key := vX0_changeSeats w q0 u e0 hwok hh
  simp only [csX0_changeSeats, hq_hA]
  exact key
theorem prX0_changeSeats (w : WW) : ∀ as u, (csX0_changeSeats w).2.1 as u → ∃ a r, as = .ref a :: r ∧ r.length = 0 ∧ okO w a 0 := by
  intro as u h
  obtain ⟨a0, rfl, h⟩ := sgR h
  exact ⟨_, _, rfl, rfl, okO_h h⟩
