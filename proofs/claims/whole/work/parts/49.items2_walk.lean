/-! ===== the class's items, one behind the other, walked ===== -/
theorem one_tail {q : Nat} {k p t : Int32} {v : MM} {r : Bool × MM} (hq : q < 3) (hv : pE q v) (hK : ¬ 10 ≤ vw v (91 * q) 2) (hk : kO k) (hr : r = eO3 q k p t v) :
    vp_in (vw v (91 * q) 2) 10 ∧ (TX (mX0_addOne q k p t v) ∧ TK (mX0_addOne q k p t v)) ∧ (¬ wd (mX0_addOne q k p t v) 4 → nb 1 ∧ some (Value.int 1) = some (Value.int (bi (r.1 = true))) ∧ mX0_addOne q k p t v = r.2) ∧ (wd (mX0_addOne q k p t v) 4 → pX4_enterWish q (vw v (91 * q) 2) (mX0_addOne q k p t v) ∧ (¬ (eWish q (vw v (91 * q) 2) (mX0_addOne q k p t v)).1 = true → nb 0 ∧ some (Value.int 0) = some (Value.int (bi (r.1 = true))) ∧ (eWish q (vw v (91 * q) 2) (mX0_addOne q k p t v)).2 = r.2) ∧ ((eWish q (vw v (91 * q) 2) (mX0_addOne q k p t v)).1 = true → nb 1 ∧ some (Value.int 1) = some (Value.int (bi (r.1 = true))) ∧ (eWish q (vw v (91 * q) 2) (mX0_addOne q k p t v)).2 = r.2)) := by
  have h1 := one_pE (p := p) (t := t) hq hv hK hk
  have hv10 := vp10_of hv.2.2.1 hK
  subst hr
  refine ⟨hv10, ⟨h1.1, h1.2.1⟩, fun c => an_t ?_, fun c => ⟨⟨h1, hv10⟩, fun d => ?_, fun d => ?_⟩⟩
  · unfold eO3; rw [if_neg c]
  · unfold eO3; rw [if_pos c]; exact ⟨nb_0, by rw [bi_f d], rfl⟩
  · unfold eO3; rw [if_pos c]; exact ⟨nb_1, by rw [bi_t d], rfl⟩
theorem vX4_enterOne (w : WW) : VX4_enterOne w := by
  intro q u hq hw h
  have h1 := adv_pE hq h
  have h2 := adv_pE hq h1
  have h3 := adv_pE hq h2
  have h4 := adv_pE hq h3
  have w3 : 3 < 11 := by decide
  have w4 : 4 < 11 := by decide
  simp only [eX4_enterOne_0, eX4_enterOne_1, eX4_enterOne_4, eX4_enterOne_5, eX4_enterOne_6, eX4_enterOne_7, eX4_enterOne_10, eX4_enterOne_11, eX4_enterOne_14, eX4_enterOne_17, eX4_enterOne_18, eX4_enterOne_19, eX4_enterOne_20, eX4_enterOne_23, eX4_enterOne_24, eX4_enterOne_26, eX4_enterOne_29, eX4_enterOne_32, eX4_enterOne_33, eX4_enterOne_34, eX4_enterOne_35, eX4_enterOne_38, eX4_enterOne_39, eX4_enterOne_40, eX4_enterOne_42, eX4_enterOne_43, eX4_enterOne_46, eX4_enterOne_47, eX4_enterOne_49, eX4_enterOne_52, eX4_enterOne_55, eX4_enterOne_56, eX4_enterOne_59, eX4_enterOne_60, eX4_enterOne_62, eX4_enterOne_65, eX4_enterOne_68, eX4_enterOne_69, eX4_enterOne_70, eX4_enterOne_71, eX4_enterOne_74, eX4_enterOne_76, eX4_enterOne_77, eX4_enterOne_80, eX4_enterOne_81, eX4_enterOne_82, eX4_enterOne_83, eX4_enterOne_85, eX4_enterOne_88, eX4_enterOne_90, eX4_enterOne_91, eX4_enterOne_93, eX4_enterOne_96, eX4_enterOne_99, eX4_enterOne_100, eX4_enterOne_101, eX4_enterOne_103, eX4_enterOne_106, eX4_enterOne_109, eX4_enterOne_110, eX4_enterOne_113, eX4_enterOne_114, kl_i, kl_r, kl_n, kl_l, true_and, and_true, true_implies, false_implies, not_true_eq_false, not_false_eq_true, i10, Classical.not_not, ok_h0 w hq, rf_h0 w hq, ok_h1 w hq, rf_h1 w hq, ok_h2 w hq, ix_h2 w hq, ok_h3 w hq, ix_h3 w hq, ok_h4 w hq, ix_h4 w hq, ar_sa w hq, rf_sa w hq, ar_oa w hq, rf_oa w hq, hw_0, hw_1, hw_2, hu_0, hu_1, hu_2, on_vw, on_f, se_vw, se_f, vw_pv, pv_pv, ost_uI, sst_uI, sit_d, may_d, far_d, stay_d, goe_d, stp_d, hOk_h w hq, hq_hA, ok_tp0, rf_tp0, ok_tp1, ix_tp1, ok_tp2, ix_tp2, ok_tp3, ix_tp3, ok_tp4, ix_tp4, ok_tp5, ix_tp5, ai_tbb, rd_tbb, tx_r1, tx_r2, tx_r3, tx_r4, tx_r5, tx_b, tx_w2, tx_w3, tx_w4, tx_w5, hw, pX4_kindNamed, h.1, h.2.1, pX0_hasAllOnes, rX0_hasAllOnes, bi_0, pX4_advance, TK_EX h.2.1, h1.1, TK_EX h1.2.1, h2.1, TK_EX h2.2.1, h3.1, TK_EX h3.2.1, pX4_isNumberBelow, rX4_isNumberBelow, kOk_wK w w3, kt_wK hw w3, kOk_wK w w4, kt_wK hw w4, pX4_isWord, h2.2.1, rX4_isWord, pX0_addOne, rX0_addOne, rX4_enterWish, mX4_enterWish, rX4_enterOne, mX4_enterOne]
  refine ⟨fun c1 => an_f ?_, fun c1 => ⟨fun c2 => ⟨fun c3 => ⟨fun c4 => ?_, fun c4 => ⟨fun c5 => ?_, fun c5 => an_f ?_⟩⟩, fun c3 => an_f ?_⟩, fun c2 => an_f ?_⟩⟩
  · unfold eOne; rw [if_pos (Or.inl c1)]
  · refine one_tail hq h2 (by rw [vwA hq (by decide), vwA hq (by decide)]; exact c2) (kind_kO c1) ?_
    unfold eOne; rw [if_neg (fun z => z.elim c1 c2), if_pos c3]; unfold eO2; rw [if_neg c4]
  · refine one_tail hq h4 (by rw [vwA hq (by decide), vwA hq (by decide), vwA hq (by decide), vwA hq (by decide)]; exact c2) (kind_kO c1) ?_
    unfold eOne; rw [if_neg (fun z => z.elim c1 c2), if_pos c3]; unfold eO2; rw [if_pos c4, if_pos c5]
  · unfold eOne; rw [if_neg (fun z => z.elim c1 c2), if_pos c3]; unfold eO2; rw [if_pos c4, if_neg c5]
  · unfold eOne; rw [if_neg (fun z => z.elim c1 c2), if_neg c3]
  · unfold eOne; rw [if_pos (Or.inr c2)]
theorem wcX4_82 : ∀ x ∈ wV1 RX4 82 yX4_kindNamed MX4_kindNamed, x ∈ Gt := by decide +kernel
theorem nmX4_kindNamed : nmOk yX4_kindNamed 0 = true := by decide +kernel
theorem wcX4_86 : ∀ x ∈ wV1 RX4 86 yX0_hasAllOnes MX0_hasAllOnes, x ∈ Gt := by decide +kernel
theorem nmX0_hasAllOnes : nmOk yX0_hasAllOnes 0 = true := by decide +kernel
theorem wcX4_91 : ∀ x ∈ wV1 RX4 91 yX0_addOne MX0_addOne, x ∈ Gt := by decide +kernel
theorem nmX0_addOne : nmOk yX0_addOne 3 = true := by decide +kernel
theorem wcX4_97 : ∀ x ∈ wV1 RX4 97 yX4_enterWish MX4_enterWish, x ∈ Gt := by decide +kernel
theorem nmX4_enterWish : nmOk yX4_enterWish 2 = true := by decide +kernel
set_option maxRecDepth 20000 in
theorem KX4_enterOne_ok (w : WW) : KOk w MX4_enterOne (KX4_enterOne w) := KOk_mk flX4_ok ciX4_ok clX4_ok (fun _ _ h => by cases h) (fun n t h => tx_ok n t h) (List.forall_mem_cons.mpr ⟨itV (n := 22) (by decide) (COk_V (n := 0) (ci := 4) (ctX4_advance w) wcX4_22 nmX4_advance (by decide) (by decide) rfl (prX4_advance w)), List.forall_mem_cons.mpr ⟨itV (n := 27) (by decide) (COk_V (n := 1) (ci := 4) (ctX4_isWord w) wcX4_27 nmX4_isWord (by decide) (by decide) rfl (prX4_isWord w)), List.forall_mem_cons.mpr ⟨itV (n := 55) (by decide) (COk_V (n := 1) (ci := 4) (ctX4_isNumberBelow w) wcX4_55 nmX4_isNumberBelow (by decide) (by decide) rfl (prX4_isNumberBelow w)), List.forall_mem_cons.mpr ⟨itV (n := 82) (by decide) (COk_V (n := 0) (ci := 4) (ctX4_kindNamed w) wcX4_82 nmX4_kindNamed (by decide) (by decide) rfl (prX4_kindNamed w)), List.forall_mem_cons.mpr ⟨itV (n := 86) (by decide) (COk_V (n := 0) (ci := 0) (ctX0_hasAllOnes w) wcX4_86 nmX0_hasAllOnes (by decide) (by decide) rfl (prX0_hasAllOnes w)), List.forall_mem_cons.mpr ⟨itV (n := 91) (by decide) (COk_V (n := 3) (ci := 0) (ctX0_addOne w) wcX4_91 nmX0_addOne (by decide) (by decide) rfl (prX0_addOne w)), List.forall_mem_cons.mpr ⟨itV (n := 97) (by decide) (COk_V (n := 2) (ci := 4) (ctX4_enterWish w) wcX4_97 nmX4_enterWish (by decide) (by decide) rfl (prX4_enterWish w)), List.forall_mem_nil _⟩⟩⟩⟩⟩⟩⟩)
theorem ctX4_enterOne (w : WW) : CT w yX4_enterOne MX4_enterOne (csX4_enterOne w).2.1 (csX4_enterOne w).2.2 := by
  refine CT_of (by decide) rfl TX4_enterOne_ok TX4_enterOne_v (KX4_enterOne_ok w) (fun as u h => ?_)
  obtain ⟨a0, a1, rfl, h⟩ := sgRR h
  obtain ⟨rfl, h1, hwok, hh⟩ := h
  obtain ⟨q1, e1, rfl⟩ := h1
  rw [hq_hA] at hh
  refine ⟨Nat.le_of_ble_eq_true rfl, ?_⟩
  have key := vX4_enterOne w q1 u e1 hwok hh
  simp only [csX4_enterOne, hq_hA]
  exact key
theorem prX4_enterOne (w : WW) : ∀ as u, (csX4_enterOne w).2.1 as u → ∃ a r, as = .ref a :: r ∧ r.length = 1 ∧ okO w a 4 := by
  intro as u h
  obtain ⟨a0, a1, rfl, h⟩ := sgRR h
  exact ⟨_, _, rfl, rfl, okO_tp h⟩
theorem eSeat_pE {q : Nat} {u : MM} (hq : q < 3) (h : pE q u) : pE q (eSeat q u).2 := by
  have h1 := adv_pE hq h
  have h2 := adv_pE hq h1
  have h3 := adv_pE hq h2
  have h4 := adv_pE hq h3
  unfold eSeat
  split
  · exact h
  · rename_i c
    split
    · unfold eS2
      split
      · split
        · exact seat_pE hq h4 (by rw [vwA hq (by decide), vwA hq (by decide), vwA hq (by decide), vwA hq (by decide)]; exact c)
        · exact h3
      · exact seat_pE hq h2 (by rw [vwA hq (by decide), vwA hq (by decide)]; exact c)
    · exact h1
theorem eCough_pE {q : Nat} {u : MM} (hq : q < 3) (h : pE q u) : pE q (eCough q u).2 := by
  have h1 := adv_pE hq h
  obtain ⟨M, hM, eM⟩ := h1.2.2.1.1
  unfold eCough
  split
  · rename_i c
    exact adv_pE hq (rise_pE hq h1 (by rw [eM, NN_nI (by omega)]; exact num_vi c.1 (by omega) eM))
  · exact h1
theorem eWish_pE {q : Nat} {one : Int32} {u : MM} (hq : q < 3) (h : pE q u) (ho : vp_in one 10) : pE q (eWish q one u).2 := by
  have h1 := adv_pE hq h
  obtain ⟨M, hM, eM⟩ := h1.2.2.1.1
  unfold eWish
  split
  · rename_i c
    exact adv_pE hq (will_pE hq h1 ho (Or.inr (by rw [eM, NN_nI (by omega)]; exact num_vi c (by omega) eM)))
  · exact h1
theorem eO3_pE {q : Nat} {k p t : Int32} {u : MM} (hq : q < 3) (h : pE q u) (hK : ¬ 10 ≤ vw u (91 * q) 2) (hk : kO k) : pE q (eO3 q k p t u).2 := by
  unfold eO3
  split
  · exact eWish_pE hq (one_pE hq h hK hk) (vp10_of h.2.2.1 hK)
  · exact one_pE hq h hK hk
theorem eOne_pE {q : Nat} {u : MM} (hq : q < 3) (h : pE q u) : pE q (eOne q u).2 := by
  have h1 := adv_pE hq h
  have h2 := adv_pE hq h1
  have h3 := adv_pE hq h2
  have h4 := adv_pE hq h3
  unfold eOne
  split
  · exact h
  · rename_i c
    have c1 : ¬ rX4_kindNamed u = -1 := fun z => c (Or.inl z)
    have c2 : ¬ 10 ≤ vw u (91 * q) 2 := fun z => c (Or.inr z)
    split
    · unfold eO2
      split
      · split
        · exact eO3_pE hq h4 (by rw [vwA hq (by decide), vwA hq (by decide), vwA hq (by decide), vwA hq (by decide)]; exact c2) (kind_kO c1)
        · exact h3
      · exact eO3_pE hq h2 (by rw [vwA hq (by decide), vwA hq (by decide)]; exact c2) (kind_kO c1)
    · exact h1
theorem eItem_pE {q : Nat} {u : MM} (hq : q < 3) (h : pE q u) : pE q (eItem q u).2 := by
  unfold eItem
  split
  · exact eSeat_pE hq h
  · split
    · exact eCough_pE hq h
    · exact eOne_pE hq h
theorem lX4_enterInto {w : WW} {q : Nat} (hq : q < 3) (hw : wOk w) {Q : Option Value → MM → Prop} :
    ∀ (f n : Nat) (u : MM) (j : Option Value), n + f = 121 → pE q u → Q (some (.int (eLoop q f n u).1)) (eLoop q f n u).2 → GX4_enterInto w Q 11 [some (.ref (tpA w)), some (.ref (hA w q)), some (.int (nI n)), j] [] u := by
  intro f
  induction f with
  | zero =>
    intro n u j hn h hQ
    have hgt : (120 : Int32) < nI n := nI_lt (a := 120) (by omega) (by omega)
    rw [eX4_enterInto_11]
    simp only [eX4_enterInto_0, eX4_enterInto_1, eX4_enterInto_2, eX4_enterInto_5, eX4_enterInto_6, eX4_enterInto_9, eX4_enterInto_10, eX4_enterInto_12, eX4_enterInto_14, eX4_enterInto_17, eX4_enterInto_18, eX4_enterInto_20, eX4_enterInto_23, eX4_enterInto_26, eX4_enterInto_27, eX4_enterInto_28, eX4_enterInto_31, eX4_enterInto_34, eX4_enterInto_35, eX4_enterInto_37, eX4_enterInto_40, eX4_enterInto_43, eX4_enterInto_44, eX4_enterInto_45, eX4_enterInto_48, eX4_enterInto_51, eX4_enterInto_52, eX4_enterInto_53, eX4_enterInto_56, eX4_enterInto_57, eX4_enterInto_58, eX4_enterInto_61, eX4_enterInto_62, eX4_enterInto_65, eX4_enterInto_68, eX4_enterInto_69, eX4_enterInto_70, eX4_enterInto_71, eX4_enterInto_74, eX4_enterInto_75, eX4_enterInto_78, eX4_enterInto_79, eX4_enterInto_82, eX4_enterInto_83, eX4_enterInto_84, eX4_enterInto_87, eX4_enterInto_88, eX4_enterInto_89, eX4_enterInto_90, eX4_enterInto_93, eX4_enterInto_96, eX4_enterInto_99, eX4_enterInto_100, eX4_enterInto_101, eX4_enterInto_104, eX4_enterInto_105, kl_i, kl_r, kl_n, kl_l, true_and, and_true, true_implies, false_implies, not_true_eq_false, not_false_eq_true, i10, Classical.not_not, ok_tp0, rf_tp0, ok_tp1, ix_tp1, ok_tp2, ix_tp2, ok_tp3, ix_tp3, ok_tp4, ix_tp4, ok_tp5, ix_tp5, ai_tbb, rd_tbb, tx_r1, tx_r2, tx_r3, tx_r4, tx_r5, tx_b, tx_w2, tx_w3, tx_w4, tx_w5, hgt]
    exact hQ
  | succ f ih =>
    intro n u j hn h hQ
    have hgt : ¬ (120 : Int32) < nI n := nI_nlt (b := n) (a := 120) (by omega) (by omega)
    have w0 : 0 < 11 := by decide
    have w1 : 1 < 11 := by decide
    have hp := eItem_pE hq h
    have tail : ∀ j : Option Value, GX4_enterInto w Q 56 [some (.ref (tpA w)), some (.ref (hA w q)), some (.int (nI n)), j] [.int (bi ((eItem q u).1 = true))] (eItem q u).2 := by
      intro j
      rw [eLoop] at hQ
      generalize eItem q u = r at hp hQ
      simp only [eX4_enterInto_0, eX4_enterInto_1, eX4_enterInto_2, eX4_enterInto_5, eX4_enterInto_6, eX4_enterInto_9, eX4_enterInto_10, eX4_enterInto_12, eX4_enterInto_14, eX4_enterInto_17, eX4_enterInto_18, eX4_enterInto_20, eX4_enterInto_23, eX4_enterInto_26, eX4_enterInto_27, eX4_enterInto_28, eX4_enterInto_31, eX4_enterInto_34, eX4_enterInto_35, eX4_enterInto_37, eX4_enterInto_40, eX4_enterInto_43, eX4_enterInto_44, eX4_enterInto_45, eX4_enterInto_48, eX4_enterInto_51, eX4_enterInto_52, eX4_enterInto_53, eX4_enterInto_56, eX4_enterInto_57, eX4_enterInto_58, eX4_enterInto_61, eX4_enterInto_62, eX4_enterInto_65, eX4_enterInto_68, eX4_enterInto_69, eX4_enterInto_70, eX4_enterInto_71, eX4_enterInto_74, eX4_enterInto_75, eX4_enterInto_78, eX4_enterInto_79, eX4_enterInto_82, eX4_enterInto_83, eX4_enterInto_84, eX4_enterInto_87, eX4_enterInto_88, eX4_enterInto_89, eX4_enterInto_90, eX4_enterInto_93, eX4_enterInto_96, eX4_enterInto_99, eX4_enterInto_100, eX4_enterInto_101, eX4_enterInto_104, eX4_enterInto_105, kl_i, kl_r, kl_n, kl_l, true_and, and_true, true_implies, false_implies, not_true_eq_false, not_false_eq_true, i10, Classical.not_not, ok_tp0, rf_tp0, ok_tp1, ix_tp1, ok_tp2, ix_tp2, ok_tp3, ix_tp3, ok_tp4, ix_tp4, ok_tp5, ix_tp5, ai_tbb, rd_tbb, tx_r1, tx_r2, tx_r3, tx_r4, tx_r5, tx_b, tx_w2, tx_w3, tx_w4, tx_w5, bi_0, pX4_advance, hp.1, TK_EX hp.2.1]
      refine ⟨fun a => ⟨fun _ => ?_, fun z => absurd z a⟩, fun a => ⟨fun b => ⟨fun z => absurd a z, fun _ => ⟨fun c => ?_, fun c => ?_⟩⟩, fun b => ?_⟩⟩
      · rw [if_neg (fun z => a z.1), if_neg (fun z => a z.1)] at hQ; exact hQ
      · rw [if_neg (fun z => b z.2), if_pos ⟨a, c⟩] at hQ
        rw [nI_1]; exact ih (n + 1) _ _ (by omega) (adv_pE hq hp) hQ
      · rw [if_neg (fun z => b z.2), if_neg (fun z => c z.2)] at hQ; exact hQ
      · rw [if_pos ⟨a, b⟩] at hQ; exact hQ
    rw [eX4_enterInto_11]
    have hT : TX u := h.1
    have hK : TK u := h.2.1
    simp only [eX4_enterInto_0, eX4_enterInto_1, eX4_enterInto_2, eX4_enterInto_5, eX4_enterInto_6, eX4_enterInto_9, eX4_enterInto_10, eX4_enterInto_12, eX4_enterInto_14, eX4_enterInto_17, eX4_enterInto_18, eX4_enterInto_20, eX4_enterInto_23, eX4_enterInto_26, eX4_enterInto_27, eX4_enterInto_28, eX4_enterInto_31, eX4_enterInto_34, eX4_enterInto_35, eX4_enterInto_37, eX4_enterInto_40, eX4_enterInto_43, eX4_enterInto_44, eX4_enterInto_45, eX4_enterInto_48, eX4_enterInto_51, eX4_enterInto_52, eX4_enterInto_53, eX4_enterInto_57, eX4_enterInto_58, eX4_enterInto_61, eX4_enterInto_62, eX4_enterInto_65, eX4_enterInto_68, eX4_enterInto_69, eX4_enterInto_70, eX4_enterInto_71, eX4_enterInto_74, eX4_enterInto_75, eX4_enterInto_78, eX4_enterInto_79, eX4_enterInto_82, eX4_enterInto_83, eX4_enterInto_84, eX4_enterInto_87, eX4_enterInto_88, eX4_enterInto_89, eX4_enterInto_90, eX4_enterInto_93, eX4_enterInto_96, eX4_enterInto_99, eX4_enterInto_100, eX4_enterInto_101, eX4_enterInto_104, eX4_enterInto_105, kl_i, kl_r, kl_n, kl_l, true_and, and_true, true_implies, false_implies, not_true_eq_false, not_false_eq_true, i10, Classical.not_not, ok_tp0, rf_tp0, ok_tp1, ix_tp1, ok_tp2, ix_tp2, ok_tp3, ix_tp3, ok_tp4, ix_tp4, ok_tp5, ix_tp5, ai_tbb, rd_tbb, tx_r1, tx_r2, tx_r3, tx_r4, tx_r5, tx_b, tx_w2, tx_w3, tx_w4, tx_w5, ok_h0 w hq, rf_h0 w hq, ok_h1 w hq, rf_h1 w hq, ok_h2 w hq, ix_h2 w hq, ok_h3 w hq, ix_h3 w hq, ok_h4 w hq, ix_h4 w hq, ar_sa w hq, rf_sa w hq, ar_oa w hq, rf_oa w hq, hw_0, hw_1, hw_2, hu_0, hu_1, hu_2, on_vw, on_f, se_vw, se_f, vw_pv, pv_pv, ost_uI, sst_uI, sit_d, may_d, far_d, stay_d, goe_d, stp_d, hOk_h w hq, hq_hA, hgt, kOk_wK w w0, kt_wK hw w0, kOk_wK w w1, kt_wK hw w1, hw, pX4_isWord, hT, hK, rX4_isWord, bi_0, pX4_enterSeat, pX4_enterCough, pX4_enterOne, eq_true h]
    unfold eItem at tail
    refine ⟨fun a => ⟨fun b => ?_, fun b => ?_⟩, fun a => ?_⟩
    · rw [if_neg a, if_neg b] at tail; exact tail _
    · rw [if_neg a, if_pos b] at tail; exact tail _
    · rw [if_pos a] at tail; exact tail _
theorem vX4_enterInto (w : WW) : VX4_enterInto w := by
  intro q u hq hw h
  obtain ⟨hT, hH⟩ := h
  have e0 : uI u 284 0 = tx u (u.1 282, u.1 283, 0, u.1 285) := by
    have := tx_w4 u (tc u) 0
    rw [tx_tc] at this
    exact this
  have hT0 : TX (uI u 284 0) := by rw [e0]; exact (TX_tx _ _).mpr hT
  have hE0 : EX (uI u 284 0) := by rw [e0]; exact ⟨0, Nat.zero_le _, rfl⟩
  have hH0 : Hv (vw (uI u 284 0) (91 * q)) := by
    rw [e0]; exact Hx_lv hH (Lv_ofO hH.1 (fun i hi => (vw_tx hq hi).symm))
  have key := lX4_enterInto (w := w) hq hw (Q := fun r u' => r = some (.int (rX4_enterInto q u)) ∧ u' = mX4_enterInto q u) 120 1 (mX4_advance (uI u 284 0)) none (by decide) ⟨adv_TX hT0, adv_TK hT0 hE0, adv_Hv hq hH0⟩ ⟨by rw [rX4_enterInto, fu_eq], by rw [mX4_enterInto, fu_eq]⟩
  simp only [eX4_enterInto_0, eX4_enterInto_1, eX4_enterInto_2, eX4_enterInto_5, eX4_enterInto_6, eX4_enterInto_9, eX4_enterInto_10, eX4_enterInto_12, eX4_enterInto_14, eX4_enterInto_17, eX4_enterInto_18, eX4_enterInto_20, eX4_enterInto_23, eX4_enterInto_26, eX4_enterInto_27, eX4_enterInto_28, eX4_enterInto_31, eX4_enterInto_34, eX4_enterInto_35, eX4_enterInto_37, eX4_enterInto_40, eX4_enterInto_43, eX4_enterInto_44, eX4_enterInto_45, eX4_enterInto_48, eX4_enterInto_51, eX4_enterInto_52, eX4_enterInto_53, eX4_enterInto_56, eX4_enterInto_57, eX4_enterInto_58, eX4_enterInto_61, eX4_enterInto_62, eX4_enterInto_65, eX4_enterInto_68, eX4_enterInto_69, eX4_enterInto_70, eX4_enterInto_71, eX4_enterInto_74, eX4_enterInto_75, eX4_enterInto_78, eX4_enterInto_79, eX4_enterInto_82, eX4_enterInto_83, eX4_enterInto_84, eX4_enterInto_87, eX4_enterInto_88, eX4_enterInto_89, eX4_enterInto_90, eX4_enterInto_93, eX4_enterInto_96, eX4_enterInto_99, eX4_enterInto_100, eX4_enterInto_101, eX4_enterInto_104, eX4_enterInto_105, kl_i, kl_r, kl_n, kl_l, true_and, and_true, true_implies, false_implies, not_true_eq_false, not_false_eq_true, i10, Classical.not_not, ok_tp4, ix_tp4, pX4_advance, hT0, hE0]
  exact key
theorem wcX4_31 : ∀ x ∈ wV1 RX4 31 yX4_enterSeat MX4_enterSeat, x ∈ Gt := by decide +kernel
theorem nmX4_enterSeat : nmOk yX4_enterSeat 1 = true := by decide +kernel
theorem wcX4_37 : ∀ x ∈ wV1 RX4 37 yX4_enterCough MX4_enterCough, x ∈ Gt := by decide +kernel
theorem nmX4_enterCough : nmOk yX4_enterCough 1 = true := by decide +kernel
theorem wcX4_40 : ∀ x ∈ wV1 RX4 40 yX4_enterOne MX4_enterOne, x ∈ Gt := by decide +kernel
theorem nmX4_enterOne : nmOk yX4_enterOne 1 = true := by decide +kernel
set_option maxRecDepth 20000 in
theorem KX4_enterInto_ok (w : WW) : KOk w MX4_enterInto (KX4_enterInto w) := KOk_mk flX4_ok ciX4_ok clX4_ok (fun _ _ h => by cases h) (fun n t h => tx_ok n t h) (List.forall_mem_cons.mpr ⟨itV (n := 22) (by decide) (COk_V (n := 0) (ci := 4) (ctX4_advance w) wcX4_22 nmX4_advance (by decide) (by decide) rfl (prX4_advance w)), List.forall_mem_cons.mpr ⟨itV (n := 27) (by decide) (COk_V (n := 1) (ci := 4) (ctX4_isWord w) wcX4_27 nmX4_isWord (by decide) (by decide) rfl (prX4_isWord w)), List.forall_mem_cons.mpr ⟨itV (n := 31) (by decide) (COk_V (n := 1) (ci := 4) (ctX4_enterSeat w) wcX4_31 nmX4_enterSeat (by decide) (by decide) rfl (prX4_enterSeat w)), List.forall_mem_cons.mpr ⟨itV (n := 37) (by decide) (COk_V (n := 1) (ci := 4) (ctX4_enterCough w) wcX4_37 nmX4_enterCough (by decide) (by decide) rfl (prX4_enterCough w)), List.forall_mem_cons.mpr ⟨itV (n := 40) (by decide) (COk_V (n := 1) (ci := 4) (ctX4_enterOne w) wcX4_40 nmX4_enterOne (by decide) (by decide) rfl (prX4_enterOne w)), List.forall_mem_nil _⟩⟩⟩⟩⟩)
theorem ctX4_enterInto (w : WW) : CT w yX4_enterInto MX4_enterInto (csX4_enterInto w).2.1 (csX4_enterInto w).2.2 := by
  refine CT_of (by decide) rfl TX4_enterInto_ok TX4_enterInto_v (KX4_enterInto_ok w) (fun as u h => ?_)
  obtain ⟨a0, a1, rfl, h⟩ := sgRR h
  obtain ⟨rfl, h1, hwok, hh⟩ := h
  obtain ⟨q1, e1, rfl⟩ := h1
  rw [hq_hA] at hh
  refine ⟨Nat.le_of_ble_eq_true rfl, ?_⟩
  have key := vX4_enterInto w q1 u e1 hwok hh
  simp only [csX4_enterInto, hq_hA]
  exact key
theorem prX4_enterInto (w : WW) : ∀ as u, (csX4_enterInto w).2.1 as u → ∃ a r, as = .ref a :: r ∧ r.length = 1 ∧ okO w a 4 := by
  intro as u h
  obtain ⟨a0, a1, rfl, h⟩ := sgRR h
  exact ⟨_, _, rfl, rfl, okO_tp h⟩
