/-! ===== the class's items, walked ===== -/
theorem an_f {r : Bool × MM} {v : MM} (e : r = (false, v)) : nb 0 ∧ some (Value.int 0) = some (Value.int (bi (r.1 = true))) ∧ v = r.2 := by
  subst e; exact ⟨nb_0, by rw [bi_f (fun z => Bool.noConfusion z)], rfl⟩
theorem an_t {r : Bool × MM} {v : MM} (e : r = (true, v)) : nb 1 ∧ some (Value.int 1) = some (Value.int (bi (r.1 = true))) ∧ v = r.2 := by
  subst e; exact ⟨nb_1, by rw [bi_t rfl], rfl⟩
theorem vp6_of {R : Nat → Int32} (h : Ok R) (c : ¬ 6 ≤ R 1) : vp_in (R 1) 6 := by
  obtain ⟨M, hM, e⟩ := h.1
  rw [e] at c ⊢
  exact vi_nI (Nat.lt_of_not_le (fun z => c (nI_le (a := 6) z (by omega))))
theorem vp10_of {R : Nat → Int32} (h : Ok R) (c : ¬ 10 ≤ R 2) : vp_in (R 2) 10 := by
  obtain ⟨M, hM, e⟩ := h.2.1
  rw [e] at c ⊢
  exact vi_nI (Nat.lt_of_not_le (fun z => c (nI_le (a := 10) z (by omega))))
theorem scn_all {p : Int32 → Prop} [DecidablePred p] {B : Nat → Int32} : ∀ (f j k : Nat), j ≤ k → k < scn p B f j → p (B k)
  | 0, j, k, h1, h2 => absurd h2 (by simp only [scn]; omega)
  | f + 1, j, k, h1, h2 => by
    simp only [scn] at h2
    split at h2
    · rename_i z
      by_cases e : j = k
      · rw [← e]; exact z
      · exact scn_all f (j + 1) k (by omega) h2
    · omega
theorem nmb_rng {B : Nat → Int32} {s : Nat} : ∀ n, (∀ k, k < n → isDg (B (s + k))) → ∃ x, x ≤ 10000 ∧ nmb B s n = nI x
  | 0, _ => ⟨0, by decide, rfl⟩
  | n + 1, h => by
    obtain ⟨x, h1, h2⟩ := nmb_rng n (fun k hk => h k (by omega))
    rw [nmb, h2]
    exact (nmb_st h1 (h n (by omega))).1
theorem tkC_2 (b : Int32) : tkC b = 2 ↔ ¬ b < 0 ∧ ¬ isLt b ∧ isDg b := by
  unfold tkC
  by_cases h1 : b < 0
  · rw [if_pos h1]; exact ⟨fun z => absurd z (by decide), fun z => absurd h1 z.1⟩
  · rw [if_neg h1]
    by_cases h2 : isLt b
    · rw [if_pos h2]; exact ⟨fun z => absurd z (by decide), fun z => absurd h2 z.2.1⟩
    · rw [if_neg h2]
      by_cases h3 : isDg b
      · rw [if_pos h3]; exact ⟨fun _ => ⟨h1, h2, h3⟩, fun _ => rfl⟩
      · rw [if_neg h3]
        refine ⟨fun z => ?_, fun z => absurd z.2.2 h3⟩
        split at z <;> exact absurd z (by decide)
theorem adv_num {u : MM} (h : (mX4_advance u).1 282 = 2) : ∃ x, x ≤ 10000 ∧ (mX4_advance u).1 285 = nI x := by
  have h' : tkC (bx u (tkB (bx u) (NN (u.1 281)) (NN (u.1 284)))) = 2 := h
  obtain ⟨a, b, d⟩ := (tkC_2 _).mp h'
  show ∃ x, x ≤ 10000 ∧ (if srt (bx u (tkB (bx u) (NN (u.1 281)) (NN (u.1 284)))) = 2 then nmb (bx u) (tkB (bx u) (NN (u.1 281)) (NN (u.1 284))) (tkE (bx u) (NN (u.1 281)) (tkB (bx u) (NN (u.1 281)) (NN (u.1 284))) - tkB (bx u) (NN (u.1 281)) (NN (u.1 284))) else u.1 285) = nI x
  rw [if_pos ((srt_2 _).mpr ⟨a, b, d⟩)]
  generalize tkB (bx u) (NN (u.1 281)) (NN (u.1 284)) = s at *
  refine nmb_rng _ (fun k hk => ?_)
  unfold tkE at hk
  rw [if_neg a, if_neg b, if_pos d] at hk
  exact scn_all (NN (u.1 281) - s) s (s + k) (by omega) (by omega)
theorem num_vi {u : MM} {n : Int32} {N : Nat} (h : numB (mX4_advance u) n) (hN : N < 2 ^ 31) (e : n = nI N) : vp_in ((mX4_advance u).1 285) N := by
  obtain ⟨x, h1, h2⟩ := adv_num h.1
  have := h.2
  rw [h2, e] at this
  rw [h2]; exact vi_nI ((nI_ltI (by omega) hN).mp this) hN
theorem vX4_enterSeat (w : WW) : VX4_enterSeat w := by
  intro q u hq hw h
  have h1 := adv_pE hq h
  have h2 := adv_pE hq h1
  have h3 := adv_pE hq h2
  simp only [eX4_enterSeat_0, eX4_enterSeat_1, eX4_enterSeat_4, eX4_enterSeat_7, eX4_enterSeat_8, eX4_enterSeat_9, eX4_enterSeat_10, eX4_enterSeat_13, eX4_enterSeat_14, eX4_enterSeat_16, eX4_enterSeat_19, eX4_enterSeat_22, eX4_enterSeat_23, eX4_enterSeat_24, eX4_enterSeat_27, eX4_enterSeat_30, eX4_enterSeat_31, eX4_enterSeat_34, eX4_enterSeat_35, eX4_enterSeat_36, eX4_enterSeat_37, eX4_enterSeat_40, eX4_enterSeat_41, eX4_enterSeat_42, eX4_enterSeat_43, eX4_enterSeat_44, eX4_enterSeat_47, eX4_enterSeat_48, eX4_enterSeat_50, eX4_enterSeat_53, eX4_enterSeat_56, eX4_enterSeat_57, eX4_enterSeat_60, eX4_enterSeat_61, eX4_enterSeat_63, eX4_enterSeat_66, eX4_enterSeat_69, eX4_enterSeat_70, eX4_enterSeat_71, eX4_enterSeat_72, eX4_enterSeat_75, eX4_enterSeat_76, eX4_enterSeat_77, eX4_enterSeat_80, eX4_enterSeat_81, eX4_enterSeat_82, eX4_enterSeat_83, eX4_enterSeat_86, eX4_enterSeat_87, eX4_enterSeat_88, kl_i, kl_r, kl_n, kl_l, true_and, and_true, true_implies, false_implies, not_true_eq_false, not_false_eq_true, i10, Classical.not_not, ok_h0 w hq, rf_h0 w hq, ok_h1 w hq, rf_h1 w hq, ok_h2 w hq, ix_h2 w hq, ok_h3 w hq, ix_h3 w hq, ok_h4 w hq, ix_h4 w hq, ar_sa w hq, rf_sa w hq, ar_oa w hq, rf_oa w hq, hw_0, hw_1, hw_2, hu_0, hu_1, hu_2, on_vw, on_f, se_vw, se_f, vw_pv, pv_pv, ost_uI, sst_uI, sit_d, may_d, far_d, stay_d, goe_d, stp_d, hOk_h w hq, hq_hA, ok_tp0, rf_tp0, ok_tp1, ix_tp1, ok_tp2, ix_tp2, ok_tp3, ix_tp3, ok_tp4, ix_tp4, ok_tp5, ix_tp5, ai_tbb, rd_tbb, tx_r1, tx_r2, tx_r3, tx_r4, tx_r5, tx_b, tx_w2, tx_w3, tx_w4, tx_w5, hw, pX0_hasAllSeats, rX0_hasAllSeats, bi_0, pX4_advance, h.1, TK_EX h.2.1, h1.1, TK_EX h1.2.1, h2.1, TK_EX h2.2.1, h3.1, TK_EX h3.2.1, pX4_isNumberBelow, rX4_isNumberBelow, pX0_seatOn, rX0_seatOn, kOk_wK w (show 2 < 11 by decide), kt_wK hw (show 2 < 11 by decide), pX4_isWord, h2.2.1, rX4_isWord, pX0_addSeat, rX4_enterSeat, mX4_enterSeat]
  refine ⟨fun c1 => ⟨fun c2 => an_f ?_, fun c2 => ⟨h1.2.2.1.mny, fun c3 => ⟨fun c4 => ⟨?_, an_t ?_⟩, fun c4 => ⟨fun c5 => ⟨?_, an_t ?_⟩, fun c5 => an_f ?_⟩⟩, fun c3 => an_f ?_⟩⟩, fun c1 => an_f ?_⟩
  · unfold eSeat; rw [if_neg c1, if_neg (fun z => c2 z.1)]
  · rw [vwA hq (by decide), vwA hq (by decide)]; exact vp6_of h.2.2.1 c1
  · unfold eSeat; rw [if_neg c1, if_pos ⟨c2, c3⟩]; unfold eS2; rw [if_neg c4]
  · rw [vwA hq (by decide), vwA hq (by decide), vwA hq (by decide), vwA hq (by decide)]; exact vp6_of h.2.2.1 c1
  · unfold eSeat; rw [if_neg c1, if_pos ⟨c2, c3⟩]; unfold eS2; rw [if_pos c4, if_pos c5]
  · unfold eSeat; rw [if_neg c1, if_pos ⟨c2, c3⟩]; unfold eS2; rw [if_pos c4, if_neg c5]
  · unfold eSeat; rw [if_neg c1, if_neg (fun z => c3 z.2)]
  · unfold eSeat; rw [if_pos c1]
theorem wcX4_22 : ∀ x ∈ wV1 RX4 22 yX4_advance MX4_advance, x ∈ Gt := by decide +kernel
theorem nmX4_advance : nmOk yX4_advance 0 = true := by decide +kernel
theorem wcX4_49 : ∀ x ∈ wV1 RX4 49 yX0_hasAllSeats MX0_hasAllSeats, x ∈ Gt := by decide +kernel
theorem nmX0_hasAllSeats : nmOk yX0_hasAllSeats 0 = true := by decide +kernel
theorem wcX4_55 : ∀ x ∈ wV1 RX4 55 yX4_isNumberBelow MX4_isNumberBelow, x ∈ Gt := by decide +kernel
theorem nmX4_isNumberBelow : nmOk yX4_isNumberBelow 1 = true := by decide +kernel
theorem wcX4_62 : ∀ x ∈ wV1 RX4 62 yX0_seatOn MX0_seatOn, x ∈ Gt := by decide +kernel
theorem nmX0_seatOn : nmOk yX0_seatOn 1 = true := by decide +kernel
theorem wcX4_68 : ∀ x ∈ wV1 RX4 68 yX0_addSeat MX0_addSeat, x ∈ Gt := by decide +kernel
theorem nmX0_addSeat : nmOk yX0_addSeat 2 = true := by decide +kernel
set_option maxRecDepth 20000 in
theorem KX4_enterSeat_ok (w : WW) : KOk w MX4_enterSeat (KX4_enterSeat w) := KOk_mk flX4_ok ciX4_ok clX4_ok (fun _ _ h => by cases h) (fun n t h => tx_ok n t h) (List.forall_mem_cons.mpr ⟨itV (n := 22) (by decide) (COk_V (n := 0) (ci := 4) (ctX4_advance w) wcX4_22 nmX4_advance (by decide) (by decide) rfl (prX4_advance w)), List.forall_mem_cons.mpr ⟨itV (n := 27) (by decide) (COk_V (n := 1) (ci := 4) (ctX4_isWord w) wcX4_27 nmX4_isWord (by decide) (by decide) rfl (prX4_isWord w)), List.forall_mem_cons.mpr ⟨itV (n := 49) (by decide) (COk_V (n := 0) (ci := 0) (ctX0_hasAllSeats w) wcX4_49 nmX0_hasAllSeats (by decide) (by decide) rfl (prX0_hasAllSeats w)), List.forall_mem_cons.mpr ⟨itV (n := 55) (by decide) (COk_V (n := 1) (ci := 4) (ctX4_isNumberBelow w) wcX4_55 nmX4_isNumberBelow (by decide) (by decide) rfl (prX4_isNumberBelow w)), List.forall_mem_cons.mpr ⟨itV (n := 62) (by decide) (COk_V (n := 1) (ci := 0) (ctX0_seatOn w) wcX4_62 nmX0_seatOn (by decide) (by decide) rfl (prX0_seatOn w)), List.forall_mem_cons.mpr ⟨itV (n := 68) (by decide) (COk_V (n := 2) (ci := 0) (ctX0_addSeat w) wcX4_68 nmX0_addSeat (by decide) (by decide) rfl (prX0_addSeat w)), List.forall_mem_nil _⟩⟩⟩⟩⟩⟩)
theorem ctX4_enterSeat (w : WW) : CT w yX4_enterSeat MX4_enterSeat (csX4_enterSeat w).2.1 (csX4_enterSeat w).2.2 := by
  refine CT_of (by decide) rfl TX4_enterSeat_ok TX4_enterSeat_v (KX4_enterSeat_ok w) (fun as u h => ?_)
  obtain ⟨a0, a1, rfl, h⟩ := sgRR h
  obtain ⟨rfl, h1, hwok, hh⟩ := h
  obtain ⟨q1, e1, rfl⟩ := h1
  rw [hq_hA] at hh
  refine ⟨Nat.le_of_ble_eq_true rfl, ?_⟩
  have key := vX4_enterSeat w q1 u e1 hwok hh
  simp only [csX4_enterSeat, hq_hA]
  exact key
theorem prX4_enterSeat (w : WW) : ∀ as u, (csX4_enterSeat w).2.1 as u → ∃ a r, as = .ref a :: r ∧ r.length = 1 ∧ okO w a 4 := by
  intro as u h
  obtain ⟨a0, a1, rfl, h⟩ := sgRR h
  exact ⟨_, _, rfl, rfl, okO_tp h⟩
theorem rise_pE {u : MM} {q : Nat} {s : Int32} (hq : q < 3) (h : pE q u) (hs : vp_in s (NN (vw u (91 * q) 1))) : pE q (mX0_makeRise q s u) := by
  unfold mX0_makeRise
  split
  · exact h
  · rename_i c
    have hM := h.2.2.1.M.1
    have hb := Hv.b h.2.2 (vi_lt hs)
    have es : s = nI (NN s) := vi_eq (vi_mono hs hM)
    have hn : ¬ se (vw u (91 * q)) (NN s) 2 < 0 := fun z => c (hb.neg.mp z)
    refine pv_pE hq (fun i hi => ?_) ?_ h
    · exact risesP_hi h.2.2.1 (by have := vi_lt hs; omega) (vi_mono (hb.resolve_left c).1 h.2.2.1.K.1) hi
    · rw [es]; exact risesP_Hv h.2.2 (vi_lt hs) hn
theorem vX4_enterCough (w : WW) : VX4_enterCough w := by
  intro q u hq hw h
  have h1 := adv_pE hq h
  obtain ⟨M, hM, eM⟩ := h1.2.2.1.1
  by_cases c : numB (mX4_advance u) (vw (mX4_advance u) (91 * q) 1)
  · have hv : vp_in ((mX4_advance u).1 285) M := num_vi c (by omega) eM
    have hv6 : vp_in ((mX4_advance u).1 285) 6 := vi_mono hv hM
    have hvM : vp_in ((mX4_advance u).1 285) (NN (vw (mX4_advance u) (91 * q) 1)) := by rw [eM, NN_nI (by omega)]; exact hv
    have h2 := rise_pE hq h1 hvM
    simp only [eX4_enterCough_0, eX4_enterCough_1, eX4_enterCough_4, eX4_enterCough_5, eX4_enterCough_6, eX4_enterCough_9, eX4_enterCough_12, eX4_enterCough_15, eX4_enterCough_16, eX4_enterCough_17, eX4_enterCough_20, eX4_enterCough_23, eX4_enterCough_26, eX4_enterCough_27, eX4_enterCough_28, eX4_enterCough_29, eX4_enterCough_30, eX4_enterCough_33, eX4_enterCough_36, eX4_enterCough_37, eX4_enterCough_40, eX4_enterCough_41, kl_i, kl_r, kl_n, kl_l, true_and, and_true, true_implies, false_implies, not_true_eq_false, not_false_eq_true, i10, Classical.not_not, ok_h0 w hq, rf_h0 w hq, ok_h1 w hq, rf_h1 w hq, ok_h2 w hq, ix_h2 w hq, ok_h3 w hq, ix_h3 w hq, ok_h4 w hq, ix_h4 w hq, ar_sa w hq, rf_sa w hq, ar_oa w hq, rf_oa w hq, hw_0, hw_1, hw_2, hu_0, hu_1, hu_2, on_vw, on_f, se_vw, se_f, vw_pv, pv_pv, ost_uI, sst_uI, sit_d, may_d, far_d, stay_d, goe_d, stp_d, hOk_h w hq, hq_hA, ok_tp0, rf_tp0, ok_tp1, ix_tp1, ok_tp2, ix_tp2, ok_tp3, ix_tp3, ok_tp4, ix_tp4, ok_tp5, ix_tp5, ai_tbb, rd_tbb, tx_r1, tx_r2, tx_r3, tx_r4, tx_r5, tx_b, tx_w2, tx_w3, tx_w4, tx_w5, hw, pX4_advance, h.1, TK_EX h.2.1, pX4_isNumberBelow, rX4_isNumberBelow, bi_t c, pX0_isHeld, rX0_isHeld, hv6, bi_0, pX0_makeRise, hvM, eq_true h1.2.2, h2.1, TK_EX h2.2.1, rX4_enterCough, mX4_enterCough]
    refine ⟨fun d => an_t ?_, fun d => an_f ?_⟩
    · unfold eCough; rw [if_pos ⟨c, d⟩]
    · unfold eCough; rw [if_neg (fun z => z.2 d)]
  · simp only [eX4_enterCough_0, eX4_enterCough_1, eX4_enterCough_4, eX4_enterCough_5, eX4_enterCough_6, eX4_enterCough_9, eX4_enterCough_12, eX4_enterCough_15, eX4_enterCough_16, eX4_enterCough_17, eX4_enterCough_20, eX4_enterCough_23, eX4_enterCough_26, eX4_enterCough_27, eX4_enterCough_28, eX4_enterCough_29, eX4_enterCough_30, eX4_enterCough_33, eX4_enterCough_36, eX4_enterCough_37, eX4_enterCough_40, eX4_enterCough_41, kl_i, kl_r, kl_n, kl_l, true_and, and_true, true_implies, false_implies, not_true_eq_false, not_false_eq_true, i10, Classical.not_not, ok_h0 w hq, rf_h0 w hq, ok_h1 w hq, rf_h1 w hq, ok_h2 w hq, ix_h2 w hq, ok_h3 w hq, ix_h3 w hq, ok_h4 w hq, ix_h4 w hq, ar_sa w hq, rf_sa w hq, ar_oa w hq, rf_oa w hq, hw_0, hw_1, hw_2, hu_0, hu_1, hu_2, on_vw, on_f, se_vw, se_f, vw_pv, pv_pv, ost_uI, sst_uI, sit_d, may_d, far_d, stay_d, goe_d, stp_d, hOk_h w hq, hq_hA, ok_tp0, rf_tp0, ok_tp1, ix_tp1, ok_tp2, ix_tp2, ok_tp3, ix_tp3, ok_tp4, ix_tp4, ok_tp5, ix_tp5, ai_tbb, rd_tbb, tx_r1, tx_r2, tx_r3, tx_r4, tx_r5, tx_b, tx_w2, tx_w3, tx_w4, tx_w5, hw, pX4_advance, h.1, TK_EX h.2.1, pX4_isNumberBelow, rX4_isNumberBelow, bi_f c, rX4_enterCough, mX4_enterCough]
    refine an_f ?_
    unfold eCough; rw [if_neg (fun z => c z.1)]
theorem wcX4_75 : ∀ x ∈ wV1 RX4 75 yX0_isHeld MX0_isHeld, x ∈ Gt := by decide +kernel
theorem wcX4_78 : ∀ x ∈ wV1 RX4 78 yX0_makeRise MX0_makeRise, x ∈ Gt := by decide +kernel
set_option maxRecDepth 20000 in
theorem KX4_enterCough_ok (w : WW) : KOk w MX4_enterCough (KX4_enterCough w) := KOk_mk flX4_ok ciX4_ok clX4_ok (fun _ _ h => by cases h) (fun n t h => tx_ok n t h) (List.forall_mem_cons.mpr ⟨itV (n := 22) (by decide) (COk_V (n := 0) (ci := 4) (ctX4_advance w) wcX4_22 nmX4_advance (by decide) (by decide) rfl (prX4_advance w)), List.forall_mem_cons.mpr ⟨itV (n := 55) (by decide) (COk_V (n := 1) (ci := 4) (ctX4_isNumberBelow w) wcX4_55 nmX4_isNumberBelow (by decide) (by decide) rfl (prX4_isNumberBelow w)), List.forall_mem_cons.mpr ⟨itV (n := 75) (by decide) (COk_V (n := 1) (ci := 0) (ctX0_isHeld w) wcX4_75 nmX0_isHeld (by decide) (by decide) rfl (prX0_isHeld w)), List.forall_mem_cons.mpr ⟨itV (n := 78) (by decide) (COk_V (n := 1) (ci := 0) (ctX0_makeRise w) wcX4_78 nmX0_makeRise (by decide) (by decide) rfl (prX0_makeRise w)), List.forall_mem_nil _⟩⟩⟩⟩)
theorem ctX4_enterCough (w : WW) : CT w yX4_enterCough MX4_enterCough (csX4_enterCough w).2.1 (csX4_enterCough w).2.2 := by
  refine CT_of (by decide) rfl TX4_enterCough_ok TX4_enterCough_v (KX4_enterCough_ok w) (fun as u h => ?_)
  obtain ⟨a0, a1, rfl, h⟩ := sgRR h
  obtain ⟨rfl, h1, hwok, hh⟩ := h
  obtain ⟨q1, e1, rfl⟩ := h1
  rw [hq_hA] at hh
  refine ⟨Nat.le_of_ble_eq_true rfl, ?_⟩
  have key := vX4_enterCough w q1 u e1 hwok hh
  simp only [csX4_enterCough, hq_hA]
  exact key
theorem prX4_enterCough (w : WW) : ∀ as u, (csX4_enterCough w).2.1 as u → ∃ a r, as = .ref a :: r ∧ r.length = 1 ∧ okO w a 4 := by
  intro as u h
  obtain ⟨a0, a1, rfl, h⟩ := sgRR h
  exact ⟨_, _, rfl, rfl, okO_tp h⟩
theorem will_pE {u : MM} {q : Nat} {one v : Int32} (hq : q < 3) (h : pE q u) (ho : vp_in one 10) (hv : v = -1 ∨ vp_in v (NN (vw u (91 * q) 1))) : pE q (pv u (91 * q) (ost (vw u (91 * q)) (NN one) 3 v)) :=
  pv_pE hq (fun i hi => ost_hi (vi_lt ho) (by decide) hi) (ost_Hx h.2.2 (by decide) (fun z => absurd z (by decide)) (fun z => absurd z (by decide)) (fun _ => hv)) h
theorem vX4_enterWish (w : WW) : VX4_enterWish w := by
  intro q one u hq h
  obtain ⟨h, ho⟩ := h
  have h1 := adv_pE hq h
  have hc : NN one < 10 := vi_lt ho
  obtain ⟨M, hM, eM⟩ := h1.2.2.1.1
  by_cases c : numB (mX4_advance u) (vw (mX4_advance u) (91 * q) 1)
  · have hv : vp_in ((mX4_advance u).1 285) M := num_vi c (by omega) eM
    have hvM : vp_in ((mX4_advance u).1 285) (NN (vw (mX4_advance u) (91 * q) 1)) := by rw [eM, NN_nI (by omega)]; exact hv
    have h2 := will_pE hq h1 ho (Or.inr hvM)
    simp only [eX4_enterWish_0, eX4_enterWish_1, eX4_enterWish_4, eX4_enterWish_5, eX4_enterWish_6, eX4_enterWish_9, eX4_enterWish_12, eX4_enterWish_15, eX4_enterWish_16, eX4_enterWish_17, eX4_enterWish_18, eX4_enterWish_21, eX4_enterWish_22, eX4_enterWish_23, eX4_enterWish_24, eX4_enterWish_27, eX4_enterWish_30, eX4_enterWish_31, eX4_enterWish_34, eX4_enterWish_35, kl_i, kl_r, kl_n, kl_l, true_and, and_true, true_implies, false_implies, not_true_eq_false, not_false_eq_true, i10, Classical.not_not, ok_h0 w hq, rf_h0 w hq, ok_h1 w hq, rf_h1 w hq, ok_h2 w hq, ix_h2 w hq, ok_h3 w hq, ix_h3 w hq, ok_h4 w hq, ix_h4 w hq, ar_sa w hq, rf_sa w hq, ar_oa w hq, rf_oa w hq, hw_0, hw_1, hw_2, hu_0, hu_1, hu_2, on_vw, on_f, se_vw, se_f, vw_pv, pv_pv, ost_uI, sst_uI, sit_d, may_d, far_d, stay_d, goe_d, stp_d, hOk_h w hq, hq_hA, ok_tp0, rf_tp0, ok_tp1, ix_tp1, ok_tp2, ix_tp2, ok_tp3, ix_tp3, ok_tp4, ix_tp4, ok_tp5, ix_tp5, ai_tbb, rd_tbb, tx_r1, tx_r2, tx_r3, tx_r4, tx_r5, tx_b, tx_w2, tx_w3, tx_w4, tx_w5, pX4_advance, h.1, TK_EX h.2.1, pX4_isNumberBelow, rX4_isNumberBelow, bi_t c, ho, ok_on0 w hq hc, ix_on0 w hq hc, ok_on1 w hq hc, ix_on1 w hq hc, ok_on2 w hq hc, ix_on2 w hq hc, ok_on3 w hq hc, ix_on3 w hq hc, ok_on4 w hq hc, ix_on4 w hq hc, ok_on5 w hq hc, ix_on5 w hq hc, ok_on6 w hq hc, ix_on6 w hq hc, oOk_on w hq hc, fo_on w hq hc, h2.1, TK_EX h2.2.1, rX4_enterWish, mX4_enterWish]
    refine an_t ?_
    unfold eWish; rw [if_pos c]
  · simp only [eX4_enterWish_0, eX4_enterWish_1, eX4_enterWish_4, eX4_enterWish_5, eX4_enterWish_6, eX4_enterWish_9, eX4_enterWish_12, eX4_enterWish_15, eX4_enterWish_16, eX4_enterWish_17, eX4_enterWish_18, eX4_enterWish_21, eX4_enterWish_22, eX4_enterWish_23, eX4_enterWish_24, eX4_enterWish_27, eX4_enterWish_30, eX4_enterWish_31, eX4_enterWish_34, eX4_enterWish_35, kl_i, kl_r, kl_n, kl_l, true_and, and_true, true_implies, false_implies, not_true_eq_false, not_false_eq_true, i10, Classical.not_not, ok_h0 w hq, rf_h0 w hq, ok_h1 w hq, rf_h1 w hq, ok_h2 w hq, ix_h2 w hq, ok_h3 w hq, ix_h3 w hq, ok_h4 w hq, ix_h4 w hq, ar_sa w hq, rf_sa w hq, ar_oa w hq, rf_oa w hq, hw_0, hw_1, hw_2, hu_0, hu_1, hu_2, on_vw, on_f, se_vw, se_f, vw_pv, pv_pv, ost_uI, sst_uI, sit_d, may_d, far_d, stay_d, goe_d, stp_d, hOk_h w hq, hq_hA, ok_tp0, rf_tp0, ok_tp1, ix_tp1, ok_tp2, ix_tp2, ok_tp3, ix_tp3, ok_tp4, ix_tp4, ok_tp5, ix_tp5, ai_tbb, rd_tbb, tx_r1, tx_r2, tx_r3, tx_r4, tx_r5, tx_b, tx_w2, tx_w3, tx_w4, tx_w5, pX4_advance, h.1, TK_EX h.2.1, pX4_isNumberBelow, rX4_isNumberBelow, bi_f c, rX4_enterWish, mX4_enterWish]
    refine an_f ?_
    unfold eWish; rw [if_neg c]
set_option maxRecDepth 20000 in
theorem KX4_enterWish_ok (w : WW) : KOk w MX4_enterWish (KX4_enterWish w) := KOk_mk flX4_ok ciX4_ok clX4_ok (fun _ _ h => by cases h) (fun n t h => tx_ok n t h) (List.forall_mem_cons.mpr ⟨itV (n := 22) (by decide) (COk_V (n := 0) (ci := 4) (ctX4_advance w) wcX4_22 nmX4_advance (by decide) (by decide) rfl (prX4_advance w)), List.forall_mem_cons.mpr ⟨itV (n := 55) (by decide) (COk_V (n := 1) (ci := 4) (ctX4_isNumberBelow w) wcX4_55 nmX4_isNumberBelow (by decide) (by decide) rfl (prX4_isNumberBelow w)), List.forall_mem_nil _⟩⟩)
theorem ctX4_enterWish (w : WW) : CT w yX4_enterWish MX4_enterWish (csX4_enterWish w).2.1 (csX4_enterWish w).2.2 := by
  refine CT_of (by decide) rfl TX4_enterWish_ok TX4_enterWish_v (KX4_enterWish_ok w) (fun as u h => ?_)
  obtain ⟨a0, a1, a2, rfl, h⟩ := sgRRI h
  obtain ⟨rfl, h1, hh⟩ := h
  obtain ⟨q1, e1, rfl⟩ := h1
  rw [hq_hA] at hh
  refine ⟨Nat.le_of_ble_eq_true rfl, ?_⟩
  have key := vX4_enterWish w q1 a2 u e1 hh
  simp only [csX4_enterWish, hq_hA]
  exact key
theorem prX4_enterWish (w : WW) : ∀ as u, (csX4_enterWish w).2.1 as u → ∃ a r, as = .ref a :: r ∧ r.length = 2 ∧ okO w a 4 := by
  intro as u h
  obtain ⟨a0, a1, a2, rfl, h⟩ := sgRRI h
  exact ⟨_, _, rfl, rfl, okO_tp h⟩
theorem kind_kO {u : MM} (h : ¬ rX4_kindNamed u = -1) : kO (rX4_kindNamed u) := by
  unfold rX4_kindNamed at h ⊢
  split
  · exact ⟨by decide, by decide⟩
  · split
    · exact ⟨by decide, by decide⟩
    · split
      · exact ⟨by decide, by decide⟩
      · split
        · exact ⟨by decide, by decide⟩
        · split
          · exact ⟨by decide, by decide⟩
          · split
            · exact ⟨by decide, by decide⟩
            · rename_i a b c d e f
              rw [if_neg a, if_neg b, if_neg c, if_neg d, if_neg e, if_neg f] at h
              exact absurd rfl h
theorem lt10_of {R : Nat → Int32} (c : ¬ 10 ≤ R 2) : R 2 < 10 := Int32.not_le.mp c
theorem one_pE {u : MM} {q : Nat} {k p t : Int32} (hq : q < 3) (h : pE q u) (hK : ¬ 10 ≤ vw u (91 * q) 2) (hk : kO k) : pE q (mX0_addOne q k p t u) :=
  pv_pE hq (fun i hi => oneAdd_hi h.2.2.1 (lt10_of hK) _ _ _ _ hi) (oneAdd_Hv h.2.2 (vi_lt (vp10_of h.2.2.1 hK)) hk (Or.inl rfl)) h
theorem seat_pE {u : MM} {q : Nat} {p t : Int32} (hq : q < 3) (h : pE q u) (hM : ¬ 6 ≤ vw u (91 * q) 1) : pE q (mX0_addSeat q p t u) :=
  pv_pE hq (fun i hi => seatAdd_hi h.2.2.1 (Int32.not_le.mp hM) _ _ hi) (seatAdd_Hv h.2.2 (vi_lt (vp6_of h.2.2.1 hM))) h
