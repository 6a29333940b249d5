/-! ===== the class's tape, sheets and images, walked ===== -/
theorem nfq0 {o : Option Nat} {a : Int32} {u v : MM} (h : o = some 0) : (-1000000001 : Int32) = nf o a ∧ fndX 0 u = nfX o u v := by subst h; exact ⟨fk0.symm, rfl⟩
theorem nfq1 {o : Option Nat} {a : Int32} {u v : MM} (h : o = some 1) : (-1000000002 : Int32) = nf o a ∧ fndX 1 u = nfX o u v := by subst h; exact ⟨fk1.symm, rfl⟩
theorem nfq2 {o : Option Nat} {a : Int32} {u v : MM} (h : o = some 2) : (-1000000003 : Int32) = nf o a ∧ fndX 2 u = nfX o u v := by subst h; exact ⟨fk2.symm, rfl⟩
theorem nfq4 {o : Option Nat} {a : Int32} {u v : MM} (h : o = some 4) : (-1000000005 : Int32) = nf o a ∧ fndX 4 u = nfX o u v := by subst h; exact ⟨fk4.symm, rfl⟩
theorem nfq5 {o : Option Nat} {a : Int32} {u v : MM} (h : o = some 5) : (-1000000006 : Int32) = nf o a ∧ fndX 5 u = nfX o u v := by subst h; exact ⟨fk5.symm, rfl⟩
theorem nfq6 {o : Option Nat} {a : Int32} {u v : MM} (h : o = some 6) : (-1000000007 : Int32) = nf o a ∧ fndX 6 u = nfX o u v := by subst h; exact ⟨fk6.symm, rfl⟩
theorem nfqn {o : Option Nat} {a : Int32} {u v : MM} (h : o = none) : a = nf o a ∧ v = nfX o u v := by subst h; exact ⟨rfl, rfl⟩
theorem b255 : ∀ i, i < 32 → (Int32.toBitVec 255).getLsbD i = decide (i < 8) := by decide
theorem sh_bits_k (x : Int32) (m : Nat) (hm : m ≤ 24) (c1 : UInt32) (c2 : Int32) (h1 : (c1.toBitVec % 32).toNat = m) (h2 : (c2.toBitVec.smod 32).toNat = m) : (x.toUInt32 >>> c1).toInt32 &&& 255 = x >>> c2 &&& 255 := by
  apply Int32.toBitVec_inj.mp
  rw [Int32.toBitVec_and, Int32.toBitVec_and, Int32.toBitVec_shiftRight]
  show (x.toUInt32 >>> c1).toBitVec &&& _ = _
  rw [UInt32.toBitVec_shiftRight]
  apply BitVec.eq_of_getLsbD_eq
  intro i hi
  rw [BitVec.getLsbD_and, BitVec.getLsbD_and, b255 i hi]
  by_cases h : i < 8
  · rw [BitVec.ushiftRight_eq', BitVec.getLsbD_ushiftRight, h1, BitVec.sshiftRight_eq', BitVec.getLsbD_sshiftRight, h2, if_pos (by omega)]
    have e : x.toUInt32.toBitVec = x.toBitVec := rfl
    rw [e]
    simp [show ¬ 32 ≤ i by omega]
  · simp [h]
theorem sh_bits (x : Int32) (k : Nat) (hk : k < 4) : (x.toUInt32 >>> ((8 * nI k).toUInt32 &&& Int32.toUInt32 31)).toInt32 &&& 255 = x >>> ((8 * nI k) &&& 31) &&& 255 := by
  have : k = 0 ∨ k = 1 ∨ k = 2 ∨ k = 3 := by omega
  rcases this with rfl | rfl | rfl | rfl
  · exact sh_bits_k x 0 (by decide) _ _ (by decide) (by decide)
  · exact sh_bits_k x 8 (by decide) _ _ (by decide) (by decide)
  · exact sh_bits_k x 16 (by decide) _ _ (by decide) (by decide)
  · exact sh_bits_k x 24 (by decide) _ _ (by decide) (by decide)
theorem ap_len (b : Int32) (u : MM) : (mX4_append b u).1 281 = u.1 281 + 1 := by simp [mX4_append, uI, upd]
theorem fdX_len (b : Int32) : ∀ (k : Nat) (u : MM), (fdX b k u).1 281 = u.1 281 + nI k
  | 0, u => by rw [fdX]; exact (Int32.add_zero _).symm
  | k + 1, u => by
    rw [fdX, fdX_len b k, ap_len, Int32.add_assoc, nI_succ, Int32.add_comm 1]
theorem lX5_feed {w : WW} {b n : Int32} {Q : Option Value → MM → Prop} : ∀ (k : Nat) (v : MM) (L : Nat), k < 5 → v.1 281 = nI L → L + k ≤ 120 → Q (some (.int ((fdX b k v).1 281))) (fdX b k v) → GX5_feed w Q 39 [some (.ref (xA w)), some (.int b), some (.int n), some (.int (nI k - 1))] [] v := by
  intro k
  induction k with
  | zero =>
    intro v L hk eL hL hQ
    have hlt : nI 0 - 1 < 0 := by decide
    rw [eX5_feed_39]
    simp only [eX5_feed_0, eX5_feed_1, eX5_feed_2, eX5_feed_3, eX5_feed_6, eX5_feed_9, eX5_feed_10, eX5_feed_11, eX5_feed_14, eX5_feed_15, eX5_feed_16, eX5_feed_19, eX5_feed_22, eX5_feed_24, eX5_feed_25, eX5_feed_26, eX5_feed_29, eX5_feed_30, eX5_feed_31, eX5_feed_34, eX5_feed_35, eX5_feed_36, eX5_feed_37, eX5_feed_38, eX5_feed_40, eX5_feed_43, eX5_feed_44, eX5_feed_47, eX5_feed_48, eX5_feed_50, eX5_feed_51, eX5_feed_52, eX5_feed_53, eX5_feed_56, eX5_feed_57, eX5_feed_60, eX5_feed_63, eX5_feed_66, eX5_feed_67, eX5_feed_70, eX5_feed_73, kl_i, kl_r, kl_n, kl_l, true_and, and_true, true_implies, false_implies, not_true_eq_false, not_false_eq_true, i10, Classical.not_not, ok_x0, rfP, ok_x1, rfT, ok_x2, rfK, ok_x3, ix_x3, ok_x4, rf_x4, ok_x5, rf_x5, ok_x6, rf_x6, as_fdd, ai_fdd, xa_fdd, rd_fdd, ok_tp1, ix_tp1, hlt]
    exact hQ
  | succ k ih =>
    intro v L hk eL hL hQ
    have e1 : nI (k + 1) - 1 = nI k := nI_pred k
    have hlt : ¬ nI k < 0 := nI_pos (by omega)
    have hv : vp_in (v.1 281) 120 := by rw [eL]; exact vi_nI (by omega)
    have em : nI k + (-1) = nI k - 1 := (Int32.sub_eq_add_neg _ _).symm
    have key := ih (mX4_append (fdB b (nI k)) v) (L + 1) (by omega) (by rw [ap_len, eL, nI_1]) (by omega) hQ
    have eb := sh_bits b k (by omega)
    rw [e1, eX5_feed_39]
    simp only [eX5_feed_0, eX5_feed_1, eX5_feed_2, eX5_feed_3, eX5_feed_6, eX5_feed_9, eX5_feed_10, eX5_feed_11, eX5_feed_14, eX5_feed_15, eX5_feed_16, eX5_feed_19, eX5_feed_22, eX5_feed_24, eX5_feed_25, eX5_feed_26, eX5_feed_29, eX5_feed_30, eX5_feed_31, eX5_feed_34, eX5_feed_35, eX5_feed_36, eX5_feed_37, eX5_feed_38, eX5_feed_40, eX5_feed_43, eX5_feed_44, eX5_feed_47, eX5_feed_48, eX5_feed_50, eX5_feed_51, eX5_feed_52, eX5_feed_53, eX5_feed_56, eX5_feed_57, eX5_feed_60, eX5_feed_63, eX5_feed_66, eX5_feed_67, eX5_feed_70, eX5_feed_73, kl_i, kl_r, kl_n, kl_l, true_and, and_true, true_implies, false_implies, not_true_eq_false, not_false_eq_true, i10, Classical.not_not, ok_x0, rfP, ok_x1, rfT, ok_x2, rfK, ok_x3, ix_x3, ok_x4, rf_x4, ok_x5, rf_x5, ok_x6, rf_x6, as_fdd, ai_fdd, xa_fdd, rd_fdd, hlt, pX4_append, hv, eb, em]
    exact key
theorem vX5_feed (w : WW) : VX5_feed w := by
  intro b n u h
  obtain ⟨L, hL, eL⟩ := h
  by_cases c : 1 ≤ n ∧ n ≤ 4
  · obtain ⟨k, hk, rfl⟩ := nI_of2 (M := 4) (n := 4) rfl (fun z => absurd (Int32.lt_of_le_of_lt c.1 z) (by decide)) c.2
    have e1 : (120 : Int32) - nI k = nI (120 - k) := by
      have : (120 : Int32) = nI (120 - k) + nI k := by rw [nI_add, show 120 - k + k = 120 by omega]; rfl
      rw [this, Int32.add_sub_cancel]
    have c1 : nI L ≤ nI (120 - k) ↔ ¬ 120 < nI L + nI k := by
      rw [nI_add, nI_leI (by omega) (by omega), show (120 : Int32) < nI (L + k) ↔ 120 < L + k from nI_ltI (a := 120) (by decide) (by omega)]
      omega
    simp only [eX5_feed_0, eX5_feed_1, eX5_feed_2, eX5_feed_3, eX5_feed_6, eX5_feed_9, eX5_feed_10, eX5_feed_11, eX5_feed_14, eX5_feed_15, eX5_feed_16, eX5_feed_19, eX5_feed_22, eX5_feed_24, eX5_feed_25, eX5_feed_26, eX5_feed_29, eX5_feed_30, eX5_feed_31, eX5_feed_34, eX5_feed_35, eX5_feed_36, eX5_feed_37, eX5_feed_38, eX5_feed_40, eX5_feed_43, eX5_feed_44, eX5_feed_47, eX5_feed_48, eX5_feed_50, eX5_feed_51, eX5_feed_52, eX5_feed_53, eX5_feed_56, eX5_feed_57, eX5_feed_60, eX5_feed_63, eX5_feed_66, eX5_feed_67, eX5_feed_70, eX5_feed_73, kl_i, kl_r, kl_n, kl_l, true_and, and_true, true_implies, false_implies, not_true_eq_false, not_false_eq_true, i10, Classical.not_not, ok_x0, rfP, ok_x1, rfT, ok_x2, rfK, ok_x3, ix_x3, ok_x4, rf_x4, ok_x5, rf_x5, ok_x6, rf_x6, as_fdd, ai_fdd, xa_fdd, rd_fdd, pX5_finding, mX5_finding, rfx0, rfx1, rfx2, rfx3, rfx4, rfx5, rfx6, N_0, N_1, N_2, N_3, N_4, N_5, N_6, v7_0, v7_1, v7_2, v7_3, v7_4, v7_5, v7_6, pX5_isFromTo, rX5_isFromTo, bi_t c, ok_tp1, ix_tp1, eL, e1, c1, rX5_feed, mX5_feed]
    refine ⟨fun d => ?_, fun d => toV (nfq1 ?_)⟩
    · have hn : L + k ≤ 120 := by
        have := c1.mpr d
        have := (nI_leI (by omega) (by omega)).mp this
        omega
      have e2 : fdNo (nI L) (nI k) = none := by rw [fdNo, if_neg (fun z => z c), if_neg d]
      refine lX5_feed k u L (by omega) eL hn ?_
      rw [fdX_len, eL, e2, NN_nI (by omega)]
      exact ⟨rfl, rfl⟩
    · rw [fdNo, if_neg (fun z => z c), if_pos d]
  · simp only [eX5_feed_0, eX5_feed_1, eX5_feed_2, eX5_feed_3, eX5_feed_6, eX5_feed_9, eX5_feed_10, eX5_feed_11, eX5_feed_14, eX5_feed_15, eX5_feed_16, eX5_feed_19, eX5_feed_22, eX5_feed_24, eX5_feed_25, eX5_feed_26, eX5_feed_29, eX5_feed_30, eX5_feed_31, eX5_feed_34, eX5_feed_35, eX5_feed_36, eX5_feed_37, eX5_feed_38, eX5_feed_40, eX5_feed_43, eX5_feed_44, eX5_feed_47, eX5_feed_48, eX5_feed_50, eX5_feed_51, eX5_feed_52, eX5_feed_53, eX5_feed_56, eX5_feed_57, eX5_feed_60, eX5_feed_63, eX5_feed_66, eX5_feed_67, eX5_feed_70, eX5_feed_73, kl_i, kl_r, kl_n, kl_l, true_and, and_true, true_implies, false_implies, not_true_eq_false, not_false_eq_true, i10, Classical.not_not, ok_x0, rfP, ok_x1, rfT, ok_x2, rfK, ok_x3, ix_x3, ok_x4, rf_x4, ok_x5, rf_x5, ok_x6, rf_x6, as_fdd, ai_fdd, xa_fdd, rd_fdd, pX5_finding, mX5_finding, rfx0, rfx1, rfx2, rfx3, rfx4, rfx5, rfx6, N_0, N_1, N_2, N_3, N_4, N_5, N_6, v7_0, v7_1, v7_2, v7_3, v7_4, v7_5, v7_6, pX5_isFromTo, rX5_isFromTo, bi_f c, rX5_feed, mX5_feed, Option.some.injEq, Value.int.injEq]
    exact nfq0 (by rw [fdNo, if_pos c])
theorem wcX5_220 : ∀ x ∈ wV1 RX5 220 yX4_append MX4_append, x ∈ Gt := by decide +kernel
theorem nmX4_append : nmOk yX4_append 1 = true := by decide +kernel
set_option maxRecDepth 20000 in
theorem KX5_feed_ok (w : WW) : KOk w MX5_feed (KX5_feed w) := KOk_mk flX5_ok ciX5_ok clX5_ok (fun _ _ h => by cases h) (fun _ _ h => by cases h) (List.forall_mem_cons.mpr ⟨itV (n := 52) (by decide) (COk_V (n := 1) (ci := 5) (ctX5_finding w) wcX5_52 nmX5_finding (by decide) (by decide) rfl (prX5_finding w)), List.forall_mem_cons.mpr ⟨itV (n := 220) (by decide) (COk_V (n := 1) (ci := 4) (ctX4_append w) wcX5_220 nmX4_append (by decide) (by decide) rfl (prX4_append w)), List.forall_mem_cons.mpr ⟨itS (n := 48) (COk_S (n := 3) (ctX5_isFromTo w) wcX5_65584 nmX5_isFromTo (by decide)), List.forall_mem_nil _⟩⟩⟩)
theorem ctX5_feed (w : WW) : CT w yX5_feed MX5_feed (csX5_feed w).2.1 (csX5_feed w).2.2 := by
  refine CT_of (by decide) rfl TX5_feed_ok TX5_feed_v (KX5_feed_ok w) (fun as u h => ?_)
  obtain ⟨a0, a1, a2, rfl, h⟩ := sgRII h
  obtain ⟨rfl, hh⟩ := h
  refine ⟨Nat.le_of_ble_eq_true rfl, ?_⟩
  have key := vX5_feed w a1 a2 u hh
  exact key
theorem prX5_feed (w : WW) : ∀ as u, (csX5_feed w).2.1 as u → ∃ a r, as = .ref a :: r ∧ r.length = 2 ∧ okO w a 5 := by
  intro as u h
  obtain ⟨a0, a1, a2, rfl, h⟩ := sgRII h
  exact ⟨_, _, rfl, rfl, okO_x h⟩
theorem vX5_wipe (w : WW) : VX5_wipe w := by
  intro u h
  simp only [eX5_wipe_0, eX5_wipe_1, eX5_wipe_4, eX5_wipe_7, eX5_wipe_8, eX5_wipe_9, eX5_wipe_12, eX5_wipe_13, eX5_wipe_16, eX5_wipe_17, kl_i, kl_r, kl_n, kl_l, true_and, and_true, true_implies, false_implies, not_true_eq_false, not_false_eq_true, i10, Classical.not_not, ok_x0, rfP, ok_x1, rfT, ok_x2, rfK, ok_x3, ix_x3, ok_x4, rf_x4, ok_x5, rf_x5, ok_x6, rf_x6, as_fdd, ai_fdd, xa_fdd, rd_fdd, ok_tp1, ix_tp1, rX5_wipe, mX5_wipe]
set_option maxRecDepth 20000 in
theorem KX5_wipe_ok (w : WW) : KOk w MX5_wipe (KX5_wipe w) := KOk_mk flX5_ok ciX5_ok clX5_ok (fun _ _ h => by cases h) (fun _ _ h => by cases h) (List.forall_mem_nil _)
theorem ctX5_wipe (w : WW) : CT w yX5_wipe MX5_wipe (csX5_wipe w).2.1 (csX5_wipe w).2.2 := by
  refine CT_of (by decide) rfl TX5_wipe_ok TX5_wipe_v (KX5_wipe_ok w) (fun as u h => ?_)
  obtain ⟨a0, rfl, h⟩ := sgR h
  obtain ⟨rfl, hh⟩ := h
  refine ⟨Nat.le_of_ble_eq_true rfl, ?_⟩
  have key := vX5_wipe w u hh
  exact key
theorem prX5_wipe (w : WW) : ∀ as u, (csX5_wipe w).2.1 as u → ∃ a r, as = .ref a :: r ∧ r.length = 0 ∧ okO w a 5 := by
  intro as u h
  obtain ⟨a0, rfl, h⟩ := sgR h
  exact ⟨_, _, rfl, rfl, okO_x h⟩
theorem vX5_tear (w : WW) : VX5_tear w := by
  intro u h
  simp only [eX5_tear_0, eX5_tear_1, eX5_tear_4, eX5_tear_7, eX5_tear_8, eX5_tear_11, eX5_tear_12, eX5_tear_13, eX5_tear_14, eX5_tear_15, eX5_tear_18, eX5_tear_19, kl_i, kl_r, kl_n, kl_l, true_and, and_true, true_implies, false_implies, not_true_eq_false, not_false_eq_true, i10, Classical.not_not, ok_x0, rfP, ok_x1, rfT, ok_x2, rfK, ok_x3, ix_x3, ok_x4, rf_x4, ok_x5, rf_x5, ok_x6, rf_x6, as_fdd, ai_fdd, xa_fdd, rd_fdd, rX5_tear, mX5_tear]
  exact ⟨fun c => ⟨Or.inl trivial, by rw [if_pos c]⟩, fun c => ⟨Or.inl trivial, by rw [if_neg c]⟩⟩
set_option maxRecDepth 20000 in
theorem KX5_tear_ok (w : WW) : KOk w MX5_tear (KX5_tear w) := KOk_mk flX5_ok ciX5_ok clX5_ok (fun _ _ h => by cases h) (fun _ _ h => by cases h) (List.forall_mem_nil _)
theorem ctX5_tear (w : WW) : CT w yX5_tear MX5_tear (csX5_tear w).2.1 (csX5_tear w).2.2 := by
  refine CT_of (by decide) rfl TX5_tear_ok TX5_tear_v (KX5_tear_ok w) (fun as u h => ?_)
  obtain ⟨a0, rfl, h⟩ := sgR h
  obtain ⟨rfl, hh⟩ := h
  refine ⟨Nat.le_of_ble_eq_true rfl, ?_⟩
  have key := vX5_tear w u hh
  exact key
theorem prX5_tear (w : WW) : ∀ as u, (csX5_tear w).2.1 as u → ∃ a r, as = .ref a :: r ∧ r.length = 0 ∧ okO w a 5 := by
  intro as u h
  obtain ⟨a0, rfl, h⟩ := sgR h
  exact ⟨_, _, rfl, rfl, okO_x h⟩
theorem vX5_image (w : WW) : VX5_image w := by
  intro u h
  have hO : Ok (vw u (91 * qP)) := h.1.1
  simp only [eX5_image_0, eX5_image_1, eX5_image_4, eX5_image_5, eX5_image_8, eX5_image_11, eX5_image_12, eX5_image_13, eX5_image_16, eX5_image_17, kl_i, kl_r, kl_n, kl_l, true_and, and_true, true_implies, false_implies, not_true_eq_false, not_false_eq_true, i10, Classical.not_not, ok_x0, rfP, ok_x1, rfT, ok_x2, rfK, ok_x3, ix_x3, ok_x4, rf_x4, ok_x5, rf_x5, ok_x6, rf_x6, as_fdd, ai_fdd, xa_fdd, rd_fdd, ok_h0 w hqP, rf_h0 w hqP, ok_h1 w hqP, rf_h1 w hqP, ok_h2 w hqP, ix_h2 w hqP, ok_h3 w hqP, ix_h3 w hqP, ok_h4 w hqP, ix_h4 w hqP, ar_sa w hqP, rf_sa w hqP, ar_oa w hqP, rf_oa w hqP, hw_0, hw_1, hw_2, hu_0, hu_1, hu_2, on_vw, on_f, se_vw, se_f, vw_pv, pv_pv, ost_uI, sst_uI, sit_d, may_d, far_d, stay_d, goe_d, stp_d, hOk_h w hqP, hq_hA, ok_h0 w hqK, rf_h0 w hqK, ok_h1 w hqK, rf_h1 w hqK, ok_h2 w hqK, ix_h2 w hqK, ok_h3 w hqK, ix_h3 w hqK, ok_h4 w hqK, ix_h4 w hqK, ar_sa w hqK, rf_sa w hqK, ar_oa w hqK, rf_oa w hqK, hw_0, hw_1, hw_2, hu_0, hu_1, hu_2, on_vw, on_f, se_vw, se_f, vw_pv, pv_pv, ost_uI, sst_uI, sit_d, may_d, far_d, stay_d, goe_d, stp_d, hOk_h w hqK, hq_hA, pX0_become, neKP, eq_true hO, rX5_image, mX5_image]
  exact Or.inr trivial
set_option maxRecDepth 20000 in
theorem KX5_image_ok (w : WW) : KOk w MX5_image (KX5_image w) := KOk_mk flX5_ok ciX5_ok clX5_ok (fun _ _ h => by cases h) (fun _ _ h => by cases h) (List.forall_mem_cons.mpr ⟨itV (n := 172) (by decide) (COk_V (n := 1) (ci := 0) (ctX0_become w) wcX5_172 nmX0_become (by decide) (by decide) rfl (prX0_become w)), List.forall_mem_nil _⟩)
theorem ctX5_image (w : WW) : CT w yX5_image MX5_image (csX5_image w).2.1 (csX5_image w).2.2 := by
  refine CT_of (by decide) rfl TX5_image_ok TX5_image_v (KX5_image_ok w) (fun as u h => ?_)
  obtain ⟨a0, rfl, h⟩ := sgR h
  obtain ⟨rfl, hh⟩ := h
  refine ⟨Nat.le_of_ble_eq_true rfl, ?_⟩
  have key := vX5_image w u hh
  exact key
theorem prX5_image (w : WW) : ∀ as u, (csX5_image w).2.1 as u → ∃ a r, as = .ref a :: r ∧ r.length = 0 ∧ okO w a 5 := by
  intro as u h
  obtain ⟨a0, rfl, h⟩ := sgR h
  exact ⟨_, _, rfl, rfl, okO_x h⟩
theorem vX5_undo (w : WW) : VX5_undo w := by
  intro u h
  by_cases c : u.1 280 = 0
  · simp only [eX5_undo_0, eX5_undo_1, eX5_undo_4, eX5_undo_7, eX5_undo_8, eX5_undo_9, eX5_undo_12, eX5_undo_13, eX5_undo_14, eX5_undo_17, eX5_undo_18, eX5_undo_21, eX5_undo_24, eX5_undo_25, eX5_undo_28, eX5_undo_31, kl_i, kl_r, kl_n, kl_l, true_and, and_true, true_implies, false_implies, not_true_eq_false, not_false_eq_true, i10, Classical.not_not, ok_x0, rfP, ok_x1, rfT, ok_x2, rfK, ok_x3, ix_x3, ok_x4, rf_x4, ok_x5, rf_x5, ok_x6, rf_x6, as_fdd, ai_fdd, xa_fdd, rd_fdd, pX5_finding, mX5_finding, rfx0, rfx1, rfx2, rfx3, rfx4, rfx5, rfx6, N_0, N_1, N_2, N_3, N_4, N_5, N_6, v7_0, v7_1, v7_2, v7_3, v7_4, v7_5, v7_6, c, rX5_undo, mX5_undo, if_true]
  · have hO := h c
    simp only [eX5_undo_0, eX5_undo_1, eX5_undo_4, eX5_undo_7, eX5_undo_8, eX5_undo_9, eX5_undo_12, eX5_undo_13, eX5_undo_14, eX5_undo_17, eX5_undo_18, eX5_undo_21, eX5_undo_24, eX5_undo_25, eX5_undo_28, eX5_undo_31, kl_i, kl_r, kl_n, kl_l, true_and, and_true, true_implies, false_implies, not_true_eq_false, not_false_eq_true, i10, Classical.not_not, ok_x0, rfP, ok_x1, rfT, ok_x2, rfK, ok_x3, ix_x3, ok_x4, rf_x4, ok_x5, rf_x5, ok_x6, rf_x6, as_fdd, ai_fdd, xa_fdd, rd_fdd, ok_h0 w hqP, rf_h0 w hqP, ok_h1 w hqP, rf_h1 w hqP, ok_h2 w hqP, ix_h2 w hqP, ok_h3 w hqP, ix_h3 w hqP, ok_h4 w hqP, ix_h4 w hqP, ar_sa w hqP, rf_sa w hqP, ar_oa w hqP, rf_oa w hqP, hw_0, hw_1, hw_2, hu_0, hu_1, hu_2, on_vw, on_f, se_vw, se_f, vw_pv, pv_pv, ost_uI, sst_uI, sit_d, may_d, far_d, stay_d, goe_d, stp_d, hOk_h w hqP, hq_hA, ok_h0 w hqK, rf_h0 w hqK, ok_h1 w hqK, rf_h1 w hqK, ok_h2 w hqK, ix_h2 w hqK, ok_h3 w hqK, ix_h3 w hqK, ok_h4 w hqK, ix_h4 w hqK, ar_sa w hqK, rf_sa w hqK, ar_oa w hqK, rf_oa w hqK, hw_0, hw_1, hw_2, hu_0, hu_1, hu_2, on_vw, on_f, se_vw, se_f, vw_pv, pv_pv, ost_uI, sst_uI, sit_d, may_d, far_d, stay_d, goe_d, stp_d, hOk_h w hqK, hq_hA, pX5_finding, mX5_finding, rfx0, rfx1, rfx2, rfx3, rfx4, rfx5, rfx6, N_0, N_1, N_2, N_3, N_4, N_5, N_6, v7_0, v7_1, v7_2, v7_3, v7_4, v7_5, v7_6, c, pX0_become, nePK, eq_true hO, rX5_undo, mX5_undo, if_false]
    rw [← (bec_lv (q := qP) hO).2.2.1]
set_option maxRecDepth 20000 in
theorem KX5_undo_ok (w : WW) : KOk w MX5_undo (KX5_undo w) := KOk_mk flX5_ok ciX5_ok clX5_ok (fun _ _ h => by cases h) (fun _ _ h => by cases h) (List.forall_mem_cons.mpr ⟨itV (n := 52) (by decide) (COk_V (n := 1) (ci := 5) (ctX5_finding w) wcX5_52 nmX5_finding (by decide) (by decide) rfl (prX5_finding w)), List.forall_mem_cons.mpr ⟨itV (n := 172) (by decide) (COk_V (n := 1) (ci := 0) (ctX0_become w) wcX5_172 nmX0_become (by decide) (by decide) rfl (prX0_become w)), List.forall_mem_nil _⟩⟩)
theorem ctX5_undo (w : WW) : CT w yX5_undo MX5_undo (csX5_undo w).2.1 (csX5_undo w).2.2 := by
  refine CT_of (by decide) rfl TX5_undo_ok TX5_undo_v (KX5_undo_ok w) (fun as u h => ?_)
  obtain ⟨a0, rfl, h⟩ := sgR h
  obtain ⟨rfl, hh⟩ := h
  refine ⟨Nat.le_of_ble_eq_true rfl, ?_⟩
  have key := vX5_undo w u hh
  exact key
theorem prX5_undo (w : WW) : ∀ as u, (csX5_undo w).2.1 as u → ∃ a r, as = .ref a :: r ∧ r.length = 0 ∧ okO w a 5 := by
  intro as u h
  obtain ⟨a0, rfl, h⟩ := sgR h
  exact ⟨_, _, rfl, rfl, okO_x h⟩
theorem lX5_status {w : WW} {k : Int32} {u : MM} {Q : Option Value → MM → Prop} (hQ : Q (some (.int (fsum (vw u 440) 7))) u) : ∀ (n i : Nat), i + n = 7 → GX5_status w Q 31 [some (.ref (xA w)), some (.int k), some (.int (fsum (vw u 440) i)), some (.int (nI i))] [] u := by
  intro n
  induction n with
  | zero =>
    intro i hi
    have e : i = 7 := by omega
    subst e
    have hle : (7 : Int32) ≤ nI 7 := by decide
    rw [eX5_status_31]
    simp only [eX5_status_0, eX5_status_1, eX5_status_2, eX5_status_4, eX5_status_7, eX5_status_10, eX5_status_11, eX5_status_12, eX5_status_15, eX5_status_16, eX5_status_17, eX5_status_20, eX5_status_21, eX5_status_24, eX5_status_25, eX5_status_26, eX5_status_27, eX5_status_28, eX5_status_29, eX5_status_30, eX5_status_32, eX5_status_34, eX5_status_37, eX5_status_38, eX5_status_39, eX5_status_42, eX5_status_43, eX5_status_44, eX5_status_45, eX5_status_46, eX5_status_49, eX5_status_52, eX5_status_53, kl_i, kl_r, kl_n, kl_l, true_and, and_true, true_implies, false_implies, not_true_eq_false, not_false_eq_true, i10, Classical.not_not, hle]
    exact hQ
  | succ n ih =>
    intro i hi
    have hlt : ¬ (7 : Int32) ≤ nI i := nI_ge (a := i) (b := 7) (by omega) (by decide)
    have hv : vp_in (nI i) 7 := vi_nI (by omega)
    have hN : NN (nI i) = i := NN_nI (by omega)
    rw [eX5_status_31]
    simp only [eX5_status_0, eX5_status_1, eX5_status_2, eX5_status_4, eX5_status_7, eX5_status_10, eX5_status_11, eX5_status_12, eX5_status_15, eX5_status_16, eX5_status_17, eX5_status_20, eX5_status_21, eX5_status_24, eX5_status_25, eX5_status_26, eX5_status_27, eX5_status_28, eX5_status_29, eX5_status_30, eX5_status_32, eX5_status_34, eX5_status_37, eX5_status_38, eX5_status_39, eX5_status_42, eX5_status_43, eX5_status_44, eX5_status_45, eX5_status_46, eX5_status_49, eX5_status_52, eX5_status_53, kl_i, kl_r, kl_n, kl_l, true_and, and_true, true_implies, false_implies, not_true_eq_false, not_false_eq_true, i10, Classical.not_not, ok_x0, rfP, ok_x1, rfT, ok_x2, rfK, ok_x3, ix_x3, ok_x4, rf_x4, ok_x5, rf_x5, ok_x6, rf_x6, as_fdd, ai_fdd, xa_fdd, rd_fdd, hlt, hv, hN]
    rw [nI_1]; exact ih (i + 1) (by omega)
theorem vX5_status (w : WW) : VX5_status w := by
  intro k u h
  by_cases c : isWh k
  · have hm : mX5_status k u = u := by unfold mX5_status; rw [if_neg (fun z => z c)]
    by_cases d : k < 0
    · have hr : rX5_status k u = fsum (vw u 440) 7 := by unfold rX5_status; rw [if_neg (fun z => z c), if_pos d]
      simp only [eX5_status_0, eX5_status_1, eX5_status_2, eX5_status_4, eX5_status_7, eX5_status_10, eX5_status_11, eX5_status_12, eX5_status_15, eX5_status_16, eX5_status_17, eX5_status_20, eX5_status_21, eX5_status_24, eX5_status_25, eX5_status_26, eX5_status_27, eX5_status_28, eX5_status_29, eX5_status_30, eX5_status_32, eX5_status_34, eX5_status_37, eX5_status_38, eX5_status_39, eX5_status_42, eX5_status_43, eX5_status_44, eX5_status_45, eX5_status_46, eX5_status_49, eX5_status_52, eX5_status_53, kl_i, kl_r, kl_n, kl_l, true_and, and_true, true_implies, false_implies, not_true_eq_false, not_false_eq_true, i10, Classical.not_not, ok_x0, rfP, ok_x1, rfT, ok_x2, rfK, ok_x3, ix_x3, ok_x4, rf_x4, ok_x5, rf_x5, ok_x6, rf_x6, as_fdd, ai_fdd, xa_fdd, rd_fdd, pX5_finding, mX5_finding, rfx0, rfx1, rfx2, rfx3, rfx4, rfx5, rfx6, N_0, N_1, N_2, N_3, N_4, N_5, N_6, v7_0, v7_1, v7_2, v7_3, v7_4, v7_5, v7_6, pX5_isFromTo, rX5_isFromTo, bi_t c, d]
      rw [hr, hm]
      exact lX5_status (Q := fun r u' => r = some (.int (fsum (vw u 440) 7)) ∧ u' = u) ⟨rfl, rfl⟩ 7 0 (by decide)
    · have hr : rX5_status k u = u.1 (440 + NN k) := by unfold rX5_status; rw [if_neg (fun z => z c), if_neg d]
      have hv : vp_in k 7 := by
        obtain ⟨j, hj, rfl⟩ := nI_of2 (M := 6) (n := 6) rfl d c.2
        exact vi_nI (by omega)
      simp only [eX5_status_0, eX5_status_1, eX5_status_2, eX5_status_4, eX5_status_7, eX5_status_10, eX5_status_11, eX5_status_12, eX5_status_15, eX5_status_16, eX5_status_17, eX5_status_20, eX5_status_21, eX5_status_24, eX5_status_25, eX5_status_26, eX5_status_27, eX5_status_28, eX5_status_29, eX5_status_30, eX5_status_32, eX5_status_34, eX5_status_37, eX5_status_38, eX5_status_39, eX5_status_42, eX5_status_43, eX5_status_44, eX5_status_45, eX5_status_46, eX5_status_49, eX5_status_52, eX5_status_53, kl_i, kl_r, kl_n, kl_l, true_and, and_true, true_implies, false_implies, not_true_eq_false, not_false_eq_true, i10, Classical.not_not, ok_x0, rfP, ok_x1, rfT, ok_x2, rfK, ok_x3, ix_x3, ok_x4, rf_x4, ok_x5, rf_x5, ok_x6, rf_x6, as_fdd, ai_fdd, xa_fdd, rd_fdd, pX5_finding, mX5_finding, rfx0, rfx1, rfx2, rfx3, rfx4, rfx5, rfx6, N_0, N_1, N_2, N_3, N_4, N_5, N_6, v7_0, v7_1, v7_2, v7_3, v7_4, v7_5, v7_6, pX5_isFromTo, rX5_isFromTo, bi_t c, d, hv, hr, hm]
  · simp only [eX5_status_0, eX5_status_1, eX5_status_2, eX5_status_4, eX5_status_7, eX5_status_10, eX5_status_11, eX5_status_12, eX5_status_15, eX5_status_16, eX5_status_17, eX5_status_20, eX5_status_21, eX5_status_24, eX5_status_25, eX5_status_26, eX5_status_27, eX5_status_28, eX5_status_29, eX5_status_30, eX5_status_32, eX5_status_34, eX5_status_37, eX5_status_38, eX5_status_39, eX5_status_42, eX5_status_43, eX5_status_44, eX5_status_45, eX5_status_46, eX5_status_49, eX5_status_52, eX5_status_53, kl_i, kl_r, kl_n, kl_l, true_and, and_true, true_implies, false_implies, not_true_eq_false, not_false_eq_true, i10, Classical.not_not, ok_x0, rfP, ok_x1, rfT, ok_x2, rfK, ok_x3, ix_x3, ok_x4, rf_x4, ok_x5, rf_x5, ok_x6, rf_x6, as_fdd, ai_fdd, xa_fdd, rd_fdd, pX5_finding, mX5_finding, rfx0, rfx1, rfx2, rfx3, rfx4, rfx5, rfx6, N_0, N_1, N_2, N_3, N_4, N_5, N_6, v7_0, v7_1, v7_2, v7_3, v7_4, v7_5, v7_6, pX5_isFromTo, rX5_isFromTo, bi_f c, rX5_status, mX5_status, Option.some.injEq, Value.int.injEq]
    rw [if_pos c, if_pos c]; exact ⟨rfl, rfl⟩
set_option maxRecDepth 20000 in
theorem KX5_status_ok (w : WW) : KOk w MX5_status (KX5_status w) := KOk_mk flX5_ok ciX5_ok clX5_ok (fun _ _ h => by cases h) (fun _ _ h => by cases h) (List.forall_mem_cons.mpr ⟨itV (n := 52) (by decide) (COk_V (n := 1) (ci := 5) (ctX5_finding w) wcX5_52 nmX5_finding (by decide) (by decide) rfl (prX5_finding w)), List.forall_mem_cons.mpr ⟨itS (n := 48) (COk_S (n := 3) (ctX5_isFromTo w) wcX5_65584 nmX5_isFromTo (by decide)), List.forall_mem_nil _⟩⟩)
theorem ctX5_status (w : WW) : CT w yX5_status MX5_status (csX5_status w).2.1 (csX5_status w).2.2 := by
  refine CT_of (by decide) rfl TX5_status_ok TX5_status_v (KX5_status_ok w) (fun as u h => ?_)
  obtain ⟨a0, a1, rfl, h⟩ := sgRI h
  obtain ⟨rfl, hh⟩ := h
  refine ⟨Nat.le_of_ble_eq_true rfl, ?_⟩
  have key := vX5_status w a1 u hh
  exact key
theorem prX5_status (w : WW) : ∀ as u, (csX5_status w).2.1 as u → ∃ a r, as = .ref a :: r ∧ r.length = 1 ∧ okO w a 5 := by
  intro as u h
  obtain ⟨a0, a1, rfl, h⟩ := sgRI h
  exact ⟨_, _, rfl, rfl, okO_x h⟩
theorem lay_len5 (s : Nat) (b n : Int32) (u : MM) : (mX3_layOut s b n u).1 (430 + 2 * s + 1) = if b = 0 then 0 else n := by
  simp [mX3_layOut, zr, uI, upd]
theorem vX5_sheet (w : WW) : VX5_sheet w := by
  intro s b n u h
  by_cases c : isSh s
  · have h4 := isSh_vi c
    have hs : NN s < 4 := vi_lt h4
    simp only [eX5_sheet_0, eX5_sheet_1, eX5_sheet_4, eX5_sheet_7, eX5_sheet_8, eX5_sheet_11, eX5_sheet_12, eX5_sheet_14, eX5_sheet_17, eX5_sheet_18, eX5_sheet_20, eX5_sheet_23, eX5_sheet_24, eX5_sheet_26, eX5_sheet_29, eX5_sheet_30, eX5_sheet_31, eX5_sheet_34, eX5_sheet_35, eX5_sheet_36, eX5_sheet_39, eX5_sheet_40, eX5_sheet_42, eX5_sheet_45, eX5_sheet_46, eX5_sheet_47, eX5_sheet_49, eX5_sheet_52, eX5_sheet_53, eX5_sheet_54, eX5_sheet_57, eX5_sheet_58, eX5_sheet_59, eX5_sheet_62, eX5_sheet_63, eX5_sheet_64, eX5_sheet_65, eX5_sheet_66, eX5_sheet_69, eX5_sheet_70, eX5_sheet_73, eX5_sheet_74, eX5_sheet_75, eX5_sheet_78, kl_i, kl_r, kl_n, kl_l, true_and, and_true, true_implies, false_implies, not_true_eq_false, not_false_eq_true, i10, Classical.not_not, ok_x0, rfP, ok_x1, rfT, ok_x2, rfK, ok_x3, ix_x3, ok_x4, rf_x4, ok_x5, rf_x5, ok_x6, rf_x6, as_fdd, ai_fdd, xa_fdd, rd_fdd, pX5_finding, mX5_finding, rfx0, rfx1, rfx2, rfx3, rfx4, rfx5, rfx6, N_0, N_1, N_2, N_3, N_4, N_5, N_6, v7_0, v7_1, v7_2, v7_3, v7_4, v7_5, v7_6, pX5_isSheet, rX5_isSheet, bi_t c, ar_sh, rf_sh, h4, ok_st0 w hs, rf_st0 w hs, ok_st1 w hs, ix_st1 w hs, ok_st2 w hs, ix_st2 w hs, aj_sn w hs, xj_sn w hs, tOk_st w hs, tq_stA, pX3_layOut, lay_len5, rX5_sheet, mX5_sheet, Option.some.injEq, Value.int.injEq]
    have tl : (b = 0 ∨ b = 8 ∨ b = 16 ∨ b = 64) → (0 ≤ n → (n ≤ 40 → (if b = 0 then 0 else n) = nf (shNo s b n) (if b = 0 then 0 else n) ∧ mX3_layOut (NN s) b n u = nfX (shNo s b n) u (mX3_layOut (NN s) b n u)) ∧ (¬ n ≤ 40 → -1000000001 = nf (shNo s b n) (if b = 0 then 0 else n) ∧ fndX 0 u = nfX (shNo s b n) u (mX3_layOut (NN s) b n u))) ∧ (¬ 0 ≤ n → -1000000007 = nf (shNo s b n) (if b = 0 then 0 else n) ∧ fndX 6 u = nfX (shNo s b n) u (mX3_layOut (NN s) b n u)) := by
      intro hb
      refine ⟨fun d => ⟨fun e => nfqn ?_, fun e => nfq0 ?_⟩, fun d => nfq6 ?_⟩
      · rw [shNo, if_neg (fun z => z ⟨c, hb⟩), if_neg (Int32.not_lt.mpr d), if_neg (Int32.not_lt.mpr e)]
      · rw [shNo, if_neg (fun z => z ⟨c, hb⟩), if_neg (Int32.not_lt.mpr d), if_pos (Int32.not_le.mp e)]
      · rw [shNo, if_neg (fun z => z ⟨c, hb⟩), if_pos (Int32.not_le.mp d)]
    refine ⟨fun e => tl (Or.inl e), fun n0 => ⟨fun e => tl (Or.inr (Or.inl e)), fun n1 => ⟨fun e => tl (Or.inr (Or.inr (Or.inl e))), fun n2 => ⟨fun e => tl (Or.inr (Or.inr (Or.inr e))), fun n3 => nfq0 ?_⟩⟩⟩⟩
    rw [shNo, if_pos (fun z => z.2.elim n0 (fun y => y.elim n1 (fun x => x.elim n2 n3)))]
  · simp only [eX5_sheet_0, eX5_sheet_1, eX5_sheet_4, eX5_sheet_7, eX5_sheet_8, eX5_sheet_11, eX5_sheet_12, eX5_sheet_14, eX5_sheet_17, eX5_sheet_18, eX5_sheet_20, eX5_sheet_23, eX5_sheet_24, eX5_sheet_26, eX5_sheet_29, eX5_sheet_30, eX5_sheet_31, eX5_sheet_34, eX5_sheet_35, eX5_sheet_36, eX5_sheet_39, eX5_sheet_40, eX5_sheet_42, eX5_sheet_45, eX5_sheet_46, eX5_sheet_47, eX5_sheet_49, eX5_sheet_52, eX5_sheet_53, eX5_sheet_54, eX5_sheet_57, eX5_sheet_58, eX5_sheet_59, eX5_sheet_62, eX5_sheet_63, eX5_sheet_64, eX5_sheet_65, eX5_sheet_66, eX5_sheet_69, eX5_sheet_70, eX5_sheet_73, eX5_sheet_74, eX5_sheet_75, eX5_sheet_78, kl_i, kl_r, kl_n, kl_l, true_and, and_true, true_implies, false_implies, not_true_eq_false, not_false_eq_true, i10, Classical.not_not, ok_x0, rfP, ok_x1, rfT, ok_x2, rfK, ok_x3, ix_x3, ok_x4, rf_x4, ok_x5, rf_x5, ok_x6, rf_x6, as_fdd, ai_fdd, xa_fdd, rd_fdd, pX5_finding, mX5_finding, rfx0, rfx1, rfx2, rfx3, rfx4, rfx5, rfx6, N_0, N_1, N_2, N_3, N_4, N_5, N_6, v7_0, v7_1, v7_2, v7_3, v7_4, v7_5, v7_6, pX5_isSheet, rX5_isSheet, bi_f c, rX5_sheet, mX5_sheet, Option.some.injEq, Value.int.injEq]
    exact nfq0 (by rw [shNo, if_pos (fun z => c z.1)])
theorem wcX5_230 : ∀ x ∈ wV1 RX5 230 yX3_layOut MX3_layOut, x ∈ Gt := by decide +kernel
theorem nmX3_layOut : nmOk yX3_layOut 2 = true := by decide +kernel
theorem wcX5_65763 : ∀ x ∈ wS1 RX5 227 yX5_isSheet MX5_isSheet, x ∈ Gt := by decide +kernel
theorem nmX5_isSheet : nmOk yX5_isSheet 1 = true := by decide +kernel
set_option maxRecDepth 20000 in
theorem KX5_sheet_ok (w : WW) : KOk w MX5_sheet (KX5_sheet w) := KOk_mk flX5_ok ciX5_ok clX5_ok (fun _ _ h => by cases h) (fun _ _ h => by cases h) (List.forall_mem_cons.mpr ⟨itV (n := 52) (by decide) (COk_V (n := 1) (ci := 5) (ctX5_finding w) wcX5_52 nmX5_finding (by decide) (by decide) rfl (prX5_finding w)), List.forall_mem_cons.mpr ⟨itV (n := 230) (by decide) (COk_V (n := 2) (ci := 3) (ctX3_layOut w) wcX5_230 nmX3_layOut (by decide) (by decide) rfl (prX3_layOut w)), List.forall_mem_cons.mpr ⟨itS (n := 227) (COk_S (n := 1) (ctX5_isSheet w) wcX5_65763 nmX5_isSheet (by decide)), List.forall_mem_nil _⟩⟩⟩)
theorem ctX5_sheet (w : WW) : CT w yX5_sheet MX5_sheet (csX5_sheet w).2.1 (csX5_sheet w).2.2 := by
  refine CT_of (by decide) rfl TX5_sheet_ok TX5_sheet_v (KX5_sheet_ok w) (fun as u h => ?_)
  obtain ⟨a0, a1, a2, a3, rfl, h⟩ := sgRIII h
  obtain ⟨rfl, hh⟩ := h
  refine ⟨Nat.le_of_ble_eq_true rfl, ?_⟩
  have key := vX5_sheet w a1 a2 a3 u hh
  exact key
theorem prX5_sheet (w : WW) : ∀ as u, (csX5_sheet w).2.1 as u → ∃ a r, as = .ref a :: r ∧ r.length = 3 ∧ okO w a 5 := by
  intro as u h
  obtain ⟨a0, a1, a2, a3, rfl, h⟩ := sgRIII h
  exact ⟨_, _, rfl, rfl, okO_x h⟩
theorem nfj {o : Option Nat} {k : Nat} {z : Int32} {a : Int64} {u v : MM} (hz : (-1000000001 : Int32) - nI k = z) (h : o = some k) : z.toInt64 = nfJ o a ∧ fndX k u = nfX o u v := by subst h; rw [← hz]; exact ⟨rfl, rfl⟩
theorem nfjn {o : Option Nat} {a : Int64} {u v : MM} (h : o = none) : a = nfJ o a ∧ v = nfX o u v := by subst h; exact ⟨rfl, rfl⟩
theorem vX5_write (w : WW) : VX5_write w := by
  intro s i v u h
  by_cases c : isSh s
  · have h4 := isSh_vi c
    have hs : NN s < 4 := vi_lt h4
    obtain ⟨m, hm, em⟩ := h (NN s) hs
    simp only [eX5_write_0, eX5_write_1, eX5_write_4, eX5_write_7, eX5_write_8, eX5_write_9, eX5_write_12, eX5_write_13, eX5_write_14, eX5_write_15, eX5_write_18, eX5_write_19, eX5_write_20, eX5_write_23, eX5_write_26, eX5_write_27, eX5_write_28, eX5_write_31, eX5_write_32, eX5_write_33, eX5_write_34, eX5_write_35, eX5_write_36, eX5_write_39, eX5_write_40, eX5_write_41, eX5_write_44, eX5_write_45, eX5_write_46, eX5_write_49, eX5_write_52, eX5_write_53, eX5_write_54, eX5_write_57, eX5_write_58, eX5_write_59, eX5_write_60, eX5_write_63, eX5_write_64, eX5_write_65, eX5_write_68, eX5_write_69, eX5_write_70, eX5_write_72, eX5_write_73, eX5_write_76, eX5_write_77, eX5_write_78, eX5_write_79, eX5_write_80, eX5_write_83, eX5_write_85, kl_i, kl_r, kl_n, kl_l, true_and, and_true, true_implies, false_implies, not_true_eq_false, not_false_eq_true, i10, Classical.not_not, ok_x0, rfP, ok_x1, rfT, ok_x2, rfK, ok_x3, ix_x3, ok_x4, rf_x4, ok_x5, rf_x5, ok_x6, rf_x6, as_fdd, ai_fdd, xa_fdd, rd_fdd, pX5_finding, mX5_finding, rfx0, rfx1, rfx2, rfx3, rfx4, rfx5, rfx6, N_0, N_1, N_2, N_3, N_4, N_5, N_6, v7_0, v7_1, v7_2, v7_3, v7_4, v7_5, v7_6, pX5_isSheet, rX5_isSheet, bi_t c, bi_0, ar_sh, rf_sh, h4, ok_st0 w hs, rf_st0 w hs, ok_st1 w hs, ix_st1 w hs, ok_st2 w hs, ix_st2 w hs, aj_sn w hs, xj_sn w hs, tOk_st w hs, tq_stA, pX3_isMissing, rX3_isMissing, pX5_isFromTo, rX5_isFromTo, pX3_put, rX5_write, mX5_write, Option.some.injEq, Value.long.injEq]
    refine ⟨fun d => ⟨fun e => ?_, fun e => nfj fk0 ?_⟩, fun d => nfj fk5 ?_⟩
    · have hv : vp_in i 40 := by
        rw [em] at e
        obtain ⟨j, hj, rfl⟩ := le_pred (by omega) e.1 e.2
        exact vi_nI (by omega)
      exact ⟨hv, hv, nfjn (by rw [wrNo, if_neg (fun z => z c), if_neg d, if_neg (fun z => z e)])⟩
    · rw [wrNo, if_neg (fun z => z c), if_neg d, if_pos e]
    · rw [wrNo, if_neg (fun z => z c), if_pos d]
  · simp only [eX5_write_0, eX5_write_1, eX5_write_4, eX5_write_7, eX5_write_8, eX5_write_9, eX5_write_12, eX5_write_13, eX5_write_14, eX5_write_15, eX5_write_18, eX5_write_19, eX5_write_20, eX5_write_23, eX5_write_26, eX5_write_27, eX5_write_28, eX5_write_31, eX5_write_32, eX5_write_33, eX5_write_34, eX5_write_35, eX5_write_36, eX5_write_39, eX5_write_40, eX5_write_41, eX5_write_44, eX5_write_45, eX5_write_46, eX5_write_49, eX5_write_52, eX5_write_53, eX5_write_54, eX5_write_57, eX5_write_58, eX5_write_59, eX5_write_60, eX5_write_63, eX5_write_64, eX5_write_65, eX5_write_68, eX5_write_69, eX5_write_70, eX5_write_72, eX5_write_73, eX5_write_76, eX5_write_77, eX5_write_78, eX5_write_79, eX5_write_80, eX5_write_83, eX5_write_85, kl_i, kl_r, kl_n, kl_l, true_and, and_true, true_implies, false_implies, not_true_eq_false, not_false_eq_true, i10, Classical.not_not, ok_x0, rfP, ok_x1, rfT, ok_x2, rfK, ok_x3, ix_x3, ok_x4, rf_x4, ok_x5, rf_x5, ok_x6, rf_x6, as_fdd, ai_fdd, xa_fdd, rd_fdd, pX5_finding, mX5_finding, rfx0, rfx1, rfx2, rfx3, rfx4, rfx5, rfx6, N_0, N_1, N_2, N_3, N_4, N_5, N_6, v7_0, v7_1, v7_2, v7_3, v7_4, v7_5, v7_6, pX5_isSheet, rX5_isSheet, bi_f c, rX5_write, mX5_write, Option.some.injEq, Value.long.injEq]
    exact nfj fk0 (by rw [wrNo, if_pos c])
theorem wcX5_235 : ∀ x ∈ wV1 RX5 235 yX3_isMissing MX3_isMissing, x ∈ Gt := by decide +kernel
theorem nmX3_isMissing : nmOk yX3_isMissing 0 = true := by decide +kernel
theorem wcX5_242 : ∀ x ∈ wV1 RX5 242 yX3_put MX3_put, x ∈ Gt := by decide +kernel
theorem nmX3_put : nmOk yX3_put 2 = true := by decide +kernel
set_option maxRecDepth 20000 in
theorem KX5_write_ok (w : WW) : KOk w MX5_write (KX5_write w) := KOk_mk flX5_ok ciX5_ok clX5_ok (fun _ _ h => by cases h) (fun _ _ h => by cases h) (List.forall_mem_cons.mpr ⟨itV (n := 52) (by decide) (COk_V (n := 1) (ci := 5) (ctX5_finding w) wcX5_52 nmX5_finding (by decide) (by decide) rfl (prX5_finding w)), List.forall_mem_cons.mpr ⟨itV (n := 235) (by decide) (COk_V (n := 0) (ci := 3) (ctX3_isMissing w) wcX5_235 nmX3_isMissing (by decide) (by decide) rfl (prX3_isMissing w)), List.forall_mem_cons.mpr ⟨itV (n := 242) (by decide) (COk_V (n := 2) (ci := 3) (ctX3_put w) wcX5_242 nmX3_put (by decide) (by decide) rfl (prX3_put w)), List.forall_mem_cons.mpr ⟨itS (n := 48) (COk_S (n := 3) (ctX5_isFromTo w) wcX5_65584 nmX5_isFromTo (by decide)), List.forall_mem_cons.mpr ⟨itS (n := 227) (COk_S (n := 1) (ctX5_isSheet w) wcX5_65763 nmX5_isSheet (by decide)), List.forall_mem_nil _⟩⟩⟩⟩⟩)
theorem ctX5_write (w : WW) : CT w yX5_write MX5_write (csX5_write w).2.1 (csX5_write w).2.2 := by
  refine CT_of (by decide) rfl TX5_write_ok TX5_write_v (KX5_write_ok w) (fun as u h => ?_)
  obtain ⟨a0, a1, a2, a3, rfl, h⟩ := sgRIIJ h
  obtain ⟨rfl, hh⟩ := h
  refine ⟨Nat.le_of_ble_eq_true rfl, ?_⟩
  have key := vX5_write w a1 a2 a3 u hh
  exact key
theorem prX5_write (w : WW) : ∀ as u, (csX5_write w).2.1 as u → ∃ a r, as = .ref a :: r ∧ r.length = 3 ∧ okO w a 5 := by
  intro as u h
  obtain ⟨a0, a1, a2, a3, rfl, h⟩ := sgRIIJ h
  exact ⟨_, _, rfl, rfl, okO_x h⟩
theorem part_iff {z f n : Int32} {m : Nat} (hm : m ≤ 40) (e : z = nI m) : (0 ≤ f ∧ 0 ≤ n ∧ f ≤ z - n) ↔ part z f n := by
  refine ⟨fun ⟨a, b, c⟩ => ⟨a, b, ?_, c⟩, fun ⟨a, b, _, c⟩ => ⟨a, b, c⟩⟩
  subst e
  have h1 := Int32.le_iff_toInt_le.mp a
  have h2 := Int32.le_iff_toInt_le.mp b
  have h3 := Int32.le_iff_toInt_le.mp c
  have z0 : (0 : Int32).toInt = 0 := by decide
  have em : (nI m).toInt = (m : Int) := nI_toInt (by omega)
  have b1 := i32_b n
  have hs : (nI m - n).toInt = (m : Int) - n.toInt := by
    rw [z0] at h2
    rw [Int32.toInt_sub, em, Int.bmod_def]; omega
  rw [z0] at h1
  rw [hs] at h3
  apply Int32.le_iff_toInt_le.mpr
  rw [em]; omega
theorem vX5_copy (w : WW) : VX5_copy w := by
  intro s f t o n u h
  by_cases c1 : isSh s
  · by_cases c2 : isSh t
    · have h4 := isSh_vi c1
      have hs : NN s < 4 := vi_lt h4
      have h4t := isSh_vi c2
      have ht : NN t < 4 := vi_lt h4t
      obtain ⟨m, hm, em⟩ := h (NN s) hs
      obtain ⟨l, hl, el⟩ := h (NN t) ht
      have p1 := part_iff (f := f) (n := n) hm em
      have p2 := part_iff (f := o) (n := n) hl el
      simp only [eX5_copy_0, eX5_copy_1, eX5_copy_4, eX5_copy_7, eX5_copy_8, eX5_copy_11, eX5_copy_14, eX5_copy_15, eX5_copy_16, eX5_copy_19, eX5_copy_20, eX5_copy_21, eX5_copy_24, eX5_copy_25, eX5_copy_26, eX5_copy_29, eX5_copy_32, eX5_copy_33, eX5_copy_36, eX5_copy_37, eX5_copy_38, eX5_copy_41, eX5_copy_44, eX5_copy_45, eX5_copy_46, eX5_copy_49, eX5_copy_50, eX5_copy_51, eX5_copy_54, eX5_copy_55, eX5_copy_56, eX5_copy_59, eX5_copy_60, eX5_copy_63, eX5_copy_64, eX5_copy_65, eX5_copy_68, eX5_copy_71, eX5_copy_72, eX5_copy_73, eX5_copy_76, eX5_copy_77, eX5_copy_78, eX5_copy_81, eX5_copy_82, eX5_copy_83, eX5_copy_84, eX5_copy_86, eX5_copy_89, eX5_copy_92, eX5_copy_93, eX5_copy_96, eX5_copy_97, eX5_copy_98, eX5_copy_100, eX5_copy_102, eX5_copy_105, eX5_copy_108, eX5_copy_109, eX5_copy_110, eX5_copy_113, eX5_copy_114, eX5_copy_115, eX5_copy_118, eX5_copy_119, eX5_copy_120, eX5_copy_123, eX5_copy_124, eX5_copy_125, eX5_copy_128, eX5_copy_129, eX5_copy_130, eX5_copy_133, eX5_copy_135, eX5_copy_137, eX5_copy_140, eX5_copy_142, kl_i, kl_r, kl_n, kl_l, true_and, and_true, true_implies, false_implies, not_true_eq_false, not_false_eq_true, i10, Classical.not_not, ok_x0, rfP, ok_x1, rfT, ok_x2, rfK, ok_x3, ix_x3, ok_x4, rf_x4, ok_x5, rf_x5, ok_x6, rf_x6, as_fdd, ai_fdd, xa_fdd, rd_fdd, pX5_finding, mX5_finding, rfx0, rfx1, rfx2, rfx3, rfx4, rfx5, rfx6, N_0, N_1, N_2, N_3, N_4, N_5, N_6, v7_0, v7_1, v7_2, v7_3, v7_4, v7_5, v7_6, pX5_isSheet, rX5_isSheet, bi_t c1, bi_t c2, bi_0, ar_sh, rf_sh, h4, h4t, ok_st0 w hs, rf_st0 w hs, ok_st1 w hs, ix_st1 w hs, ok_st2 w hs, ix_st2 w hs, aj_sn w hs, xj_sn w hs, tOk_st w hs, ok_st0 w ht, rf_st0 w ht, ok_st1 w ht, ix_st1 w ht, ok_st2 w ht, ix_st2 w ht, aj_sn w ht, xj_sn w ht, tOk_st w ht, tq_stA, pX3_isMissing, rX3_isMissing, pX3_hasPart, rX3_hasPart, p1, p2, pArr, mArr, sq_snA, rX5_copy, mX5_copy, Option.some.injEq, Value.int.injEq]
      refine ⟨fun d1 => nfq5 ?_, fun d1 => ⟨fun d2 => ⟨fun d3 => ⟨fun d4 => nfq0 ?_, fun d4 => ⟨fun d5 => ⟨?_, nfqn ?_⟩, fun d5 => nfq0 ?_⟩⟩, fun d3 => nfq2 ?_⟩, fun d2 => nfq5 ?_⟩⟩
      · rw [cpX, cpNo, if_neg (fun z => z ⟨c1, c2⟩), if_pos (Or.inl d1)]
      · rw [cpX, cpNo, if_neg (fun z => z ⟨c1, c2⟩), if_neg (fun z => z.elim d1 d2), if_neg (fun z => z d3), if_pos (fun z => d4 z.1)]
      · obtain ⟨a, b, rfl, rfl, hab⟩ := part_N hm em d4
        obtain ⟨a', b', rfl, eb, hab'⟩ := part_N hl el d5
        have hb0 : nI b = nI b' := eb
        have : b = b' := (nI_eq (by omega) (by omega)).mp hb0
        subst this
        rw [NN_nI (by omega), NN_nI (by omega), NN_nI (by omega)]
        exact ⟨⟨NN s, hs, rfl⟩, ⟨NN t, ht, rfl⟩, nI_pos (by omega), nI_pos (by omega), nI_pos (by omega), by omega, by omega⟩
      · rw [cpX, cpNo, if_neg (fun z => z ⟨c1, c2⟩), if_neg (fun z => z.elim d1 d2), if_neg (fun z => z d3), if_neg (fun z => z ⟨d4, d5⟩)]
      · rw [cpX, cpNo, if_neg (fun z => z ⟨c1, c2⟩), if_neg (fun z => z.elim d1 d2), if_neg (fun z => z d3), if_pos (fun z => d5 z.2)]
      · rw [cpX, cpNo, if_neg (fun z => z ⟨c1, c2⟩), if_neg (fun z => z.elim d1 d2), if_pos d3]
      · rw [cpX, cpNo, if_neg (fun z => z ⟨c1, c2⟩), if_pos (Or.inr d2)]
    · simp only [eX5_copy_0, eX5_copy_1, eX5_copy_4, eX5_copy_7, eX5_copy_8, eX5_copy_11, eX5_copy_14, eX5_copy_15, eX5_copy_16, eX5_copy_19, eX5_copy_20, eX5_copy_21, eX5_copy_24, eX5_copy_25, eX5_copy_26, eX5_copy_29, eX5_copy_32, eX5_copy_33, eX5_copy_36, eX5_copy_37, eX5_copy_38, eX5_copy_41, eX5_copy_44, eX5_copy_45, eX5_copy_46, eX5_copy_49, eX5_copy_50, eX5_copy_51, eX5_copy_54, eX5_copy_55, eX5_copy_56, eX5_copy_59, eX5_copy_60, eX5_copy_63, eX5_copy_64, eX5_copy_65, eX5_copy_68, eX5_copy_71, eX5_copy_72, eX5_copy_73, eX5_copy_76, eX5_copy_77, eX5_copy_78, eX5_copy_81, eX5_copy_82, eX5_copy_83, eX5_copy_84, eX5_copy_86, eX5_copy_89, eX5_copy_92, eX5_copy_93, eX5_copy_96, eX5_copy_97, eX5_copy_98, eX5_copy_100, eX5_copy_102, eX5_copy_105, eX5_copy_108, eX5_copy_109, eX5_copy_110, eX5_copy_113, eX5_copy_114, eX5_copy_115, eX5_copy_118, eX5_copy_119, eX5_copy_120, eX5_copy_123, eX5_copy_124, eX5_copy_125, eX5_copy_128, eX5_copy_129, eX5_copy_130, eX5_copy_133, eX5_copy_135, eX5_copy_137, eX5_copy_140, eX5_copy_142, kl_i, kl_r, kl_n, kl_l, true_and, and_true, true_implies, false_implies, not_true_eq_false, not_false_eq_true, i10, Classical.not_not, ok_x0, rfP, ok_x1, rfT, ok_x2, rfK, ok_x3, ix_x3, ok_x4, rf_x4, ok_x5, rf_x5, ok_x6, rf_x6, as_fdd, ai_fdd, xa_fdd, rd_fdd, pX5_finding, mX5_finding, rfx0, rfx1, rfx2, rfx3, rfx4, rfx5, rfx6, N_0, N_1, N_2, N_3, N_4, N_5, N_6, v7_0, v7_1, v7_2, v7_3, v7_4, v7_5, v7_6, pX5_isSheet, rX5_isSheet, bi_t c1, bi_f c2, rX5_copy, mX5_copy, Option.some.injEq, Value.int.injEq]
      exact nfq0 (by rw [cpX, cpNo, if_pos (fun z => c2 z.2)])
  · simp only [eX5_copy_0, eX5_copy_1, eX5_copy_4, eX5_copy_7, eX5_copy_8, eX5_copy_11, eX5_copy_14, eX5_copy_15, eX5_copy_16, eX5_copy_19, eX5_copy_20, eX5_copy_21, eX5_copy_24, eX5_copy_25, eX5_copy_26, eX5_copy_29, eX5_copy_32, eX5_copy_33, eX5_copy_36, eX5_copy_37, eX5_copy_38, eX5_copy_41, eX5_copy_44, eX5_copy_45, eX5_copy_46, eX5_copy_49, eX5_copy_50, eX5_copy_51, eX5_copy_54, eX5_copy_55, eX5_copy_56, eX5_copy_59, eX5_copy_60, eX5_copy_63, eX5_copy_64, eX5_copy_65, eX5_copy_68, eX5_copy_71, eX5_copy_72, eX5_copy_73, eX5_copy_76, eX5_copy_77, eX5_copy_78, eX5_copy_81, eX5_copy_82, eX5_copy_83, eX5_copy_84, eX5_copy_86, eX5_copy_89, eX5_copy_92, eX5_copy_93, eX5_copy_96, eX5_copy_97, eX5_copy_98, eX5_copy_100, eX5_copy_102, eX5_copy_105, eX5_copy_108, eX5_copy_109, eX5_copy_110, eX5_copy_113, eX5_copy_114, eX5_copy_115, eX5_copy_118, eX5_copy_119, eX5_copy_120, eX5_copy_123, eX5_copy_124, eX5_copy_125, eX5_copy_128, eX5_copy_129, eX5_copy_130, eX5_copy_133, eX5_copy_135, eX5_copy_137, eX5_copy_140, eX5_copy_142, kl_i, kl_r, kl_n, kl_l, true_and, and_true, true_implies, false_implies, not_true_eq_false, not_false_eq_true, i10, Classical.not_not, ok_x0, rfP, ok_x1, rfT, ok_x2, rfK, ok_x3, ix_x3, ok_x4, rf_x4, ok_x5, rf_x5, ok_x6, rf_x6, as_fdd, ai_fdd, xa_fdd, rd_fdd, pX5_finding, mX5_finding, rfx0, rfx1, rfx2, rfx3, rfx4, rfx5, rfx6, N_0, N_1, N_2, N_3, N_4, N_5, N_6, v7_0, v7_1, v7_2, v7_3, v7_4, v7_5, v7_6, pX5_isSheet, rX5_isSheet, bi_f c1, rX5_copy, mX5_copy, Option.some.injEq, Value.int.injEq]
    exact nfq0 (by rw [cpX, cpNo, if_pos (fun z => c1 z.1)])
theorem wcX5_249 : ∀ x ∈ wV1 RX5 249 yX3_hasPart MX3_hasPart, x ∈ Gt := by decide +kernel
theorem nmX3_hasPart : nmOk yX3_hasPart 2 = true := by decide +kernel
set_option maxRecDepth 20000 in
theorem KX5_copy_ok (w : WW) : KOk w MX5_copy (KX5_copy w) := KOk_mk flX5_ok ciX5_ok clX5_ok (fun _ _ h => by cases h) (fun _ _ h => by cases h) (List.forall_mem_cons.mpr ⟨itV (n := 52) (by decide) (COk_V (n := 1) (ci := 5) (ctX5_finding w) wcX5_52 nmX5_finding (by decide) (by decide) rfl (prX5_finding w)), List.forall_mem_cons.mpr ⟨itV (n := 235) (by decide) (COk_V (n := 0) (ci := 3) (ctX3_isMissing w) wcX5_235 nmX3_isMissing (by decide) (by decide) rfl (prX3_isMissing w)), List.forall_mem_cons.mpr ⟨itV (n := 249) (by decide) (COk_V (n := 2) (ci := 3) (ctX3_hasPart w) wcX5_249 nmX3_hasPart (by decide) (by decide) rfl (prX3_hasPart w)), List.forall_mem_cons.mpr ⟨itS (n := 227) (COk_S (n := 1) (ctX5_isSheet w) wcX5_65763 nmX5_isSheet (by decide)), List.forall_mem_cons.mpr ⟨itS (n := 253) (arr_ok w MX5_copy 253 (by decide +kernel) (by decide +kernel)), List.forall_mem_nil _⟩⟩⟩⟩⟩)
theorem ctX5_copy (w : WW) : CT w yX5_copy MX5_copy (csX5_copy w).2.1 (csX5_copy w).2.2 := by
  refine CT_of (by decide) rfl TX5_copy_ok TX5_copy_v (KX5_copy_ok w) (fun as u h => ?_)
  obtain ⟨a0, a1, a2, a3, a4, a5, rfl, h⟩ := sgRIIIII h
  obtain ⟨rfl, hh⟩ := h
  refine ⟨Nat.le_of_ble_eq_true rfl, ?_⟩
  have key := vX5_copy w a1 a2 a3 a4 a5 u hh
  exact key
theorem prX5_copy (w : WW) : ∀ as u, (csX5_copy w).2.1 as u → ∃ a r, as = .ref a :: r ∧ r.length = 5 ∧ okO w a 5 := by
  intro as u h
  obtain ⟨a0, a1, a2, a3, a4, a5, rfl, h⟩ := sgRIIIII h
  exact ⟨_, _, rfl, rfl, okO_x h⟩
