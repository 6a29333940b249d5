/-! ===== the reference's sheets, counts, walked ===== -/
theorem vX6_status (w : WW) : VX6_status w := by
  intro k u h
  simp only [eX6_status_0, eX6_status_1, eX6_status_2, eX6_status_4, eX6_status_7, eX6_status_10, eX6_status_11, eX6_status_13, eX6_status_16, eX6_status_17, eX6_status_18, eX6_status_19, eX6_status_20, eX6_status_22, eX6_status_24, eX6_status_27, eX6_status_28, eX6_status_29, eX6_status_32, eX6_status_33, eX6_status_34, eX6_status_35, eX6_status_36, eX6_status_39, eX6_status_42, eX6_status_43, eX6_status_46, eX6_status_47, eX6_status_50, eX6_status_51, eX6_status_54, eX6_status_55, eX6_status_58, eX6_status_59, eX6_status_62, eX6_status_63, eX6_status_64, kl_i, kl_r, kl_n, kl_l, true_and, and_true, true_implies, false_implies, not_true_eq_false, not_false_eq_true, i10, Classical.not_not, pX6_in, rX6_in, bi_0, pf0, pf1, pf2, pf3, pf4, pf5, pf6, mf0, mf1, mf2, mf3, mf4, mf5, mf6, rX6_finds, rX6_status, mX6_status, Option.some.injEq, Value.int.injEq]
  refine ⟨fun c => ?_, fun c => by rw [if_pos c, if_pos c]; exact ⟨rfl, rfl⟩⟩
  have e1 : (if ¬ isWh k then -1000000001 else if k < 0 then fsum (vw u 1300) 7 else u.1 (1300 + NN k)) = if k < 0 then fsum (vw u 1300) 7 else u.1 (1300 + NN k) := if_neg (fun z => z c)
  have e2 : (if ¬ isWh k then fnd6 0 u else u) = u := if_neg (fun z => z c)
  rw [e1, e2]
  have key : ∀ (m i : Nat), i + m = 7 → GX6_status w (fun r u' => r = some (.int (if k < 0 then fsum (vw u 1300) 7 else u.1 (1300 + NN k))) ∧ u' = u) 21 [some (.ref (mA w)), some (.int k), some (.int (fsum (vw u 1300) i)), some (.int (nI i))] [] u := by
    intro m
    induction m with
    | zero =>
      intro i hi
      have e3 : i = 7 := by omega
      subst e3
      have hle : (7 : Int32) ≤ nI 7 := by decide
      rw [eX6_status_21]
      simp only [eX6_status_0, eX6_status_1, eX6_status_2, eX6_status_4, eX6_status_7, eX6_status_10, eX6_status_11, eX6_status_13, eX6_status_16, eX6_status_17, eX6_status_18, eX6_status_19, eX6_status_20, eX6_status_22, eX6_status_24, eX6_status_27, eX6_status_28, eX6_status_29, eX6_status_32, eX6_status_33, eX6_status_34, eX6_status_35, eX6_status_36, eX6_status_39, eX6_status_42, eX6_status_43, eX6_status_46, eX6_status_47, eX6_status_50, eX6_status_51, eX6_status_54, eX6_status_55, eX6_status_58, eX6_status_59, eX6_status_62, eX6_status_63, eX6_status_64, kl_i, kl_r, kl_n, kl_l, true_and, and_true, true_implies, false_implies, not_true_eq_false, not_false_eq_true, i10, Classical.not_not, hle, ok_m2, rf_m2, ai_mr1, rd_mr1, Option.some.injEq, Value.int.injEq]
      refine ⟨fun a => ⟨fun _ => ⟨?_, (if_neg (Int32.not_lt.mpr a)).symm⟩, fun z => absurd a z⟩, fun a => (if_pos (Int32.not_le.mp a)).symm⟩
      obtain ⟨j, hj, rfl⟩ := nI_of2 (M := 6) (n := 6) rfl (Int32.not_lt.mpr a) c.2
      exact vi_nI (by omega)
    | succ m ih =>
      intro i hi
      have hlt : ¬ (7 : Int32) ≤ nI i := nI_ge (a := i) (b := 7) (by omega) (by decide)
      have hv : vp_in (nI i) 7 := vi_nI (by omega)
      have hN : NN (nI i) = i := NN_nI (by omega)
      rw [eX6_status_21]
      simp only [eX6_status_0, eX6_status_1, eX6_status_2, eX6_status_4, eX6_status_7, eX6_status_10, eX6_status_11, eX6_status_13, eX6_status_16, eX6_status_17, eX6_status_18, eX6_status_19, eX6_status_20, eX6_status_22, eX6_status_24, eX6_status_27, eX6_status_28, eX6_status_29, eX6_status_32, eX6_status_33, eX6_status_34, eX6_status_35, eX6_status_36, eX6_status_39, eX6_status_42, eX6_status_43, eX6_status_46, eX6_status_47, eX6_status_50, eX6_status_51, eX6_status_54, eX6_status_55, eX6_status_58, eX6_status_59, eX6_status_62, eX6_status_63, eX6_status_64, kl_i, kl_r, kl_n, kl_l, true_and, and_true, true_implies, false_implies, not_true_eq_false, not_false_eq_true, i10, Classical.not_not, hlt, ok_m2, rf_m2, ai_mr1, rd_mr1, hv, hN]
      rw [nI_1]
      exact ih (i + 1) (by omega)
  exact key 7 0 (by omega)
set_option maxRecDepth 20000 in
theorem KX6_status_ok (w : WW) : KOk w MX6_status (KX6_status w) := KOk_mk flX6_ok ciX6_ok clX6_ok (fun _ _ h => by cases h) (fun _ _ h => by cases h) (List.forall_mem_cons.mpr ⟨itV (n := 87) (by decide) (COk_V (n := 1) (ci := 6) (ctX6_finds w) wcX6_87 nmX6_finds (by decide) (by decide) rfl (prX6_finds w)), List.forall_mem_cons.mpr ⟨itS (n := 50) (COk_S (n := 3) (ctX6_in w) wcX6_65586 nmX6_in (by decide)), List.forall_mem_nil _⟩⟩)
theorem ctX6_status (w : WW) : CT w yX6_status MX6_status (csX6_status w).2.1 (csX6_status w).2.2 := by
  refine CT_of (by decide) rfl TX6_status_ok TX6_status_v (KX6_status_ok w) (fun as u h => ?_)
  obtain ⟨a0, a1, rfl, h⟩ := sgRI h
  obtain ⟨rfl, hh⟩ := h
  refine ⟨Nat.le_of_ble_eq_true rfl, ?_⟩
  have key := vX6_status w a1 u hh
  exact key
theorem prX6_status (w : WW) : ∀ as u, (csX6_status w).2.1 as u → ∃ a r, as = .ref a :: r ∧ r.length = 1 ∧ okO w a 6 := by
  intro as u h
  obtain ⟨a0, a1, rfl, h⟩ := sgRI h
  exact ⟨_, _, rfl, rfl, okO_m h⟩
theorem vX6_count (w : WW) : VX6_count w := by
  intro k u h
  have h0 := h.1
  have ha : atOk u := Or.inl h0
  obtain ⟨K, hK, eK, eN⟩ := i6K h
  have e2 : u.1 (1100 + 2) = R6 u 2 := rfl
  have e1 : u.1 (1100 + 1) = R6 u 1 := rfl
  simp only [eX6_count_0, eX6_count_1, eX6_count_2, eX6_count_3, eX6_count_32, eX6_count_33, eX6_count_36, eX6_count_37, eX6_count_38, eX6_count_39, eX6_count_40, eX6_count_43, eX6_count_44, eX6_count_45, eX6_count_46, eX6_count_47, eX6_count_50, eX6_count_51, eX6_count_52, eX6_count_54, eX6_count_55, eX6_count_58, eX6_count_59, eX6_count_60, eX6_count_63, eX6_count_64, eX6_count_65, eX6_count_66, eX6_count_69, eX6_count_72, eX6_count_73, eX6_count_76, eX6_count_77, eX6_count_78, eX6_count_79, eX6_count_80, eX6_count_81, eX6_count_84, eX6_count_87, eX6_count_88, eX6_count_89, eX6_count_90, eX6_count_92, eX6_count_95, kl_i, kl_r, kl_n, kl_l, true_and, and_true, true_implies, false_implies, not_true_eq_false, not_false_eq_true, i10, Classical.not_not, pf0, pf1, pf2, pf3, pf4, pf5, pf6, mf0, mf1, mf2, mf3, mf4, mf5, mf6, rX6_finds, rX6_count, mX6_count, Option.some.injEq, Value.int.injEq, ok_m0, rf_m0, ai_mr0, rd_mr0, v182_1, v182_2, N_1, N_2, ok_m5, ix_m5, e1, e2]
  refine ⟨fun c => lfq (by rw [oCount, if_pos c]), fun c => ⟨fun d => lfq (by rw [oCount, if_neg c, if_pos d]), fun d => ⟨fun f => lfq (by rw [oCount, if_neg c, if_neg d, if_pos f]), fun f => ⟨fun g => ?_, fun g => lf0 (by rw [oCount, if_neg c, if_neg d, if_neg f, if_neg g])⟩⟩⟩⟩
  have eo : oCount (R6 u) (u.1 1001) k = .inr (sitSet (R6 u) K, R6 u) := by rw [oCount, if_neg c, if_neg d, if_neg f, if_pos g, eN]
  rw [eo, an_r, mo_r, pv6]
  have key : ∀ (n i : Nat), i + n = K → GX6_count w (fun r u' => r = some (.int (sitSet (R6 u) K)) ∧ u' = u) 53 [some (.ref (mA w)), some (.int k), some (.int (sitSet (R6 u) i)), some (.int (nI i))] [] u := by
    intro n
    induction n with
    | zero =>
      intro i hi
      have e3 : i = K := by omega
      subst e3
      have hle : nI i ≤ nI i := Int32.le_refl _
      rw [eX6_count_53]
      simp only [eX6_count_0, eX6_count_1, eX6_count_2, eX6_count_3, eX6_count_32, eX6_count_33, eX6_count_36, eX6_count_37, eX6_count_38, eX6_count_39, eX6_count_40, eX6_count_43, eX6_count_44, eX6_count_45, eX6_count_46, eX6_count_47, eX6_count_50, eX6_count_51, eX6_count_52, eX6_count_54, eX6_count_55, eX6_count_58, eX6_count_59, eX6_count_60, eX6_count_63, eX6_count_64, eX6_count_65, eX6_count_66, eX6_count_69, eX6_count_72, eX6_count_73, eX6_count_76, eX6_count_77, eX6_count_78, eX6_count_79, eX6_count_80, eX6_count_81, eX6_count_84, eX6_count_87, eX6_count_88, eX6_count_89, eX6_count_90, eX6_count_92, eX6_count_95, kl_i, kl_r, kl_n, kl_l, true_and, and_true, true_implies, false_implies, not_true_eq_false, not_false_eq_true, i10, Classical.not_not, ok_m0, rf_m0, ai_mr0, rd_mr0, v182_2, N_2, e2, eK, hle]
    | succ n ih =>
      intro i hi
      have hlt : ¬ nI K ≤ nI i := nI_ge (by omega) (by omega)
      have hv : vp_in (nI i) 10 := vi_nI (by omega)
      have hN : NN (nI i) = i := NN_nI (by omega)
      have go : ∀ x : Int32, x = sitSet (R6 u) (i + 1) → GX6_count w (fun r u' => r = some (.int (sitSet (R6 u) K)) ∧ u' = u) 53 [some (.ref (mA w)), some (.int k), some (.int x), some (.int (nI i + 1))] [] u := fun x hx => by rw [hx, nI_1]; exact ih (i + 1) (by omega)
      rw [eX6_count_53]
      simp only [eX6_count_0, eX6_count_1, eX6_count_2, eX6_count_3, eX6_count_32, eX6_count_33, eX6_count_36, eX6_count_37, eX6_count_38, eX6_count_39, eX6_count_40, eX6_count_43, eX6_count_44, eX6_count_45, eX6_count_46, eX6_count_47, eX6_count_50, eX6_count_51, eX6_count_52, eX6_count_54, eX6_count_55, eX6_count_58, eX6_count_59, eX6_count_60, eX6_count_63, eX6_count_64, eX6_count_65, eX6_count_66, eX6_count_69, eX6_count_72, eX6_count_73, eX6_count_76, eX6_count_77, eX6_count_78, eX6_count_79, eX6_count_80, eX6_count_81, eX6_count_84, eX6_count_87, eX6_count_88, eX6_count_89, eX6_count_90, eX6_count_92, eX6_count_95, kl_i, kl_r, kl_n, kl_l, true_and, and_true, true_implies, false_implies, not_true_eq_false, not_false_eq_true, i10, Classical.not_not, ok_m0, rf_m0, ai_mr0, rd_mr0, v182_2, pOne, mX6_sets, mX6_setsChair, pX6_sets, pX6_setsChair, pX6_chair, pX6_man, pX6_its, RW_pv, pv_pv, B6_pv, atOk_pv, N_0, N_1, N_2, N_3, N_4, N_5, N_6, v7_0, v7_1, v7_2, v7_3, v7_4, v7_5, v7_6, v3_0, v3_1, v3_2, ch0, ch1, ch2, man0, man1, man2, man3, man4, man5, man6, its0, its1, its2, e2, eK, hlt, ha, hv, hN, pX6_stands, rX6_stands, bi_0, RW6 h0]
      refine ⟨fun c => go _ ?_, fun c => go _ ?_⟩
      · rw [sitSet, if_neg c]
      · rw [sitSet, if_pos c]
  exact key K 0 (by omega)
set_option maxRecDepth 20000 in
theorem KX6_count_ok (w : WW) : KOk w MX6_count (KX6_count w) := KOk_mk flX6_ok ciX6_ok clX6_ok (fun _ _ h => by cases h) (fun _ _ h => by cases h) (List.forall_mem_cons.mpr ⟨itV (n := 64) (by decide) (COk_V (n := 1) (ci := 6) (ctX6_stands w) wcX6_64 nmX6_stands (by decide) (by decide) rfl (prX6_stands w)), List.forall_mem_cons.mpr ⟨itV (n := 87) (by decide) (COk_V (n := 1) (ci := 6) (ctX6_finds w) wcX6_87 nmX6_finds (by decide) (by decide) rfl (prX6_finds w)), List.forall_mem_nil _⟩⟩)
theorem ctX6_count (w : WW) : CT w yX6_count MX6_count (csX6_count w).2.1 (csX6_count w).2.2 := by
  refine CT_of (by decide) rfl TX6_count_ok TX6_count_v (KX6_count_ok w) (fun as u h => ?_)
  obtain ⟨a0, a1, rfl, h⟩ := sgRI h
  obtain ⟨rfl, hh⟩ := h
  refine ⟨Nat.le_of_ble_eq_true rfl, ?_⟩
  have key := vX6_count w a1 u hh
  exact key
theorem prX6_count (w : WW) : ∀ as u, (csX6_count w).2.1 as u → ∃ a r, as = .ref a :: r ∧ r.length = 1 ∧ okO w a 6 := by
  intro as u h
  obtain ⟨a0, a1, rfl, h⟩ := sgRI h
  exact ⟨_, _, rfl, rfl, okO_m h⟩
theorem nI_mul (a b : Nat) : nI a * nI b = nI (a * b) := (Int32.ofNat_mul a b).symm
theorem ix40 {s i : Int32} (hs : vp_in s 4) (hi : vp_in i 40) : vp_in (40 * s + i) 160 ∧ NN (40 * s + i) = 40 * NN s + NN i := by
  obtain ⟨a, ha, rfl⟩ := vi_of hs
  obtain ⟨b, hb, rfl⟩ := vi_of hi
  have e : (40 : Int32) * nI a + nI b = nI (40 * a + b) := by rw [show (40 : Int32) * nI a = nI (40 * a) from nI_mul 40 a, nI_add]
  rw [e, NN_nI (by omega), NN_nI (by omega), NN_nI (by omega)]
  exact ⟨vi_nI (by omega), rfl⟩
theorem ix40b {s i k : Int32} (hs : vp_in s 4) {f m : Nat} (ei : i = nI f) (ek : k = nI m) (h : f + m < 40) : vp_in (40 * s + i + k) 160 ∧ NN (40 * s + i + k) = 40 * NN s + f + m := by
  obtain ⟨a, ha, rfl⟩ := vi_of hs
  have e : (40 : Int32) * nI a + i + k = nI (40 * a + f + m) := by rw [ei, ek, show (40 : Int32) * nI a = nI (40 * a) from nI_mul 40 a, nI_add, nI_add]
  rw [e, NN_nI (by omega), NN_nI (by omega)]
  exact ⟨vi_nI (by omega), rfl⟩
theorem isSh_N {s : Int32} (h : isSh s) : NN s < 4 := vi_lt (isSh_vi h)
theorem below {i n : Int32} {m : Nat} (hm : m ≤ 40) (e : n = nI m) (h : 0 ≤ i ∧ i ≤ n - 1) : ∃ j, j < m ∧ i = nI j := le_pred (by omega) h.1 (by rw [← e]; exact h.2)
theorem wr_l {o : Option Nat} {k : Nat} {x : Int32} {a : Int64} {u v : MM} (h : o = some k) (hx : x = -1000000001 - nI k) : x.toInt64 = nfJ o a ∧ fnd6 k u = nfM o u v := by subst h; subst hx; exact ⟨rfl, rfl⟩
theorem wr_n {o : Option Nat} {a : Int64} {u v : MM} (h : o = none) : a = nfJ o a ∧ v = nfM o u v := by subst h; exact ⟨rfl, rfl⟩
theorem vX6_write (w : WW) : VX6_write w := by
  intro s i v u h
  simp only [eX6_write_0, eX6_write_1, eX6_write_4, eX6_write_7, eX6_write_8, eX6_write_10, eX6_write_13, eX6_write_14, eX6_write_15, eX6_write_16, eX6_write_19, eX6_write_20, eX6_write_21, eX6_write_24, eX6_write_25, eX6_write_28, eX6_write_31, eX6_write_32, eX6_write_33, eX6_write_34, eX6_write_35, eX6_write_36, eX6_write_39, eX6_write_40, eX6_write_41, eX6_write_42, eX6_write_43, eX6_write_46, eX6_write_49, eX6_write_50, eX6_write_52, eX6_write_55, eX6_write_56, eX6_write_57, eX6_write_58, eX6_write_61, eX6_write_63, eX6_write_64, eX6_write_65, eX6_write_66, eX6_write_67, eX6_write_68, eX6_write_70, eX6_write_71, eX6_write_74, eX6_write_76, eX6_write_77, eX6_write_78, eX6_write_79, eX6_write_80, eX6_write_81, eX6_write_84, eX6_write_85, eX6_write_86, eX6_write_87, eX6_write_90, eX6_write_91, eX6_write_93, kl_i, kl_r, kl_n, kl_l, true_and, and_true, true_implies, false_implies, not_true_eq_false, not_false_eq_true, i10, Classical.not_not, pX6_isSheet, rX6_isSheet, pX6_in, rX6_in, bi_0, pf0, pf1, pf2, pf3, pf4, pf5, pf6, mf0, mf1, mf2, mf3, mf4, mf5, mf6, rX6_finds, ok_m12, rf_m12, ai_mr4, rd_mr4, ok_m13, rf_m13, ai_mr5, rd_mr5, ok_m14, rf_m14, aj_mr6, xj_mr6, rX6_write, mX6_write, pX6_narrow, rX6_narrow, Option.some.injEq, Value.long.injEq]
  refine ⟨fun c => ⟨isSh_vi c, fun d => ⟨isSh_vi c, fun e => ?_, fun e => wr_l (by rw [wrNo, if_neg (fun z => z c), if_neg d, if_pos e]) fk0.symm⟩, fun d => wr_l (by rw [wrNo, if_neg (fun z => z c), if_pos d]) fk5.symm⟩, fun c => wr_l (by rw [wrNo, if_pos c]) fk0.symm⟩
  obtain ⟨m, hm, em⟩ := h (NN s) (isSh_N c)
  obtain ⟨j, hj, ej⟩ := below hm em e
  obtain ⟨i1, i2⟩ := ix40 (isSh_vi c) (show vp_in i 40 by rw [ej]; exact vi_nI (by omega))
  rw [i2]
  exact ⟨i1, isSh_vi c, i1, wr_n (by rw [wrNo, if_neg (fun z => z c), if_neg d, if_neg (fun z => z e)])⟩
theorem wcX6_65814 : ∀ x ∈ wS1 RX6 278 yX6_isSheet MX6_isSheet, x ∈ Gt := by decide +kernel
theorem nmX6_isSheet : nmOk yX6_isSheet 1 = true := by decide +kernel
theorem wcX6_65819 : ∀ x ∈ wS1 RX6 283 yX6_narrow MX6_narrow, x ∈ Gt := by decide +kernel
theorem nmX6_narrow : nmOk yX6_narrow 2 = true := by decide +kernel
set_option maxRecDepth 20000 in
theorem KX6_write_ok (w : WW) : KOk w MX6_write (KX6_write w) := KOk_mk flX6_ok ciX6_ok clX6_ok (fun _ _ h => by cases h) (fun _ _ h => by cases h) (List.forall_mem_cons.mpr ⟨itV (n := 87) (by decide) (COk_V (n := 1) (ci := 6) (ctX6_finds w) wcX6_87 nmX6_finds (by decide) (by decide) rfl (prX6_finds w)), List.forall_mem_cons.mpr ⟨itS (n := 50) (COk_S (n := 3) (ctX6_in w) wcX6_65586 nmX6_in (by decide)), List.forall_mem_cons.mpr ⟨itS (n := 278) (COk_S (n := 1) (ctX6_isSheet w) wcX6_65814 nmX6_isSheet (by decide)), List.forall_mem_cons.mpr ⟨itS (n := 283) (COk_S (n := 2) (ctX6_narrow w) wcX6_65819 nmX6_narrow (by decide)), List.forall_mem_nil _⟩⟩⟩⟩)
theorem ctX6_write (w : WW) : CT w yX6_write MX6_write (csX6_write w).2.1 (csX6_write w).2.2 := by
  refine CT_of (by decide) rfl TX6_write_ok TX6_write_v (KX6_write_ok w) (fun as u h => ?_)
  obtain ⟨a0, a1, a2, a3, rfl, h⟩ := sgRIIJ h
  obtain ⟨rfl, hh⟩ := h
  refine ⟨Nat.le_of_ble_eq_true rfl, ?_⟩
  have key := vX6_write w a1 a2 a3 u hh
  exact key
theorem prX6_write (w : WW) : ∀ as u, (csX6_write w).2.1 as u → ∃ a r, as = .ref a :: r ∧ r.length = 3 ∧ okO w a 6 := by
  intro as u h
  obtain ⟨a0, a1, a2, a3, rfl, h⟩ := sgRIIJ h
  exact ⟨_, _, rfl, rfl, okO_m h⟩
theorem zr_step (u : MM) (b i : Nat) : uJ (zr u b i) (b + i) 0 = zr u b (i + 1) := by
  apply Prod.ext
  · rfl
  · funext j
    simp only [zr, uJ, vp_updL]
    by_cases q : j = b + i
    · rw [if_pos q, if_pos (by omega)]
    · rw [if_neg q]
      by_cases q2 : b ≤ j ∧ j < b + i
      · rw [if_pos q2, if_pos (by omega)]
      · rw [if_neg q2, if_neg (by omega)]
theorem zr_0 (u : MM) (b : Nat) : zr u b 0 = u := by
  apply Prod.ext
  · rfl
  · funext j; simp only [zr]; rw [if_neg (by omega)]
theorem vX6_sheet (w : WW) : VX6_sheet w := by
  intro s b n u h
  have loop : isSh s → ∀ (x : Int32) (X : MM), X.1 (1444 + NN s) = x → ∀ (m i : Nat), i + m = 40 → GX6_sheet w (fun r u' => r = some (.int x) ∧ u' = zr X (200 + 40 * NN s) 40) 86 [some (.ref (mA w)), some (.int s), some (.int b), some (.int n), some (.int (nI i))] [] (zr X (200 + 40 * NN s) i) := by
    intro c x X hx m
    induction m with
    | zero =>
      intro i hi
      have e3 : i = 40 := by omega
      subst e3
      have hle : (40 : Int32) ≤ nI 40 := by decide
      have e4 : (zr X (200 + 40 * NN s) 40).1 (1444 + NN s) = x := hx
      rw [eX6_sheet_86]
      simp only [eX6_sheet_0, eX6_sheet_1, eX6_sheet_4, eX6_sheet_7, eX6_sheet_8, eX6_sheet_11, eX6_sheet_12, eX6_sheet_14, eX6_sheet_17, eX6_sheet_18, eX6_sheet_20, eX6_sheet_23, eX6_sheet_24, eX6_sheet_26, eX6_sheet_29, eX6_sheet_30, eX6_sheet_32, eX6_sheet_35, eX6_sheet_36, eX6_sheet_37, eX6_sheet_40, eX6_sheet_41, eX6_sheet_44, eX6_sheet_47, eX6_sheet_48, eX6_sheet_49, eX6_sheet_51, eX6_sheet_54, eX6_sheet_55, eX6_sheet_57, eX6_sheet_60, eX6_sheet_61, eX6_sheet_62, eX6_sheet_65, eX6_sheet_66, eX6_sheet_67, eX6_sheet_68, eX6_sheet_69, eX6_sheet_72, eX6_sheet_73, eX6_sheet_74, eX6_sheet_77, eX6_sheet_78, eX6_sheet_81, eX6_sheet_82, eX6_sheet_83, eX6_sheet_84, eX6_sheet_88, eX6_sheet_90, eX6_sheet_93, eX6_sheet_94, eX6_sheet_97, eX6_sheet_99, eX6_sheet_100, eX6_sheet_101, eX6_sheet_103, eX6_sheet_104, eX6_sheet_105, eX6_sheet_106, eX6_sheet_109, eX6_sheet_112, eX6_sheet_113, eX6_sheet_116, eX6_sheet_117, eX6_sheet_118, kl_i, kl_r, kl_n, kl_l, true_and, and_true, true_implies, false_implies, not_true_eq_false, not_false_eq_true, i10, Classical.not_not, hle, ok_m13, rf_m13, ai_mr5, rd_mr5, isSh_vi c, e4]
    | succ m ih =>
      intro i hi
      have hlt : ¬ (40 : Int32) ≤ nI i := nI_ge (a := i) (b := 40) (by omega) (by decide)
      obtain ⟨i1, i2⟩ := ix40 (i := nI i) (isSh_vi c) (vi_nI (by omega))
      rw [NN_nI (by omega)] at i2
      have st := zr_step X (200 + 40 * NN s) i
      rw [Nat.add_assoc] at st
      rw [eX6_sheet_86]
      simp only [eX6_sheet_0, eX6_sheet_1, eX6_sheet_4, eX6_sheet_7, eX6_sheet_8, eX6_sheet_11, eX6_sheet_12, eX6_sheet_14, eX6_sheet_17, eX6_sheet_18, eX6_sheet_20, eX6_sheet_23, eX6_sheet_24, eX6_sheet_26, eX6_sheet_29, eX6_sheet_30, eX6_sheet_32, eX6_sheet_35, eX6_sheet_36, eX6_sheet_37, eX6_sheet_40, eX6_sheet_41, eX6_sheet_44, eX6_sheet_47, eX6_sheet_48, eX6_sheet_49, eX6_sheet_51, eX6_sheet_54, eX6_sheet_55, eX6_sheet_57, eX6_sheet_60, eX6_sheet_61, eX6_sheet_62, eX6_sheet_65, eX6_sheet_66, eX6_sheet_67, eX6_sheet_68, eX6_sheet_69, eX6_sheet_72, eX6_sheet_73, eX6_sheet_74, eX6_sheet_77, eX6_sheet_78, eX6_sheet_81, eX6_sheet_82, eX6_sheet_83, eX6_sheet_84, eX6_sheet_88, eX6_sheet_90, eX6_sheet_93, eX6_sheet_94, eX6_sheet_97, eX6_sheet_99, eX6_sheet_100, eX6_sheet_101, eX6_sheet_103, eX6_sheet_104, eX6_sheet_105, eX6_sheet_106, eX6_sheet_109, eX6_sheet_112, eX6_sheet_113, eX6_sheet_116, eX6_sheet_117, eX6_sheet_118, kl_i, kl_r, kl_n, kl_l, true_and, and_true, true_implies, false_implies, not_true_eq_false, not_false_eq_true, i10, Classical.not_not, hlt, ok_m14, rf_m14, aj_mr6, xj_mr6, i1, i2, st]
      rw [nI_1]
      exact ih (i + 1) (by omega)
  have main : isSh s → (b = 0 ∨ b = 8 ∨ b = 16 ∨ b = 64) → GX6_sheet w (fun r u' => r = some (.int (nf (shNo s b n) (if b = 0 then 0 else n))) ∧ u' = nfM (shNo s b n) u (zr (uI (uI u (1440 + NN s) b) (1444 + NN s) (if b = 0 then 0 else n)) (200 + 40 * NN s) 40)) 36 [some (.ref (mA w)), some (.int s), some (.int b), some (.int n), none] [] u := by
    intro c d
    simp only [eX6_sheet_0, eX6_sheet_1, eX6_sheet_4, eX6_sheet_7, eX6_sheet_8, eX6_sheet_11, eX6_sheet_12, eX6_sheet_14, eX6_sheet_17, eX6_sheet_18, eX6_sheet_20, eX6_sheet_23, eX6_sheet_24, eX6_sheet_26, eX6_sheet_29, eX6_sheet_30, eX6_sheet_32, eX6_sheet_35, eX6_sheet_36, eX6_sheet_37, eX6_sheet_40, eX6_sheet_41, eX6_sheet_44, eX6_sheet_47, eX6_sheet_48, eX6_sheet_49, eX6_sheet_51, eX6_sheet_54, eX6_sheet_55, eX6_sheet_57, eX6_sheet_60, eX6_sheet_61, eX6_sheet_62, eX6_sheet_65, eX6_sheet_66, eX6_sheet_67, eX6_sheet_68, eX6_sheet_69, eX6_sheet_72, eX6_sheet_73, eX6_sheet_74, eX6_sheet_77, eX6_sheet_78, eX6_sheet_81, eX6_sheet_82, eX6_sheet_83, eX6_sheet_84, eX6_sheet_88, eX6_sheet_90, eX6_sheet_93, eX6_sheet_94, eX6_sheet_97, eX6_sheet_99, eX6_sheet_100, eX6_sheet_101, eX6_sheet_103, eX6_sheet_104, eX6_sheet_105, eX6_sheet_106, eX6_sheet_109, eX6_sheet_112, eX6_sheet_113, eX6_sheet_116, eX6_sheet_117, eX6_sheet_118, kl_i, kl_r, kl_n, kl_l, true_and, and_true, true_implies, false_implies, not_true_eq_false, not_false_eq_true, i10, Classical.not_not, pf0, pf1, pf2, pf3, pf4, pf5, pf6, mf0, mf1, mf2, mf3, mf4, mf5, mf6, rX6_finds, ok_m12, rf_m12, as_mr4, xa_mr4, ok_m13, rf_m13, as_mr5, xa_mr5, isSh_vi c, Option.some.injEq, Value.int.injEq]
    have e0 : shNo s b n = if n < 0 then some 6 else if 40 < n then some 0 else none := by rw [shNo, if_neg (fun z => z ⟨c, d⟩)]
    refine ⟨fun e => ⟨fun f => ?_, fun f => nf0 (by rw [e0, if_neg (Int32.not_lt.mpr e), if_pos (Int32.not_le.mp f)])⟩, fun e => nf6 (by rw [e0, if_pos (Int32.not_le.mp e)])⟩
    have en : shNo s b n = none := by rw [e0, if_neg (Int32.not_lt.mpr e), if_neg (Int32.not_lt.mpr f)]
    rw [en]
    refine ⟨fun g => ?_, fun g => ?_⟩
    · rw [if_neg g]
      have := loop c n (uI (uI u (1440 + NN s) b) (1444 + NN s) n) (uI_at _ _ _) 40 0 (by omega)
      rw [zr_0] at this
      exact this
    · rw [if_pos g]
      have := loop c 0 (uI (uI u (1440 + NN s) b) (1444 + NN s) 0) (uI_at _ _ _) 40 0 (by omega)
      rw [zr_0] at this
      exact this
  simp only [eX6_sheet_0, eX6_sheet_1, eX6_sheet_4, eX6_sheet_7, eX6_sheet_8, eX6_sheet_11, eX6_sheet_12, eX6_sheet_14, eX6_sheet_17, eX6_sheet_18, eX6_sheet_20, eX6_sheet_23, eX6_sheet_24, eX6_sheet_26, eX6_sheet_29, eX6_sheet_30, eX6_sheet_32, eX6_sheet_35, eX6_sheet_37, eX6_sheet_40, eX6_sheet_41, eX6_sheet_44, eX6_sheet_47, eX6_sheet_48, eX6_sheet_49, eX6_sheet_51, eX6_sheet_54, eX6_sheet_55, eX6_sheet_57, eX6_sheet_60, eX6_sheet_61, eX6_sheet_62, eX6_sheet_65, eX6_sheet_66, eX6_sheet_67, eX6_sheet_68, eX6_sheet_69, eX6_sheet_72, eX6_sheet_73, eX6_sheet_74, eX6_sheet_77, eX6_sheet_78, eX6_sheet_81, eX6_sheet_82, eX6_sheet_83, eX6_sheet_84, eX6_sheet_88, eX6_sheet_90, eX6_sheet_93, eX6_sheet_94, eX6_sheet_97, eX6_sheet_99, eX6_sheet_100, eX6_sheet_101, eX6_sheet_103, eX6_sheet_104, eX6_sheet_105, eX6_sheet_106, eX6_sheet_109, eX6_sheet_112, eX6_sheet_113, eX6_sheet_116, eX6_sheet_117, eX6_sheet_118, kl_i, kl_r, kl_n, kl_l, true_and, and_true, true_implies, false_implies, not_true_eq_false, not_false_eq_true, i10, Classical.not_not, pX6_isSheet, rX6_isSheet, bi_0, pf0, pf1, pf2, pf3, pf4, pf5, pf6, mf0, mf1, mf2, mf3, mf4, mf5, mf6, rX6_finds, rX6_sheet, mX6_sheet, Option.some.injEq, Value.int.injEq]
  refine ⟨fun c => nf0 (by rw [shNo, if_pos (fun z => c z.1)]), fun c => ⟨fun d => main c (Or.inl d), fun d => ⟨fun e => main c (Or.inr (Or.inl e)), fun e => ⟨fun f => main c (Or.inr (Or.inr (Or.inl f))), fun f => ⟨fun g => main c (Or.inr (Or.inr (Or.inr g))), fun g => nf0 (by rw [shNo, if_pos (fun z => z.2.elim d (fun y => y.elim e (fun x => x.elim f g)))])⟩⟩⟩⟩⟩
set_option maxRecDepth 20000 in
theorem KX6_sheet_ok (w : WW) : KOk w MX6_sheet (KX6_sheet w) := KOk_mk flX6_ok ciX6_ok clX6_ok (fun _ _ h => by cases h) (fun _ _ h => by cases h) (List.forall_mem_cons.mpr ⟨itV (n := 87) (by decide) (COk_V (n := 1) (ci := 6) (ctX6_finds w) wcX6_87 nmX6_finds (by decide) (by decide) rfl (prX6_finds w)), List.forall_mem_cons.mpr ⟨itS (n := 278) (COk_S (n := 1) (ctX6_isSheet w) wcX6_65814 nmX6_isSheet (by decide)), List.forall_mem_nil _⟩⟩)
theorem ctX6_sheet (w : WW) : CT w yX6_sheet MX6_sheet (csX6_sheet w).2.1 (csX6_sheet w).2.2 := by
  refine CT_of (by decide) rfl TX6_sheet_ok TX6_sheet_v (KX6_sheet_ok w) (fun as u h => ?_)
  obtain ⟨a0, a1, a2, a3, rfl, h⟩ := sgRIII h
  obtain ⟨rfl, hh⟩ := h
  refine ⟨Nat.le_of_ble_eq_true rfl, ?_⟩
  have key := vX6_sheet w a1 a2 a3 u hh
  exact key
theorem prX6_sheet (w : WW) : ∀ as u, (csX6_sheet w).2.1 as u → ∃ a r, as = .ref a :: r ∧ r.length = 3 ∧ okO w a 6 := by
  intro as u h
  obtain ⟨a0, a1, a2, a3, rfl, h⟩ := sgRIII h
  exact ⟨_, _, rfl, rfl, okO_m h⟩
