/-! ===== the reference's sheets, counts, walked ===== -/
theorem vX6_status (w : WW) : VX6_status w := by
  intro k u h
  simp only [eX6_status_0, eX6_status_1, eX6_status_2, eX6_status_4, eX6_status_7, eX6_status_10, eX6_status_11, eX6_status_13, eX6_status_16, eX6_status_17, eX6_status_18, eX6_status_19, eX6_status_20, eX6_status_22, eX6_status_24, eX6_status_27, eX6_status_28, eX6_status_29, eX6_status_32, eX6_status_33, eX6_status_34, eX6_status_35, eX6_status_36, eX6_status_39, eX6_status_42, eX6_status_43, eX6_status_46, eX6_status_47, eX6_status_50, eX6_status_51, eX6_status_54, eX6_status_55, eX6_status_58, eX6_status_59, eX6_status_62, eX6_status_63, eX6_status_64, kl_i, kl_r, kl_n, kl_l, true_and, and_true, true_implies, false_implies, not_true_eq_false, not_false_eq_true, i10, Classical.not_not, pX6_in, rX6_in, bi_0, pf0, pf1, pf2, pf3, pf4, pf5, pf6, mf0, mf1, mf2, mf3, mf4, mf5, mf6, rX6_finds, rX6_status, mX6_status, Option.some.injEq, Value.int.injEq]
  refine ⟨fun c => ?_, fun c => by rw [if_pos c, if_pos c]; exact ⟨rfl, rfl⟩⟩
  rw [if_neg (fun z => z c), if_neg (fun z => z c)]
  have key : ∀ (m i : Nat), i + m = 7 → GX6_status w (fun r u' => r = some (.int (if k < 0 then fsum (vw u 1300) 7 else u.1 (1300 + NN k))) ∧ u' = u) 21 [some (.ref (mA w)), some (.int k), some (.int (fsum (vw u 1300) i)), some (.int (nI i))] [] u := by
    intro m
    induction m with
    | zero =>
      intro i hi
      have e3 : i = 7 := by omega
      subst e3
      have hle : (7 : Int32) ≤ nI 7 := by decide
      rw [eX6_status_21]
      simp only [eX6_status_0, eX6_status_1, eX6_status_2, eX6_status_4, eX6_status_7, eX6_status_10, eX6_status_11, eX6_status_13, eX6_status_16, eX6_status_17, eX6_status_18, eX6_status_19, eX6_status_20, eX6_status_22, eX6_status_24, eX6_status_27, eX6_status_28, eX6_status_29, eX6_status_32, eX6_status_33, eX6_status_34, eX6_status_35, eX6_status_36, eX6_status_39, eX6_status_42, eX6_status_43, eX6_status_46, eX6_status_47, eX6_status_50, eX6_status_51, eX6_status_54, eX6_status_55, eX6_status_58, eX6_status_59, eX6_status_62, eX6_status_63, eX6_status_64, kl_i, kl_r, kl_n, kl_l, true_and, and_true, true_implies, false_implies, not_true_eq_false, not_false_eq_true, i10, Classical.not_not, hle, ok_m2, rf_m2, ai_mr1, rd_mr1, Option.some.injEq, Value.int.injEq]
      exact 0
    | succ m ih =>
      intro i hi
      have hlt : ¬ (7 : Int32) ≤ nI i := nI_ge (a := i) (b := 7) (by omega) (by decide)
      have hv : vp_in (nI i) 7 := vi_nI (by omega)
      have hN : NN (nI i) = i := NN_nI (by omega)
      rw [eX6_status_21]
      simp only [eX6_status_0, eX6_status_1, eX6_status_2, eX6_status_4, eX6_status_7, eX6_status_10, eX6_status_11, eX6_status_13, eX6_status_16, eX6_status_17, eX6_status_18, eX6_status_19, eX6_status_20, eX6_status_22, eX6_status_24, eX6_status_27, eX6_status_28, eX6_status_29, eX6_status_32, eX6_status_33, eX6_status_34, eX6_status_35, eX6_status_36, eX6_status_39, eX6_status_42, eX6_status_43, eX6_status_46, eX6_status_47, eX6_status_50, eX6_status_51, eX6_status_54, eX6_status_55, eX6_status_58, eX6_status_59, eX6_status_62, eX6_status_63, eX6_status_64, kl_i, kl_r, kl_n, kl_l, true_and, and_true, true_implies, false_implies, not_true_eq_false, not_false_eq_true, i10, Classical.not_not, hlt, ok_m2, rf_m2, ai_mr1, rd_mr1, hv, hN]
      rw [nI_1]
      exact ih (i + 1) (by omega)
  exact key 7 0 (by omega)
set_option maxRecDepth 20000 in
theorem KX6_status_ok (w : WW) : KOk w MX6_status (KX6_status w) := KOk_mk flX6_ok ciX6_ok clX6_ok (fun _ _ h => by cases h) (fun _ _ h => by cases h) (List.forall_mem_cons.mpr ⟨itV (n := 87) (by decide) (COk_V (n := 1) (ci := 6) (ctX6_finds w) wcX6_87 nmX6_finds (by decide) (by decide) rfl (prX6_finds w)), List.forall_mem_cons.mpr ⟨itS (n := 50) (COk_S (n := 3) (ctX6_in w) wcX6_65586 nmX6_in (by decide)), List.forall_mem_nil _⟩⟩)
theorem ctX6_status (w : WW) : CT w yX6_status MX6_status (csX6_status w).2.1 (csX6_status w).2.2 := by
  refine CT_of (by decide) rfl TX6_status_ok TX6_status_v (KX6_status_ok w) (fun as u h => ?_)
  obtain ⟨a0, a1, rfl, h⟩ := sgRI h
  obtain ⟨rfl, hh⟩ := h
  refine ⟨Nat.le_of_ble_eq_true rfl, ?_⟩
  have key := vX6_status w a1 u hh
  exact key
theorem prX6_status (w : WW) : ∀ as u, (csX6_status w).2.1 as u → ∃ a r, as = .ref a :: r ∧ r.length = 1 ∧ okO w a 6 := by
  intro as u h
  obtain ⟨a0, a1, rfl, h⟩ := sgRI h
  exact ⟨_, _, rfl, rfl, okO_m h⟩
theorem vX6_count (w : WW) : VX6_count w := by
  intro k u h
  have h0 := h.1
  have ha : atOk u := Or.inl h0
  obtain ⟨K, hK, eK, eN⟩ := i6K h
  have e2 : u.1 (1100 + 2) = R6 u 2 := rfl
  have e1 : u.1 (1100 + 1) = R6 u 1 := rfl
  simp only [eX6_count_0, eX6_count_1, eX6_count_2, eX6_count_3, eX6_count_32, eX6_count_33, eX6_count_36, eX6_count_37, eX6_count_38, eX6_count_39, eX6_count_40, eX6_count_43, eX6_count_44, eX6_count_45, eX6_count_46, eX6_count_47, eX6_count_50, eX6_count_51, eX6_count_52, eX6_count_54, eX6_count_55, eX6_count_58, eX6_count_59, eX6_count_60, eX6_count_63, eX6_count_64, eX6_count_65, eX6_count_66, eX6_count_69, eX6_count_72, eX6_count_73, eX6_count_76, eX6_count_77, eX6_count_78, eX6_count_79, eX6_count_80, eX6_count_81, eX6_count_84, eX6_count_87, eX6_count_88, eX6_count_89, eX6_count_90, eX6_count_92, eX6_count_95, kl_i, kl_r, kl_n, kl_l, true_and, and_true, true_implies, false_implies, not_true_eq_false, not_false_eq_true, i10, Classical.not_not, pf0, pf1, pf2, pf3, pf4, pf5, pf6, mf0, mf1, mf2, mf3, mf4, mf5, mf6, rX6_finds, rX6_count, mX6_count, Option.some.injEq, Value.int.injEq, ok_m0, rf_m0, ai_mr0, rd_mr0, v182_1, v182_2, N_1, N_2, ok_m5, ix_m5, e1, e2]
  refine ⟨fun c => lfq (by rw [oCount, if_pos c]), fun c => ⟨fun d => lfq (by rw [oCount, if_neg c, if_pos d]), fun d => ⟨fun f => lfq (by rw [oCount, if_neg c, if_neg d, if_pos f]), fun f => ⟨fun g => ?_, fun g => lf0 (by rw [oCount, if_neg c, if_neg d, if_neg f, if_neg g])⟩⟩⟩⟩
  have eo : oCount (R6 u) (u.1 1001) k = .inr (sitSet (R6 u) K, R6 u) := by rw [oCount, if_neg c, if_neg d, if_neg f, if_pos g, eN]
  rw [eo, an_r, mo_r, pv6]
  have key : ∀ (n i : Nat), i + n = K → GX6_count w (fun r u' => r = some (.int (sitSet (R6 u) K)) ∧ u' = u) 53 [some (.ref (mA w)), some (.int k), some (.int (sitSet (R6 u) i)), some (.int (nI i))] [] u := by
    intro n
    induction n with
    | zero =>
      intro i hi
      have e3 : i = K := by omega
      subst e3
      have hle : nI i ≤ nI i := Int32.le_refl _
      rw [eX6_count_53]
      simp only [eX6_count_0, eX6_count_1, eX6_count_2, eX6_count_3, eX6_count_32, eX6_count_33, eX6_count_36, eX6_count_37, eX6_count_38, eX6_count_39, eX6_count_40, eX6_count_43, eX6_count_44, eX6_count_45, eX6_count_46, eX6_count_47, eX6_count_50, eX6_count_51, eX6_count_52, eX6_count_54, eX6_count_55, eX6_count_58, eX6_count_59, eX6_count_60, eX6_count_63, eX6_count_64, eX6_count_65, eX6_count_66, eX6_count_69, eX6_count_72, eX6_count_73, eX6_count_76, eX6_count_77, eX6_count_78, eX6_count_79, eX6_count_80, eX6_count_81, eX6_count_84, eX6_count_87, eX6_count_88, eX6_count_89, eX6_count_90, eX6_count_92, eX6_count_95, kl_i, kl_r, kl_n, kl_l, true_and, and_true, true_implies, false_implies, not_true_eq_false, not_false_eq_true, i10, Classical.not_not, ok_m0, rf_m0, ai_mr0, rd_mr0, v182_2, N_2, e2, eK, hle]
    | succ n ih =>
      intro i hi
      have hlt : ¬ nI K ≤ nI i := nI_ge (by omega) (by omega)
      have hv : vp_in (nI i) 10 := vi_nI (by omega)
      have hN : NN (nI i) = i := NN_nI (by omega)
      have go : ∀ x : Int32, x = sitSet (R6 u) (i + 1) → GX6_count w (fun r u' => r = some (.int (sitSet (R6 u) K)) ∧ u' = u) 53 [some (.ref (mA w)), some (.int k), some (.int x), some (.int (nI i + 1))] [] u := fun x hx => by rw [hx, nI_1]; exact ih (i + 1) (by omega)
      rw [eX6_count_53]
      simp only [eX6_count_0, eX6_count_1, eX6_count_2, eX6_count_3, eX6_count_32, eX6_count_33, eX6_count_36, eX6_count_37, eX6_count_38, eX6_count_39, eX6_count_40, eX6_count_43, eX6_count_44, eX6_count_45, eX6_count_46, eX6_count_47, eX6_count_50, eX6_count_51, eX6_count_52, eX6_count_54, eX6_count_55, eX6_count_58, eX6_count_59, eX6_count_60, eX6_count_63, eX6_count_64, eX6_count_65, eX6_count_66, eX6_count_69, eX6_count_72, eX6_count_73, eX6_count_76, eX6_count_77, eX6_count_78, eX6_count_79, eX6_count_80, eX6_count_81, eX6_count_84, eX6_count_87, eX6_count_88, eX6_count_89, eX6_count_90, eX6_count_92, eX6_count_95, kl_i, kl_r, kl_n, kl_l, true_and, and_true, true_implies, false_implies, not_true_eq_false, not_false_eq_true, i10, Classical.not_not, ok_m0, rf_m0, ai_mr0, rd_mr0, v182_2, pOne, mX6_sets, mX6_setsChair, pX6_sets, pX6_setsChair, pX6_chair, pX6_man, pX6_its, RW_pv, pv_pv, B6_pv, atOk_pv, N_0, N_1, N_2, N_3, N_4, N_5, N_6, v7_0, v7_1, v7_2, v7_3, v7_4, v7_5, v7_6, v3_0, v3_1, v3_2, ch0, ch1, ch2, man0, man1, man2, man3, man4, man5, man6, its0, its1, its2, e2, eK, hlt, ha, hv, hN, pX6_stands, rX6_stands, bi_0, RW6 h0]
      refine ⟨fun c => go _ ?_, fun c => go _ ?_⟩
      · rw [sitSet, if_neg c]
      · rw [sitSet, if_pos c]
  exact key K 0 (by omega)
set_option maxRecDepth 20000 in
theorem KX6_count_ok (w : WW) : KOk w MX6_count (KX6_count w) := KOk_mk flX6_ok ciX6_ok clX6_ok (fun _ _ h => by cases h) (fun _ _ h => by cases h) (List.forall_mem_cons.mpr ⟨itV (n := 64) (by decide) (COk_V (n := 1) (ci := 6) (ctX6_stands w) wcX6_64 nmX6_stands (by decide) (by decide) rfl (prX6_stands w)), List.forall_mem_cons.mpr ⟨itV (n := 87) (by decide) (COk_V (n := 1) (ci := 6) (ctX6_finds w) wcX6_87 nmX6_finds (by decide) (by decide) rfl (prX6_finds w)), List.forall_mem_nil _⟩⟩)
theorem ctX6_count (w : WW) : CT w yX6_count MX6_count (csX6_count w).2.1 (csX6_count w).2.2 := by
  refine CT_of (by decide) rfl TX6_count_ok TX6_count_v (KX6_count_ok w) (fun as u h => ?_)
  obtain ⟨a0, a1, rfl, h⟩ := sgRI h
  obtain ⟨rfl, hh⟩ := h
  refine ⟨Nat.le_of_ble_eq_true rfl, ?_⟩
  have key := vX6_count w a1 u hh
  exact key
theorem prX6_count (w : WW) : ∀ as u, (csX6_count w).2.1 as u → ∃ a r, as = .ref a :: r ∧ r.length = 1 ∧ okO w a 6 := by
  intro as u h
  obtain ⟨a0, a1, rfl, h⟩ := sgRI h
  exact ⟨_, _, rfl, rfl, okO_m h⟩
theorem vX6_write (w : WW) : VX6_write w := by
  intro s i v u h
  simp only [eX6_write_0, eX6_write_1, eX6_write_4, eX6_write_7, eX6_write_8, eX6_write_10, eX6_write_13, eX6_write_14, eX6_write_15, eX6_write_16, eX6_write_19, eX6_write_20, eX6_write_21, eX6_write_24, eX6_write_25, eX6_write_28, eX6_write_31, eX6_write_32, eX6_write_33, eX6_write_34, eX6_write_35, eX6_write_36, eX6_write_39, eX6_write_40, eX6_write_41, eX6_write_42, eX6_write_43, eX6_write_46, eX6_write_49, eX6_write_50, eX6_write_52, eX6_write_55, eX6_write_56, eX6_write_57, eX6_write_58, eX6_write_61, eX6_write_63, eX6_write_64, eX6_write_65, eX6_write_66, eX6_write_67, eX6_write_68, eX6_write_70, eX6_write_71, eX6_write_74, eX6_write_76, eX6_write_77, eX6_write_78, eX6_write_79, eX6_write_80, eX6_write_81, eX6_write_84, eX6_write_85, eX6_write_86, eX6_write_87, eX6_write_90, eX6_write_91, eX6_write_93, kl_i, kl_r, kl_n, kl_l, true_and, and_true, true_implies, false_implies, not_true_eq_false, not_false_eq_true, i10, Classical.not_not, pX6_isSheet, rX6_isSheet, pX6_in, rX6_in, bi_0, pf0, pf1, pf2, pf3, pf4, pf5, pf6, mf0, mf1, mf2, mf3, mf4, mf5, mf6, rX6_finds, ok_m12, rf_m12, ai_mr4, rd_mr4, ok_m13, rf_m13, ai_mr5, rd_mr5, ok_m14, rf_m14, aj_mr6, xj_mr6, rX6_write, mX6_write, pX6_narrow, rX6_narrow, Option.some.injEq, Value.long.injEq]
  exact 0
theorem wcX6_65814 : ∀ x ∈ wS1 RX6 278 yX6_isSheet MX6_isSheet, x ∈ Gt := by decide +kernel
theorem nmX6_isSheet : nmOk yX6_isSheet 1 = true := by decide +kernel
theorem wcX6_65819 : ∀ x ∈ wS1 RX6 283 yX6_narrow MX6_narrow, x ∈ Gt := by decide +kernel
theorem nmX6_narrow : nmOk yX6_narrow 2 = true := by decide +kernel
set_option maxRecDepth 20000 in
theorem KX6_write_ok (w : WW) : KOk w MX6_write (KX6_write w) := KOk_mk flX6_ok ciX6_ok clX6_ok (fun _ _ h => by cases h) (fun _ _ h => by cases h) (List.forall_mem_cons.mpr ⟨itV (n := 87) (by decide) (COk_V (n := 1) (ci := 6) (ctX6_finds w) wcX6_87 nmX6_finds (by decide) (by decide) rfl (prX6_finds w)), List.forall_mem_cons.mpr ⟨itS (n := 50) (COk_S (n := 3) (ctX6_in w) wcX6_65586 nmX6_in (by decide)), List.forall_mem_cons.mpr ⟨itS (n := 278) (COk_S (n := 1) (ctX6_isSheet w) wcX6_65814 nmX6_isSheet (by decide)), List.forall_mem_cons.mpr ⟨itS (n := 283) (COk_S (n := 2) (ctX6_narrow w) wcX6_65819 nmX6_narrow (by decide)), List.forall_mem_nil _⟩⟩⟩⟩)
theorem ctX6_write (w : WW) : CT w yX6_write MX6_write (csX6_write w).2.1 (csX6_write w).2.2 := by
  refine CT_of (by decide) rfl TX6_write_ok TX6_write_v (KX6_write_ok w) (fun as u h => ?_)
  obtain ⟨a0, a1, a2, a3, rfl, h⟩ := sgRIIJ h
  obtain ⟨rfl, hh⟩ := h
  refine ⟨Nat.le_of_ble_eq_true rfl, ?_⟩
  have key := vX6_write w a1 a2 a3 u hh
  exact key
theorem prX6_write (w : WW) : ∀ as u, (csX6_write w).2.1 as u → ∃ a r, as = .ref a :: r ∧ r.length = 3 ∧ okO w a 6 := by
  intro as u h
  obtain ⟨a0, a1, a2, a3, rfl, h⟩ := sgRIIJ h
  exact ⟨_, _, rfl, rfl, okO_m h⟩
theorem vX6_sheet (w : WW) : VX6_sheet w := by
  intro s b n u h
  simp only [eX6_sheet_0, eX6_sheet_1, eX6_sheet_4, eX6_sheet_7, eX6_sheet_8, eX6_sheet_11, eX6_sheet_12, eX6_sheet_14, eX6_sheet_17, eX6_sheet_18, eX6_sheet_20, eX6_sheet_23, eX6_sheet_24, eX6_sheet_26, eX6_sheet_29, eX6_sheet_30, eX6_sheet_32, eX6_sheet_35, eX6_sheet_36, eX6_sheet_37, eX6_sheet_40, eX6_sheet_41, eX6_sheet_44, eX6_sheet_47, eX6_sheet_48, eX6_sheet_49, eX6_sheet_51, eX6_sheet_54, eX6_sheet_55, eX6_sheet_57, eX6_sheet_60, eX6_sheet_61, eX6_sheet_62, eX6_sheet_65, eX6_sheet_66, eX6_sheet_67, eX6_sheet_68, eX6_sheet_69, eX6_sheet_72, eX6_sheet_73, eX6_sheet_74, eX6_sheet_77, eX6_sheet_78, eX6_sheet_81, eX6_sheet_82, eX6_sheet_83, eX6_sheet_84, eX6_sheet_88, eX6_sheet_90, eX6_sheet_93, eX6_sheet_94, eX6_sheet_97, eX6_sheet_99, eX6_sheet_100, eX6_sheet_101, eX6_sheet_103, eX6_sheet_104, eX6_sheet_105, eX6_sheet_106, eX6_sheet_109, eX6_sheet_112, eX6_sheet_113, eX6_sheet_116, eX6_sheet_117, eX6_sheet_118, kl_i, kl_r, kl_n, kl_l, true_and, and_true, true_implies, false_implies, not_true_eq_false, not_false_eq_true, i10, Classical.not_not, pX6_isSheet, rX6_isSheet, bi_0, pf0, pf1, pf2, pf3, pf4, pf5, pf6, mf0, mf1, mf2, mf3, mf4, mf5, mf6, rX6_finds, ok_m12, rf_m12, as_mr4, xa_mr4, ok_m13, rf_m13, as_mr5, xa_mr5, ai_mr5, rd_mr5, rX6_sheet, mX6_sheet, Option.some.injEq, Value.int.injEq]
  exact 0
set_option maxRecDepth 20000 in
theorem KX6_sheet_ok (w : WW) : KOk w MX6_sheet (KX6_sheet w) := KOk_mk flX6_ok ciX6_ok clX6_ok (fun _ _ h => by cases h) (fun _ _ h => by cases h) (List.forall_mem_cons.mpr ⟨itV (n := 87) (by decide) (COk_V (n := 1) (ci := 6) (ctX6_finds w) wcX6_87 nmX6_finds (by decide) (by decide) rfl (prX6_finds w)), List.forall_mem_cons.mpr ⟨itS (n := 278) (COk_S (n := 1) (ctX6_isSheet w) wcX6_65814 nmX6_isSheet (by decide)), List.forall_mem_nil _⟩⟩)
theorem ctX6_sheet (w : WW) : CT w yX6_sheet MX6_sheet (csX6_sheet w).2.1 (csX6_sheet w).2.2 := by
  refine CT_of (by decide) rfl TX6_sheet_ok TX6_sheet_v (KX6_sheet_ok w) (fun as u h => ?_)
  obtain ⟨a0, a1, a2, a3, rfl, h⟩ := sgRIII h
  obtain ⟨rfl, hh⟩ := h
  refine ⟨Nat.le_of_ble_eq_true rfl, ?_⟩
  have key := vX6_sheet w a1 a2 a3 u hh
  exact key
theorem prX6_sheet (w : WW) : ∀ as u, (csX6_sheet w).2.1 as u → ∃ a r, as = .ref a :: r ∧ r.length = 3 ∧ okO w a 6 := by
  intro as u h
  obtain ⟨a0, a1, a2, a3, rfl, h⟩ := sgRIII h
  exact ⟨_, _, rfl, rfl, okO_m h⟩
theorem vX6_copy (w : WW) : VX6_copy w := by
  intro s f t o n u h
  simp only [eX6_copy_0, eX6_copy_1, eX6_copy_4, eX6_copy_7, eX6_copy_8, eX6_copy_11, eX6_copy_14, eX6_copy_15, eX6_copy_17, eX6_copy_20, eX6_copy_21, eX6_copy_22, eX6_copy_25, eX6_copy_26, eX6_copy_27, eX6_copy_30, eX6_copy_31, eX6_copy_34, eX6_copy_35, eX6_copy_36, eX6_copy_39, eX6_copy_40, eX6_copy_43, eX6_copy_46, eX6_copy_47, eX6_copy_48, eX6_copy_51, eX6_copy_52, eX6_copy_53, eX6_copy_54, eX6_copy_57, eX6_copy_58, eX6_copy_59, eX6_copy_62, eX6_copy_63, eX6_copy_65, eX6_copy_68, eX6_copy_69, eX6_copy_70, eX6_copy_71, eX6_copy_72, eX6_copy_74, eX6_copy_77, eX6_copy_80, eX6_copy_81, eX6_copy_82, eX6_copy_84, eX6_copy_86, eX6_copy_89, eX6_copy_92, eX6_copy_93, eX6_copy_95, eX6_copy_98, eX6_copy_99, eX6_copy_100, eX6_copy_104, eX6_copy_106, eX6_copy_109, eX6_copy_110, eX6_copy_113, eX6_copy_115, eX6_copy_116, eX6_copy_119, eX6_copy_121, eX6_copy_122, eX6_copy_123, eX6_copy_124, eX6_copy_125, eX6_copy_127, eX6_copy_128, eX6_copy_129, eX6_copy_130, eX6_copy_133, eX6_copy_136, eX6_copy_137, eX6_copy_141, eX6_copy_143, eX6_copy_146, eX6_copy_147, eX6_copy_150, eX6_copy_152, eX6_copy_153, eX6_copy_154, eX6_copy_156, eX6_copy_157, eX6_copy_159, eX6_copy_160, eX6_copy_161, eX6_copy_164, eX6_copy_166, eX6_copy_167, eX6_copy_168, eX6_copy_171, eX6_copy_174, eX6_copy_176, kl_i, kl_r, kl_n, kl_l, true_and, and_true, true_implies, false_implies, not_true_eq_false, not_false_eq_true, i10, Classical.not_not, pX6_isSheet, rX6_isSheet, bi_0, pf0, pf1, pf2, pf3, pf4, pf5, pf6, mf0, mf1, mf2, mf3, mf4, mf5, mf6, rX6_finds, ok_m12, rf_m12, ai_mr4, rd_mr4, pX6_isPart, rX6_isPart, rX6_copy, mX6_copy, Option.some.injEq, Value.int.injEq]
  exact 0
theorem wcX6_287 : ∀ x ∈ wV1 RX6 287 yX6_isPart MX6_isPart, x ∈ Gt := by decide +kernel
theorem nmX6_isPart : nmOk yX6_isPart 3 = true := by decide +kernel
set_option maxRecDepth 20000 in
theorem KX6_copy_ok (w : WW) : KOk w MX6_copy (KX6_copy w) := KOk_mk flX6_ok ciX6_ok clX6_ok (fun _ _ h => by cases h) (fun _ _ h => by cases h) (List.forall_mem_cons.mpr ⟨itV (n := 87) (by decide) (COk_V (n := 1) (ci := 6) (ctX6_finds w) wcX6_87 nmX6_finds (by decide) (by decide) rfl (prX6_finds w)), List.forall_mem_cons.mpr ⟨itV (n := 287) (by decide) (COk_V (n := 3) (ci := 6) (ctX6_isPart w) wcX6_287 nmX6_isPart (by decide) (by decide) rfl (prX6_isPart w)), List.forall_mem_cons.mpr ⟨itS (n := 278) (COk_S (n := 1) (ctX6_isSheet w) wcX6_65814 nmX6_isSheet (by decide)), List.forall_mem_nil _⟩⟩⟩)
theorem ctX6_copy (w : WW) : CT w yX6_copy MX6_copy (csX6_copy w).2.1 (csX6_copy w).2.2 := by
  refine CT_of (by decide) rfl TX6_copy_ok TX6_copy_v (KX6_copy_ok w) (fun as u h => ?_)
  obtain ⟨a0, a1, a2, a3, a4, a5, rfl, h⟩ := sgRIIIII h
  obtain ⟨rfl, hh⟩ := h
  refine ⟨Nat.le_of_ble_eq_true rfl, ?_⟩
  have key := vX6_copy w a1 a2 a3 a4 a5 u hh
  exact key
theorem prX6_copy (w : WW) : ∀ as u, (csX6_copy w).2.1 as u → ∃ a r, as = .ref a :: r ∧ r.length = 5 ∧ okO w a 6 := by
  intro as u h
  obtain ⟨a0, a1, a2, a3, a4, a5, rfl, h⟩ := sgRIIIII h
  exact ⟨_, _, rfl, rfl, okO_m h⟩
theorem vX6_lays (w : WW) : VX6_lays w := by
  intro s u h
  simp only [eX6_lays_0, eX6_lays_1, eX6_lays_4, eX6_lays_7, eX6_lays_8, eX6_lays_10, eX6_lays_13, eX6_lays_14, eX6_lays_15, eX6_lays_18, eX6_lays_19, eX6_lays_20, eX6_lays_23, eX6_lays_24, eX6_lays_27, eX6_lays_30, eX6_lays_31, eX6_lays_32, eX6_lays_33, eX6_lays_34, eX6_lays_36, eX6_lays_37, eX6_lays_40, eX6_lays_41, eX6_lays_42, eX6_lays_45, eX6_lays_46, eX6_lays_47, eX6_lays_50, eX6_lays_51, eX6_lays_52, eX6_lays_55, eX6_lays_56, eX6_lays_59, eX6_lays_61, eX6_lays_62, eX6_lays_63, eX6_lays_64, eX6_lays_65, eX6_lays_66, eX6_lays_68, eX6_lays_70, eX6_lays_73, eX6_lays_74, eX6_lays_77, eX6_lays_79, eX6_lays_80, eX6_lays_83, eX6_lays_84, eX6_lays_85, eX6_lays_86, eX6_lays_87, eX6_lays_90, eX6_lays_91, eX6_lays_92, eX6_lays_93, eX6_lays_95, eX6_lays_96, eX6_lays_99, eX6_lays_102, eX6_lays_105, eX6_lays_108, eX6_lays_109, kl_i, kl_r, kl_n, kl_l, true_and, and_true, true_implies, false_implies, not_true_eq_false, not_false_eq_true, i10, Classical.not_not, pX6_isSheet, rX6_isSheet, bi_0, pf0, pf1, pf2, pf3, pf4, pf5, pf6, mf0, mf1, mf2, mf3, mf4, mf5, mf6, rX6_finds, ok_m12, rf_m12, ai_mr4, rd_mr4, rX6_lays, mX6_lays, Option.some.injEq, Value.int.injEq]
  exact 0
set_option maxRecDepth 20000 in
theorem KX6_lays_ok (w : WW) : KOk w MX6_lays (KX6_lays w) := KOk_mk flX6_ok ciX6_ok clX6_ok (fun _ _ h => by cases h) (fun _ _ h => by cases h) (List.forall_mem_cons.mpr ⟨itV (n := 87) (by decide) (COk_V (n := 1) (ci := 6) (ctX6_finds w) wcX6_87 nmX6_finds (by decide) (by decide) rfl (prX6_finds w)), List.forall_mem_cons.mpr ⟨itV (n := 105) (by decide) (COk_V (n := 3) (ci := 6) (ctX6_sets w) wcX6_105 nmX6_sets (by decide) (by decide) rfl (prX6_sets w)), List.forall_mem_cons.mpr ⟨itS (n := 278) (COk_S (n := 1) (ctX6_isSheet w) wcX6_65814 nmX6_isSheet (by decide)), List.forall_mem_nil _⟩⟩⟩)
theorem ctX6_lays (w : WW) : CT w yX6_lays MX6_lays (csX6_lays w).2.1 (csX6_lays w).2.2 := by
  refine CT_of (by decide) rfl TX6_lays_ok TX6_lays_v (KX6_lays_ok w) (fun as u h => ?_)
  obtain ⟨a0, a1, rfl, h⟩ := sgRI h
  obtain ⟨rfl, hh⟩ := h
  refine ⟨Nat.le_of_ble_eq_true rfl, ?_⟩
  have key := vX6_lays w a1 u hh
  exact key
theorem prX6_lays (w : WW) : ∀ as u, (csX6_lays w).2.1 as u → ∃ a r, as = .ref a :: r ∧ r.length = 1 ∧ okO w a 6 := by
  intro as u h
  obtain ⟨a0, a1, rfl, h⟩ := sgRI h
  exact ⟨_, _, rfl, rfl, okO_m h⟩
theorem vX6_roll (w : WW) : VX6_roll w := by
  intro s n u h
  simp only [eX6_roll_0, eX6_roll_1, eX6_roll_4, eX6_roll_7, eX6_roll_9, eX6_roll_12, eX6_roll_13, eX6_roll_16, eX6_roll_17, eX6_roll_18, eX6_roll_21, eX6_roll_24, eX6_roll_27, eX6_roll_28, eX6_roll_31, eX6_roll_34, eX6_roll_36, eX6_roll_39, eX6_roll_40, eX6_roll_41, eX6_roll_44, eX6_roll_47, eX6_roll_49, eX6_roll_52, eX6_roll_53, eX6_roll_54, eX6_roll_55, eX6_roll_58, eX6_roll_59, eX6_roll_60, eX6_roll_63, eX6_roll_64, eX6_roll_65, eX6_roll_68, eX6_roll_69, eX6_roll_70, eX6_roll_73, eX6_roll_74, eX6_roll_78, eX6_roll_79, eX6_roll_80, eX6_roll_83, eX6_roll_86, eX6_roll_88, eX6_roll_89, eX6_roll_92, eX6_roll_93, eX6_roll_94, eX6_roll_97, eX6_roll_98, eX6_roll_101, eX6_roll_103, eX6_roll_104, eX6_roll_105, eX6_roll_107, eX6_roll_108, eX6_roll_109, eX6_roll_111, eX6_roll_112, eX6_roll_115, eX6_roll_116, eX6_roll_117, eX6_roll_120, eX6_roll_123, eX6_roll_124, eX6_roll_125, eX6_roll_128, eX6_roll_130, kl_i, kl_r, kl_n, kl_l, true_and, and_true, true_implies, false_implies, not_true_eq_false, not_false_eq_true, i10, Classical.not_not, pX6_isSheet, rX6_isSheet, pX6_isLong, rX6_isLong, pX6_isLate, rX6_isLate, bi_0, pf0, pf1, pf2, pf3, pf4, pf5, pf6, mf0, mf1, mf2, mf3, mf4, mf5, mf6, rX6_finds, ok_m12, rf_m12, ai_mr4, rd_mr4, rX6_roll, mX6_roll, Option.some.injEq, Value.int.injEq]
  exact 0
set_option maxRecDepth 20000 in
theorem KX6_roll_ok (w : WW) : KOk w MX6_roll (KX6_roll w) := KOk_mk flX6_ok ciX6_ok clX6_ok (fun _ _ h => by cases h) (fun _ _ h => by cases h) (List.forall_mem_cons.mpr ⟨itV (n := 46) (by decide) (COk_V (n := 1) (ci := 6) (ctX6_its w) wcX6_46 nmX6_its (by decide) (by decide) rfl (prX6_its w)), List.forall_mem_cons.mpr ⟨itV (n := 71) (by decide) (COk_V (n := 2) (ci := 6) (ctX6_chair w) wcX6_71 nmX6_chair (by decide) (by decide) rfl (prX6_chair w)), List.forall_mem_cons.mpr ⟨itV (n := 87) (by decide) (COk_V (n := 1) (ci := 6) (ctX6_finds w) wcX6_87 nmX6_finds (by decide) (by decide) rfl (prX6_finds w)), List.forall_mem_cons.mpr ⟨itV (n := 148) (by decide) (COk_V (n := 1) (ci := 6) (ctX6_isLate w) wcX6_148 nmX6_isLate (by decide) (by decide) rfl (prX6_isLate w)), List.forall_mem_cons.mpr ⟨itV (n := 151) (by decide) (COk_V (n := 1) (ci := 6) (ctX6_go w) wcX6_151 nmX6_go (by decide) (by decide) rfl (prX6_go w)), List.forall_mem_cons.mpr ⟨itV (n := 157) (by decide) (COk_V (n := 0) (ci := 6) (ctX6_lends w) wcX6_157 nmX6_lends (by decide) (by decide) rfl (prX6_lends w)), List.forall_mem_cons.mpr ⟨itS (n := 154) (COk_S (n := 1) (ctX6_isLong w) wcX6_65690 nmX6_isLong (by decide)), List.forall_mem_cons.mpr ⟨itS (n := 278) (COk_S (n := 1) (ctX6_isSheet w) wcX6_65814 nmX6_isSheet (by decide)), List.forall_mem_nil _⟩⟩⟩⟩⟩⟩⟩⟩)
theorem ctX6_roll (w : WW) : CT w yX6_roll MX6_roll (csX6_roll w).2.1 (csX6_roll w).2.2 := by
  refine CT_of (by decide) rfl TX6_roll_ok TX6_roll_v (KX6_roll_ok w) (fun as u h => ?_)
  obtain ⟨a0, a1, a2, rfl, h⟩ := sgRII h
  obtain ⟨rfl, hh⟩ := h
  refine ⟨Nat.le_of_ble_eq_true rfl, ?_⟩
  have key := vX6_roll w a1 a2 u hh
  exact key
theorem prX6_roll (w : WW) : ∀ as u, (csX6_roll w).2.1 as u → ∃ a r, as = .ref a :: r ∧ r.length = 2 ∧ okO w a 6 := by
  intro as u h
  obtain ⟨a0, a1, a2, rfl, h⟩ := sgRII h
  exact ⟨_, _, rfl, rfl, okO_m h⟩
theorem vX6_read (w : WW) : VX6_read w := by
  intro s n u h
  simp only [eX6_read_0, eX6_read_1, eX6_read_4, eX6_read_7, eX6_read_9, eX6_read_12, eX6_read_13, eX6_read_16, eX6_read_17, eX6_read_18, eX6_read_21, eX6_read_24, eX6_read_27, eX6_read_28, eX6_read_29, eX6_read_32, eX6_read_35, eX6_read_37, eX6_read_40, eX6_read_41, eX6_read_43, eX6_read_46, eX6_read_49, eX6_read_51, eX6_read_54, eX6_read_55, eX6_read_56, eX6_read_57, eX6_read_60, eX6_read_61, eX6_read_62, eX6_read_65, eX6_read_66, eX6_read_67, eX6_read_70, eX6_read_71, eX6_read_73, eX6_read_74, eX6_read_78, eX6_read_79, eX6_read_82, eX6_read_83, eX6_read_84, eX6_read_87, eX6_read_89, eX6_read_92, eX6_read_93, eX6_read_96, eX6_read_98, eX6_read_99, eX6_read_100, eX6_read_102, eX6_read_103, eX6_read_104, eX6_read_105, eX6_read_106, eX6_read_107, eX6_read_110, eX6_read_111, eX6_read_112, eX6_read_115, eX6_read_116, eX6_read_119, eX6_read_121, eX6_read_122, eX6_read_123, eX6_read_125, eX6_read_126, eX6_read_129, eX6_read_132, eX6_read_135, eX6_read_136, eX6_read_137, eX6_read_140, eX6_read_142, kl_i, kl_r, kl_n, kl_l, true_and, and_true, true_implies, false_implies, not_true_eq_false, not_false_eq_true, i10, Classical.not_not, pX6_isSheet, rX6_isSheet, pX6_isSeat, rX6_isSeat, pX6_isLate, rX6_isLate, bi_0, pf0, pf1, pf2, pf3, pf4, pf5, pf6, mf0, mf1, mf2, mf3, mf4, mf5, mf6, rX6_finds, ok_m12, rf_m12, ai_mr4, rd_mr4, rX6_read, mX6_read, Option.some.injEq, Value.int.injEq]
  exact 0
set_option maxRecDepth 20000 in
theorem KX6_read_ok (w : WW) : KOk w MX6_read (KX6_read w) := KOk_mk flX6_ok ciX6_ok clX6_ok (fun _ _ h => by cases h) (fun _ _ h => by cases h) (List.forall_mem_cons.mpr ⟨itV (n := 71) (by decide) (COk_V (n := 2) (ci := 6) (ctX6_chair w) wcX6_71 nmX6_chair (by decide) (by decide) rfl (prX6_chair w)), List.forall_mem_cons.mpr ⟨itV (n := 87) (by decide) (COk_V (n := 1) (ci := 6) (ctX6_finds w) wcX6_87 nmX6_finds (by decide) (by decide) rfl (prX6_finds w)), List.forall_mem_cons.mpr ⟨itV (n := 99) (by decide) (COk_V (n := 1) (ci := 6) (ctX6_isSeat w) wcX6_99 nmX6_isSeat (by decide) (by decide) rfl (prX6_isSeat w)), List.forall_mem_cons.mpr ⟨itV (n := 145) (by decide) (COk_V (n := 0) (ci := 6) (ctX6_secondGoes w) wcX6_145 nmX6_secondGoes (by decide) (by decide) rfl (prX6_secondGoes w)), List.forall_mem_cons.mpr ⟨itV (n := 148) (by decide) (COk_V (n := 1) (ci := 6) (ctX6_isLate w) wcX6_148 nmX6_isLate (by decide) (by decide) rfl (prX6_isLate w)), List.forall_mem_cons.mpr ⟨itV (n := 157) (by decide) (COk_V (n := 0) (ci := 6) (ctX6_lends w) wcX6_157 nmX6_lends (by decide) (by decide) rfl (prX6_lends w)), List.forall_mem_cons.mpr ⟨itS (n := 278) (COk_S (n := 1) (ctX6_isSheet w) wcX6_65814 nmX6_isSheet (by decide)), List.forall_mem_nil _⟩⟩⟩⟩⟩⟩⟩)
theorem ctX6_read (w : WW) : CT w yX6_read MX6_read (csX6_read w).2.1 (csX6_read w).2.2 := by
  refine CT_of (by decide) rfl TX6_read_ok TX6_read_v (KX6_read_ok w) (fun as u h => ?_)
  obtain ⟨a0, a1, a2, rfl, h⟩ := sgRII h
  obtain ⟨rfl, hh⟩ := h
  refine ⟨Nat.le_of_ble_eq_true rfl, ?_⟩
  have key := vX6_read w a1 a2 u hh
  exact key
theorem prX6_read (w : WW) : ∀ as u, (csX6_read w).2.1 as u → ∃ a r, as = .ref a :: r ∧ r.length = 2 ∧ okO w a 6 := by
  intro as u h
  obtain ⟨a0, a1, a2, rfl, h⟩ := sgRII h
  exact ⟨_, _, rfl, rfl, okO_m h⟩
