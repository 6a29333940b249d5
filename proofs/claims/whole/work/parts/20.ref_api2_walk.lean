/-! ===== the reference's acts with loops that lend nothing, walked ===== -/
theorem vX6_on (w : WW) : VX6_on w := by
  intro p u h
  have h0 := h.1
  have ha : atOk u := Or.inl h0
  obtain ⟨K, hK, eK, eN⟩ := i6K h
  have e2 : u.1 (1100 + 2) = nI K := eK
  simp only [eX6_on_0, eX6_on_1, eX6_on_4, eX6_on_7, eX6_on_8, eX6_on_10, eX6_on_13, eX6_on_14, eX6_on_15, eX6_on_16, eX6_on_17, eX6_on_19, eX6_on_20, eX6_on_23, eX6_on_24, eX6_on_25, eX6_on_28, eX6_on_29, eX6_on_30, eX6_on_31, eX6_on_34, eX6_on_37, eX6_on_38, eX6_on_39, eX6_on_40, eX6_on_43, eX6_on_44, eX6_on_47, eX6_on_48, eX6_on_49, eX6_on_50, eX6_on_53, eX6_on_54, eX6_on_55, eX6_on_56, eX6_on_59, eX6_on_62, eX6_on_63, kl_i, kl_r, kl_n, kl_l, true_and, and_true, true_implies, false_implies, not_true_eq_false, not_false_eq_true, i10, Classical.not_not, pX6_isSpot, rX6_isSpot, bi_0, pf0, pf1, pf2, pf3, pf4, pf5, pf6, mf0, mf1, mf2, mf3, mf4, mf5, mf6, rX6_finds, rX6_on, mX6_on, Option.some.injEq, Value.int.injEq]
  refine ⟨fun c1 => ?_, fun c1 => lf0 (by rw [oOn, if_pos c1])⟩
  have eo : oOn (R6 u) p = .inr (onSet (R6 u) p K, R6 u) := by rw [oOn, if_neg (fun z => z c1), eN]
  rw [eo, an_r, mo_r, pv6]
  have key : ∀ (n i : Nat), i + n = K → GX6_on w (fun r u' => r = some (.int (onSet (R6 u) p K)) ∧ u' = u) 18 [some (.ref (mA w)), some (.int p), some (.int (onSet (R6 u) p i)), some (.int (nI i))] [] u := by
    intro n
    induction n with
    | zero =>
      intro i hi
      have e3 : i = K := by omega
      subst e3
      rw [eX6_on_18]
      simp only [eX6_on_0, eX6_on_1, eX6_on_4, eX6_on_7, eX6_on_8, eX6_on_10, eX6_on_13, eX6_on_14, eX6_on_15, eX6_on_16, eX6_on_17, eX6_on_19, eX6_on_20, eX6_on_23, eX6_on_24, eX6_on_25, eX6_on_28, eX6_on_29, eX6_on_30, eX6_on_31, eX6_on_34, eX6_on_37, eX6_on_38, eX6_on_39, eX6_on_40, eX6_on_43, eX6_on_44, eX6_on_47, eX6_on_48, eX6_on_49, eX6_on_50, eX6_on_53, eX6_on_54, eX6_on_55, eX6_on_56, eX6_on_59, eX6_on_62, eX6_on_63, kl_i, kl_r, kl_n, kl_l, true_and, and_true, true_implies, false_implies, not_true_eq_false, not_false_eq_true, i10, Classical.not_not, ok_m0, rf_m0, ai_mr0, rd_mr0, v182_2, N_2, e2]
      exact ⟨fun _ => trivial, fun z => absurd (nI_le (Nat.le_refl i) (by omega)) z⟩
    | succ n ih =>
      intro i hi
      have hlt : ¬ nI K ≤ nI i := nI_ge (by omega) (by omega)
      have hv : vp_in (nI i) 10 := vi_nI (by omega)
      have hN : NN (nI i) = i := NN_nI (by omega)
      have go : ∀ x : Int32, x = onSet (R6 u) p (i + 1) → GX6_on w (fun r u' => r = some (.int (onSet (R6 u) p K)) ∧ u' = u) 18 [some (.ref (mA w)), some (.int p), some (.int x), some (.int (nI i + 1))] [] u := fun x hx => by rw [hx, nI_1]; exact ih (i + 1) (by omega)
      rw [eX6_on_18]
      simp only [eX6_on_0, eX6_on_1, eX6_on_4, eX6_on_7, eX6_on_8, eX6_on_10, eX6_on_13, eX6_on_14, eX6_on_15, eX6_on_16, eX6_on_17, eX6_on_19, eX6_on_20, eX6_on_23, eX6_on_24, eX6_on_25, eX6_on_28, eX6_on_29, eX6_on_30, eX6_on_31, eX6_on_34, eX6_on_37, eX6_on_38, eX6_on_39, eX6_on_40, eX6_on_43, eX6_on_44, eX6_on_47, eX6_on_48, eX6_on_49, eX6_on_50, eX6_on_53, eX6_on_54, eX6_on_55, eX6_on_56, eX6_on_59, eX6_on_62, eX6_on_63, kl_i, kl_r, kl_n, kl_l, true_and, and_true, true_implies, false_implies, not_true_eq_false, not_false_eq_true, i10, Classical.not_not, ok_m0, rf_m0, ai_mr0, rd_mr0, v182_2, pOne, mX6_sets, mX6_setsChair, pX6_sets, pX6_setsChair, pX6_chair, pX6_man, pX6_its, RW_pv, pv_pv, B6_pv, atOk_pv, N_0, N_1, N_2, N_3, N_4, N_5, N_6, v7_0, v7_1, v7_2, v7_3, v7_4, v7_5, v7_6, v3_0, v3_1, v3_2, ch0, ch1, ch2, man0, man1, man2, man3, man4, man5, man6, its0, its1, its2, e2, hlt, ha, hv, hN, pX6_stands, rX6_stands, bi_0, RW6 h0]
      refine ⟨fun c => go _ ?_, fun c => ⟨fun d => go _ ?_, fun d => go _ ?_⟩⟩
      · rw [onSet, if_neg (fun z => c z.1)]
      · rw [onSet, if_neg (fun z => d z.2)]
      · rw [onSet, if_pos ⟨c, d⟩]
  exact key K 0 (by omega)
set_option maxRecDepth 20000 in
theorem KX6_on_ok (w : WW) : KOk w MX6_on (KX6_on w) := KOk_mk flX6_ok ciX6_ok clX6_ok (fun _ _ h => by cases h) (fun _ _ h => by cases h) (List.forall_mem_cons.mpr ⟨itV (n := 54) (by decide) (COk_V (n := 2) (ci := 6) (ctX6_man w) wcX6_54 nmX6_man (by decide) (by decide) rfl (prX6_man w)), List.forall_mem_cons.mpr ⟨itV (n := 64) (by decide) (COk_V (n := 1) (ci := 6) (ctX6_stands w) wcX6_64 nmX6_stands (by decide) (by decide) rfl (prX6_stands w)), List.forall_mem_cons.mpr ⟨itV (n := 87) (by decide) (COk_V (n := 1) (ci := 6) (ctX6_finds w) wcX6_87 nmX6_finds (by decide) (by decide) rfl (prX6_finds w)), List.forall_mem_cons.mpr ⟨itS (n := 81) (COk_S (n := 1) (ctX6_isSpot w) wcX6_65617 nmX6_isSpot (by decide)), List.forall_mem_nil _⟩⟩⟩⟩)
theorem ctX6_on (w : WW) : CT w yX6_on MX6_on (csX6_on w).2.1 (csX6_on w).2.2 := by
  refine CT_of (by decide) rfl TX6_on_ok TX6_on_v (KX6_on_ok w) (fun as u h => ?_)
  obtain ⟨a0, a1, rfl, h⟩ := sgRI h
  obtain ⟨rfl, hh⟩ := h
  refine ⟨Nat.le_of_ble_eq_true rfl, ?_⟩
  have key := vX6_on w a1 u hh
  exact key
theorem prX6_on (w : WW) : ∀ as u, (csX6_on w).2.1 as u → ∃ a r, as = .ref a :: r ∧ r.length = 1 ∧ okO w a 6 := by
  intro as u h
  obtain ⟨a0, a1, rfl, h⟩ := sgRI h
  exact ⟨_, _, rfl, rfl, okO_m h⟩
theorem vX6_now (w : WW) : VX6_now w := by
  intro k u h
  have h0 := h.1
  have ha : atOk u := Or.inl h0
  obtain ⟨K, hK, eK, eN⟩ := i6K h
  obtain ⟨M, hM, eM, eNM⟩ := i6M h
  have e2 : u.1 (1100 + 2) = nI K := eK
  have e1 : u.1 (1100 + 1) = nI M := eM
  simp only [eX6_now_0, eX6_now_1, eX6_now_2, eX6_now_3, eX6_now_32, eX6_now_33, eX6_now_36, eX6_now_37, eX6_now_38, eX6_now_39, eX6_now_40, eX6_now_42, eX6_now_43, eX6_now_46, eX6_now_47, eX6_now_48, eX6_now_51, eX6_now_52, eX6_now_53, eX6_now_54, eX6_now_57, eX6_now_60, eX6_now_61, eX6_now_64, eX6_now_65, eX6_now_66, eX6_now_67, eX6_now_70, eX6_now_73, eX6_now_74, eX6_now_75, eX6_now_76, eX6_now_78, eX6_now_79, eX6_now_82, eX6_now_83, eX6_now_84, eX6_now_87, eX6_now_88, eX6_now_89, eX6_now_90, eX6_now_91, eX6_now_94, eX6_now_97, eX6_now_98, eX6_now_101, eX6_now_102, eX6_now_103, eX6_now_104, eX6_now_107, eX6_now_110, eX6_now_111, eX6_now_112, eX6_now_113, eX6_now_115, eX6_now_116, eX6_now_119, eX6_now_120, eX6_now_121, eX6_now_124, eX6_now_125, eX6_now_126, eX6_now_127, eX6_now_128, eX6_now_131, eX6_now_132, eX6_now_133, eX6_now_136, eX6_now_139, eX6_now_140, eX6_now_141, eX6_now_142, eX6_now_144, eX6_now_147, kl_i, kl_r, kl_n, kl_l, true_and, and_true, true_implies, false_implies, not_true_eq_false, not_false_eq_true, i10, Classical.not_not, pf0, pf1, pf2, pf3, pf4, pf5, pf6, mf0, mf1, mf2, mf3, mf4, mf5, mf6, rX6_finds, rX6_now, mX6_now, Option.some.injEq, Value.int.injEq, ok_m0, rf_m0, ai_mr0, rd_mr0, v182_0, N_0]
  refine ⟨fun c => lfq (by rw [oNow, if_pos c]; rfl), fun c => ⟨fun d => ?_, fun d => ⟨fun f => ?_, fun f => ⟨fun g => ?_, fun g => lf0 (by rw [oNow, if_neg c, if_neg d, if_neg f, if_neg g])⟩⟩⟩⟩
  · have eo : oNow (R6 u) k = .inr (sitN (R6 u) K, R6 u) := by rw [oNow, if_neg c, if_pos d, eN]
    rw [eo, an_r, mo_r, pv6]
    have key : ∀ (n i : Nat), i + n = K → GX6_now w (fun r u' => r = some (.int (sitN (R6 u) K)) ∧ u' = u) 41 [some (.ref (mA w)), some (.int k), some (.int (sitN (R6 u) i)), some (.int (nI i))] [] u := by
      intro n
      induction n with
      | zero =>
        intro i hi
        have e3 : i = K := by omega
        subst e3
        rw [eX6_now_41]
        simp only [eX6_now_0, eX6_now_1, eX6_now_2, eX6_now_3, eX6_now_32, eX6_now_33, eX6_now_36, eX6_now_37, eX6_now_38, eX6_now_39, eX6_now_40, eX6_now_42, eX6_now_43, eX6_now_46, eX6_now_47, eX6_now_48, eX6_now_51, eX6_now_52, eX6_now_53, eX6_now_54, eX6_now_57, eX6_now_60, eX6_now_61, eX6_now_64, eX6_now_65, eX6_now_66, eX6_now_67, eX6_now_70, eX6_now_73, eX6_now_74, eX6_now_75, eX6_now_76, eX6_now_78, eX6_now_79, eX6_now_82, eX6_now_83, eX6_now_84, eX6_now_87, eX6_now_88, eX6_now_89, eX6_now_90, eX6_now_91, eX6_now_94, eX6_now_97, eX6_now_98, eX6_now_101, eX6_now_102, eX6_now_103, eX6_now_104, eX6_now_107, eX6_now_110, eX6_now_111, eX6_now_112, eX6_now_113, eX6_now_115, eX6_now_116, eX6_now_119, eX6_now_120, eX6_now_121, eX6_now_124, eX6_now_125, eX6_now_126, eX6_now_127, eX6_now_128, eX6_now_131, eX6_now_132, eX6_now_133, eX6_now_136, eX6_now_139, eX6_now_140, eX6_now_141, eX6_now_142, eX6_now_144, eX6_now_147, kl_i, kl_r, kl_n, kl_l, true_and, and_true, true_implies, false_implies, not_true_eq_false, not_false_eq_true, i10, Classical.not_not, ok_m0, rf_m0, ai_mr0, rd_mr0, v182_2, N_2, e2]
        exact ⟨fun _ => trivial, fun z => absurd (nI_le (Nat.le_refl i) (by omega)) z⟩
      | succ n ih =>
        intro i hi
        have hlt : ¬ nI K ≤ nI i := nI_ge (by omega) (by omega)
        have hv : vp_in (nI i) 10 := vi_nI (by omega)
        have hN : NN (nI i) = i := NN_nI (by omega)
        have go : ∀ x : Int32, x = sitN (R6 u) (i + 1) → GX6_now w (fun r u' => r = some (.int (sitN (R6 u) K)) ∧ u' = u) 41 [some (.ref (mA w)), some (.int k), some (.int x), some (.int (nI i + 1))] [] u := fun x hx => by rw [hx, nI_1]; exact ih (i + 1) (by omega)
        rw [eX6_now_41]
        simp only [eX6_now_0, eX6_now_1, eX6_now_2, eX6_now_3, eX6_now_32, eX6_now_33, eX6_now_36, eX6_now_37, eX6_now_38, eX6_now_39, eX6_now_40, eX6_now_42, eX6_now_43, eX6_now_46, eX6_now_47, eX6_now_48, eX6_now_51, eX6_now_52, eX6_now_53, eX6_now_54, eX6_now_57, eX6_now_60, eX6_now_61, eX6_now_64, eX6_now_65, eX6_now_66, eX6_now_67, eX6_now_70, eX6_now_73, eX6_now_74, eX6_now_75, eX6_now_76, eX6_now_78, eX6_now_79, eX6_now_82, eX6_now_83, eX6_now_84, eX6_now_87, eX6_now_88, eX6_now_89, eX6_now_90, eX6_now_91, eX6_now_94, eX6_now_97, eX6_now_98, eX6_now_101, eX6_now_102, eX6_now_103, eX6_now_104, eX6_now_107, eX6_now_110, eX6_now_111, eX6_now_112, eX6_now_113, eX6_now_115, eX6_now_116, eX6_now_119, eX6_now_120, eX6_now_121, eX6_now_124, eX6_now_125, eX6_now_126, eX6_now_127, eX6_now_128, eX6_now_131, eX6_now_132, eX6_now_133, eX6_now_136, eX6_now_139, eX6_now_140, eX6_now_141, eX6_now_142, eX6_now_144, eX6_now_147, kl_i, kl_r, kl_n, kl_l, true_and, and_true, true_implies, false_implies, not_true_eq_false, not_false_eq_true, i10, Classical.not_not, ok_m0, rf_m0, ai_mr0, rd_mr0, v182_2, pOne, mX6_sets, mX6_setsChair, pX6_sets, pX6_setsChair, pX6_chair, pX6_man, pX6_its, RW_pv, pv_pv, B6_pv, atOk_pv, N_0, N_1, N_2, N_3, N_4, N_5, N_6, v7_0, v7_1, v7_2, v7_3, v7_4, v7_5, v7_6, v3_0, v3_1, v3_2, ch0, ch1, ch2, man0, man1, man2, man3, man4, man5, man6, its0, its1, its2, e2, hlt, ha, hv, hN, pX6_stands, rX6_stands, bi_0, RW6 h0]
        refine ⟨fun c => go _ ?_, fun c => go _ ?_⟩
        · rw [sitN, if_neg c]
        · rw [sitN, if_pos c]
    exact key K 0 (by omega)
  · have eo : oNow (R6 u) k = .inr (emptyN (R6 u) M, R6 u) := by rw [oNow, if_neg c, if_neg d, if_pos f, eNM]
    rw [eo, an_r, mo_r, pv6]
    have key : ∀ (n i : Nat), i + n = M → GX6_now w (fun r u' => r = some (.int (emptyN (R6 u) M)) ∧ u' = u) 77 [some (.ref (mA w)), some (.int k), some (.int (emptyN (R6 u) i)), some (.int (nI i))] [] u := by
      intro n
      induction n with
      | zero =>
        intro i hi
        have e3 : i = M := by omega
        subst e3
        rw [eX6_now_77]
        simp only [eX6_now_0, eX6_now_1, eX6_now_2, eX6_now_3, eX6_now_32, eX6_now_33, eX6_now_36, eX6_now_37, eX6_now_38, eX6_now_39, eX6_now_40, eX6_now_42, eX6_now_43, eX6_now_46, eX6_now_47, eX6_now_48, eX6_now_51, eX6_now_52, eX6_now_53, eX6_now_54, eX6_now_57, eX6_now_60, eX6_now_61, eX6_now_64, eX6_now_65, eX6_now_66, eX6_now_67, eX6_now_70, eX6_now_73, eX6_now_74, eX6_now_75, eX6_now_76, eX6_now_78, eX6_now_79, eX6_now_82, eX6_now_83, eX6_now_84, eX6_now_87, eX6_now_88, eX6_now_89, eX6_now_90, eX6_now_91, eX6_now_94, eX6_now_97, eX6_now_98, eX6_now_101, eX6_now_102, eX6_now_103, eX6_now_104, eX6_now_107, eX6_now_110, eX6_now_111, eX6_now_112, eX6_now_113, eX6_now_115, eX6_now_116, eX6_now_119, eX6_now_120, eX6_now_121, eX6_now_124, eX6_now_125, eX6_now_126, eX6_now_127, eX6_now_128, eX6_now_131, eX6_now_132, eX6_now_133, eX6_now_136, eX6_now_139, eX6_now_140, eX6_now_141, eX6_now_142, eX6_now_144, eX6_now_147, kl_i, kl_r, kl_n, kl_l, true_and, and_true, true_implies, false_implies, not_true_eq_false, not_false_eq_true, i10, Classical.not_not, ok_m0, rf_m0, ai_mr0, rd_mr0, v182_1, N_1, e1]
        exact ⟨fun _ => trivial, fun z => absurd (nI_le (Nat.le_refl i) (by omega)) z⟩
      | succ n ih =>
        intro i hi
        have hlt : ¬ nI M ≤ nI i := nI_ge (by omega) (by omega)
        have hv : vp_in (nI i) 6 := vi_nI (by omega)
        have hN : NN (nI i) = i := NN_nI (by omega)
        have go : ∀ x : Int32, x = emptyN (R6 u) (i + 1) → GX6_now w (fun r u' => r = some (.int (emptyN (R6 u) M)) ∧ u' = u) 77 [some (.ref (mA w)), some (.int k), some (.int x), some (.int (nI i + 1))] [] u := fun x hx => by rw [hx, nI_1]; exact ih (i + 1) (by omega)
        rw [eX6_now_77]
        simp only [eX6_now_0, eX6_now_1, eX6_now_2, eX6_now_3, eX6_now_32, eX6_now_33, eX6_now_36, eX6_now_37, eX6_now_38, eX6_now_39, eX6_now_40, eX6_now_42, eX6_now_43, eX6_now_46, eX6_now_47, eX6_now_48, eX6_now_51, eX6_now_52, eX6_now_53, eX6_now_54, eX6_now_57, eX6_now_60, eX6_now_61, eX6_now_64, eX6_now_65, eX6_now_66, eX6_now_67, eX6_now_70, eX6_now_73, eX6_now_74, eX6_now_75, eX6_now_76, eX6_now_78, eX6_now_79, eX6_now_82, eX6_now_83, eX6_now_84, eX6_now_87, eX6_now_88, eX6_now_89, eX6_now_90, eX6_now_91, eX6_now_94, eX6_now_97, eX6_now_98, eX6_now_101, eX6_now_102, eX6_now_103, eX6_now_104, eX6_now_107, eX6_now_110, eX6_now_111, eX6_now_112, eX6_now_113, eX6_now_115, eX6_now_116, eX6_now_119, eX6_now_120, eX6_now_121, eX6_now_124, eX6_now_125, eX6_now_126, eX6_now_127, eX6_now_128, eX6_now_131, eX6_now_132, eX6_now_133, eX6_now_136, eX6_now_139, eX6_now_140, eX6_now_141, eX6_now_142, eX6_now_144, eX6_now_147, kl_i, kl_r, kl_n, kl_l, true_and, and_true, true_implies, false_implies, not_true_eq_false, not_false_eq_true, i10, Classical.not_not, ok_m0, rf_m0, ai_mr0, rd_mr0, v182_1, pOne, mX6_sets, mX6_setsChair, pX6_sets, pX6_setsChair, pX6_chair, pX6_man, pX6_its, RW_pv, pv_pv, B6_pv, atOk_pv, N_0, N_1, N_2, N_3, N_4, N_5, N_6, v7_0, v7_1, v7_2, v7_3, v7_4, v7_5, v7_6, v3_0, v3_1, v3_2, ch0, ch1, ch2, man0, man1, man2, man3, man4, man5, man6, its0, its1, its2, e1, hlt, ha, hv, hN, RW6 h0]
        refine ⟨fun c => go _ ?_, fun c => go _ ?_⟩
        · rw [emptyN, if_neg (Int32.not_lt.mpr c)]
        · rw [emptyN, if_pos (Int32.not_le.mp c)]
    exact key M 0 (by omega)
  · have eo : oNow (R6 u) k = .inr (coinN (R6 u) K, R6 u) := by rw [oNow, if_neg c, if_neg d, if_neg f, if_pos g, eN]
    rw [eo, an_r, mo_r, pv6]
    have key : ∀ (n i : Nat), i + n = K → GX6_now w (fun r u' => r = some (.int (coinN (R6 u) K)) ∧ u' = u) 114 [some (.ref (mA w)), some (.int k), some (.int (coinN (R6 u) i)), some (.int (nI i))] [] u := by
      intro n
      induction n with
      | zero =>
        intro i hi
        have e3 : i = K := by omega
        subst e3
        rw [eX6_now_114]
        simp only [eX6_now_0, eX6_now_1, eX6_now_2, eX6_now_3, eX6_now_32, eX6_now_33, eX6_now_36, eX6_now_37, eX6_now_38, eX6_now_39, eX6_now_40, eX6_now_42, eX6_now_43, eX6_now_46, eX6_now_47, eX6_now_48, eX6_now_51, eX6_now_52, eX6_now_53, eX6_now_54, eX6_now_57, eX6_now_60, eX6_now_61, eX6_now_64, eX6_now_65, eX6_now_66, eX6_now_67, eX6_now_70, eX6_now_73, eX6_now_74, eX6_now_75, eX6_now_76, eX6_now_78, eX6_now_79, eX6_now_82, eX6_now_83, eX6_now_84, eX6_now_87, eX6_now_88, eX6_now_89, eX6_now_90, eX6_now_91, eX6_now_94, eX6_now_97, eX6_now_98, eX6_now_101, eX6_now_102, eX6_now_103, eX6_now_104, eX6_now_107, eX6_now_110, eX6_now_111, eX6_now_112, eX6_now_113, eX6_now_115, eX6_now_116, eX6_now_119, eX6_now_120, eX6_now_121, eX6_now_124, eX6_now_125, eX6_now_126, eX6_now_127, eX6_now_128, eX6_now_131, eX6_now_132, eX6_now_133, eX6_now_136, eX6_now_139, eX6_now_140, eX6_now_141, eX6_now_142, eX6_now_144, eX6_now_147, kl_i, kl_r, kl_n, kl_l, true_and, and_true, true_implies, false_implies, not_true_eq_false, not_false_eq_true, i10, Classical.not_not, ok_m0, rf_m0, ai_mr0, rd_mr0, v182_2, N_2, e2]
        exact ⟨fun _ => trivial, fun z => absurd (nI_le (Nat.le_refl i) (by omega)) z⟩
      | succ n ih =>
        intro i hi
        have hlt : ¬ nI K ≤ nI i := nI_ge (by omega) (by omega)
        have hv : vp_in (nI i) 10 := vi_nI (by omega)
        have hN : NN (nI i) = i := NN_nI (by omega)
        rw [eX6_now_114]
        simp only [eX6_now_0, eX6_now_1, eX6_now_2, eX6_now_3, eX6_now_32, eX6_now_33, eX6_now_36, eX6_now_37, eX6_now_38, eX6_now_39, eX6_now_40, eX6_now_42, eX6_now_43, eX6_now_46, eX6_now_47, eX6_now_48, eX6_now_51, eX6_now_52, eX6_now_53, eX6_now_54, eX6_now_57, eX6_now_60, eX6_now_61, eX6_now_64, eX6_now_65, eX6_now_66, eX6_now_67, eX6_now_70, eX6_now_73, eX6_now_74, eX6_now_75, eX6_now_76, eX6_now_78, eX6_now_79, eX6_now_82, eX6_now_83, eX6_now_84, eX6_now_87, eX6_now_88, eX6_now_89, eX6_now_90, eX6_now_91, eX6_now_94, eX6_now_97, eX6_now_98, eX6_now_101, eX6_now_102, eX6_now_103, eX6_now_104, eX6_now_107, eX6_now_110, eX6_now_111, eX6_now_112, eX6_now_113, eX6_now_115, eX6_now_116, eX6_now_119, eX6_now_120, eX6_now_121, eX6_now_124, eX6_now_125, eX6_now_126, eX6_now_127, eX6_now_128, eX6_now_131, eX6_now_132, eX6_now_133, eX6_now_136, eX6_now_139, eX6_now_140, eX6_now_141, eX6_now_142, eX6_now_144, eX6_now_147, kl_i, kl_r, kl_n, kl_l, true_and, and_true, true_implies, false_implies, not_true_eq_false, not_false_eq_true, i10, Classical.not_not, ok_m0, rf_m0, ai_mr0, rd_mr0, v182_2, pOne, mX6_sets, mX6_setsChair, pX6_sets, pX6_setsChair, pX6_chair, pX6_man, pX6_its, RW_pv, pv_pv, B6_pv, atOk_pv, N_0, N_1, N_2, N_3, N_4, N_5, N_6, v7_0, v7_1, v7_2, v7_3, v7_4, v7_5, v7_6, v3_0, v3_1, v3_2, ch0, ch1, ch2, man0, man1, man2, man3, man4, man5, man6, its0, its1, its2, e2, hlt, ha, hv, hN, RW6 h0]
        rw [nI_1]
        exact ih (i + 1) (by omega)
    exact key K 0 (by omega)
set_option maxRecDepth 20000 in
theorem KX6_now_ok (w : WW) : KOk w MX6_now (KX6_now w) := KOk_mk flX6_ok ciX6_ok clX6_ok (fun _ _ h => by cases h) (fun _ _ h => by cases h) (List.forall_mem_cons.mpr ⟨itV (n := 54) (by decide) (COk_V (n := 2) (ci := 6) (ctX6_man w) wcX6_54 nmX6_man (by decide) (by decide) rfl (prX6_man w)), List.forall_mem_cons.mpr ⟨itV (n := 64) (by decide) (COk_V (n := 1) (ci := 6) (ctX6_stands w) wcX6_64 nmX6_stands (by decide) (by decide) rfl (prX6_stands w)), List.forall_mem_cons.mpr ⟨itV (n := 71) (by decide) (COk_V (n := 2) (ci := 6) (ctX6_chair w) wcX6_71 nmX6_chair (by decide) (by decide) rfl (prX6_chair w)), List.forall_mem_cons.mpr ⟨itV (n := 87) (by decide) (COk_V (n := 1) (ci := 6) (ctX6_finds w) wcX6_87 nmX6_finds (by decide) (by decide) rfl (prX6_finds w)), List.forall_mem_nil _⟩⟩⟩⟩)
theorem ctX6_now (w : WW) : CT w yX6_now MX6_now (csX6_now w).2.1 (csX6_now w).2.2 := by
  refine CT_of (by decide) rfl TX6_now_ok TX6_now_v (KX6_now_ok w) (fun as u h => ?_)
  obtain ⟨a0, a1, rfl, h⟩ := sgRI h
  obtain ⟨rfl, hh⟩ := h
  refine ⟨Nat.le_of_ble_eq_true rfl, ?_⟩
  have key := vX6_now w a1 u hh
  exact key
theorem prX6_now (w : WW) : ∀ as u, (csX6_now w).2.1 as u → ∃ a r, as = .ref a :: r ∧ r.length = 1 ∧ okO w a 6 := by
  intro as u h
  obtain ⟨a0, a1, rfl, h⟩ := sgRI h
  exact ⟨_, _, rfl, rfl, okO_m h⟩
theorem le100 : ∀ i : Nat, i < 100 → ¬ (100 : Int32) ≤ nI i := fun i hi => nI_ge (a := i) (b := 100) hi (by decide)
theorem h100 : (100 : Int32) ≤ nI 100 := by decide
theorem vX6_spots (w : WW) : VX6_spots w := by
  intro c s u h
  have h0 := h.1
  have ha : atOk u := Or.inl h0
  have hk : crtOk (R6 u) := h.2.crt
  simp only [eX6_spots_0, eX6_spots_1, eX6_spots_2, eX6_spots_5, eX6_spots_8, eX6_spots_9, eX6_spots_10, eX6_spots_13, eX6_spots_16, eX6_spots_17, eX6_spots_19, eX6_spots_22, eX6_spots_23, eX6_spots_24, eX6_spots_25, eX6_spots_28, eX6_spots_31, eX6_spots_32, eX6_spots_34, eX6_spots_37, eX6_spots_38, eX6_spots_39, eX6_spots_40, eX6_spots_41, eX6_spots_45, eX6_spots_47, eX6_spots_50, eX6_spots_51, eX6_spots_52, eX6_spots_53, eX6_spots_55, eX6_spots_56, eX6_spots_59, eX6_spots_62, eX6_spots_63, eX6_spots_66, eX6_spots_67, eX6_spots_68, eX6_spots_69, eX6_spots_72, eX6_spots_75, eX6_spots_76, kl_i, kl_r, kl_n, kl_l, true_and, and_true, true_implies, false_implies, not_true_eq_false, not_false_eq_true, i10, Classical.not_not, pOne, mX6_sets, mX6_setsChair, pX6_sets, pX6_setsChair, pX6_chair, pX6_man, pX6_its, RW_pv, pv_pv, B6_pv, atOk_pv, N_0, N_1, N_2, N_3, N_4, N_5, N_6, v7_0, v7_1, v7_2, v7_3, v7_4, v7_5, v7_6, v3_0, v3_1, v3_2, ch0, ch1, ch2, man0, man1, man2, man3, man4, man5, man6, its0, its1, its2, pX6_isSeat, rX6_isSeat, pX6_isOne, rX6_isOne, pX6_waits, rX6_waits, bi_0, pf0, pf1, pf2, pf3, pf4, pf5, pf6, mf0, mf1, mf2, mf3, mf4, mf5, mf6, rX6_finds, h0, RW6 h0, ha, rX6_spots, mX6_spots, Option.some.injEq, Value.int.injEq]
  refine ⟨fun c1 => lf0 (by rw [oSpots, if_pos (fun z => c1 z.1)]), fun c1 => ⟨fun c2 => ?_, fun c2 => lf0 (by rw [oSpots, if_pos (fun z => c2 z.2)])⟩⟩
  have hc : vp_in c 10 := vi_mono ((isOn_vi h.2).mp c1) h.2.K.1
  have hs : vp_in s 6 := vi_mono ((isSt_vi h.2).mp c2) h.2.M.1
  refine ⟨hc, fun c3 => ?_, fun c3 => lf4 (by rw [oSpots, if_neg (fun z => z ⟨c1, c2⟩), if_pos c3])⟩
  have eo : oSpots (R6 u) c s = .inr (spotN (R6 u) (NN c) (NN s) 100, R6 u) := by rw [oSpots, if_neg (fun z => z ⟨c1, c2⟩), if_neg (fun z => z c3)]
  rw [eo, an_r, mo_r, pv6]
  have key : ∀ (n i : Nat), i + n = 100 → GX6_spots w (fun r u' => r = some (.int (spotN (R6 u) (NN c) (NN s) 100)) ∧ u' = u) 43 [some (.ref (mA w)), some (.int c), some (.int s), some (.int (spotN (R6 u) (NN c) (NN s) i)), some (.int (nI i))] [] u := by
    intro n
    induction n with
    | zero =>
      intro i hi
      have e3 : i = 100 := by omega
      subst e3
      rw [eX6_spots_43]
      simp only [eX6_spots_0, eX6_spots_1, eX6_spots_2, eX6_spots_5, eX6_spots_8, eX6_spots_9, eX6_spots_10, eX6_spots_13, eX6_spots_16, eX6_spots_17, eX6_spots_19, eX6_spots_22, eX6_spots_23, eX6_spots_24, eX6_spots_25, eX6_spots_28, eX6_spots_31, eX6_spots_32, eX6_spots_34, eX6_spots_37, eX6_spots_38, eX6_spots_39, eX6_spots_40, eX6_spots_41, eX6_spots_45, eX6_spots_47, eX6_spots_50, eX6_spots_51, eX6_spots_52, eX6_spots_53, eX6_spots_55, eX6_spots_56, eX6_spots_59, eX6_spots_62, eX6_spots_63, eX6_spots_66, eX6_spots_67, eX6_spots_68, eX6_spots_69, eX6_spots_72, eX6_spots_75, eX6_spots_76, kl_i, kl_r, kl_n, kl_l, true_and, and_true, true_implies, false_implies, not_true_eq_false, not_false_eq_true, i10, Classical.not_not, h100]
    | succ n ih =>
      intro i hi
      have hlt := le100 i (by omega)
      have go : ∀ x : Int32, x = spotN (R6 u) (NN c) (NN s) (i + 1) → GX6_spots w (fun r u' => r = some (.int (spotN (R6 u) (NN c) (NN s) 100)) ∧ u' = u) 43 [some (.ref (mA w)), some (.int c), some (.int s), some (.int x), some (.int (nI i + 1))] [] u := fun x hx => by rw [hx, nI_1]; exact ih (i + 1) (by omega)
      rw [eX6_spots_43]
      simp only [eX6_spots_0, eX6_spots_1, eX6_spots_2, eX6_spots_5, eX6_spots_8, eX6_spots_9, eX6_spots_10, eX6_spots_13, eX6_spots_16, eX6_spots_17, eX6_spots_19, eX6_spots_22, eX6_spots_23, eX6_spots_24, eX6_spots_25, eX6_spots_28, eX6_spots_31, eX6_spots_32, eX6_spots_34, eX6_spots_37, eX6_spots_38, eX6_spots_39, eX6_spots_40, eX6_spots_41, eX6_spots_45, eX6_spots_47, eX6_spots_50, eX6_spots_51, eX6_spots_52, eX6_spots_53, eX6_spots_55, eX6_spots_56, eX6_spots_59, eX6_spots_62, eX6_spots_63, eX6_spots_66, eX6_spots_67, eX6_spots_68, eX6_spots_69, eX6_spots_72, eX6_spots_75, eX6_spots_76, kl_i, kl_r, kl_n, kl_l, true_and, and_true, true_implies, false_implies, not_true_eq_false, not_false_eq_true, i10, Classical.not_not, hlt, ha, hc, hs, hk, pX6_wouldBe, rX6_wouldBe, bi_0, RW6 h0]
      refine ⟨fun c => go _ ?_, fun c => go _ ?_⟩
      · rw [spotN, if_neg c]
      · rw [spotN, if_pos c]
  exact key 100 0 (by omega)
theorem wcX6_161 : ∀ x ∈ wV1 RX6 161 yX6_waits MX6_waits, x ∈ Gt := by decide +kernel
theorem nmX6_waits : nmOk yX6_waits 1 = true := by decide +kernel
set_option maxRecDepth 20000 in
theorem KX6_spots_ok (w : WW) : KOk w MX6_spots (KX6_spots w) := KOk_mk flX6_ok ciX6_ok clX6_ok (fun _ _ h => by cases h) (fun _ _ h => by cases h) (List.forall_mem_cons.mpr ⟨itV (n := 87) (by decide) (COk_V (n := 1) (ci := 6) (ctX6_finds w) wcX6_87 nmX6_finds (by decide) (by decide) rfl (prX6_finds w)), List.forall_mem_cons.mpr ⟨itV (n := 99) (by decide) (COk_V (n := 1) (ci := 6) (ctX6_isSeat w) wcX6_99 nmX6_isSeat (by decide) (by decide) rfl (prX6_isSeat w)), List.forall_mem_cons.mpr ⟨itV (n := 115) (by decide) (COk_V (n := 1) (ci := 6) (ctX6_isOne w) wcX6_115 nmX6_isOne (by decide) (by decide) rfl (prX6_isOne w)), List.forall_mem_cons.mpr ⟨itV (n := 161) (by decide) (COk_V (n := 1) (ci := 6) (ctX6_waits w) wcX6_161 nmX6_waits (by decide) (by decide) rfl (prX6_waits w)), List.forall_mem_cons.mpr ⟨itV (n := 164) (by decide) (COk_V (n := 3) (ci := 6) (ctX6_wouldBe w) wcX6_164 nmX6_wouldBe (by decide) (by decide) rfl (prX6_wouldBe w)), List.forall_mem_nil _⟩⟩⟩⟩⟩)
theorem ctX6_spots (w : WW) : CT w yX6_spots MX6_spots (csX6_spots w).2.1 (csX6_spots w).2.2 := by
  refine CT_of (by decide) rfl TX6_spots_ok TX6_spots_v (KX6_spots_ok w) (fun as u h => ?_)
  obtain ⟨a0, a1, a2, rfl, h⟩ := sgRII h
  obtain ⟨rfl, hh⟩ := h
  refine ⟨Nat.le_of_ble_eq_true rfl, ?_⟩
  have key := vX6_spots w a1 a2 u hh
  exact key
theorem prX6_spots (w : WW) : ∀ as u, (csX6_spots w).2.1 as u → ∃ a r, as = .ref a :: r ∧ r.length = 2 ∧ okO w a 6 := by
  intro as u h
  obtain ⟨a0, a1, a2, rfl, h⟩ := sgRII h
  exact ⟨_, _, rfl, rfl, okO_m h⟩
theorem vX6_nearest (w : WW) : VX6_nearest w := by
  intro c s u h
  have h0 := h.1
  have ha : atOk u := Or.inl h0
  have hk : crtOk (R6 u) := h.2.crt
  simp only [eX6_nearest_0, eX6_nearest_1, eX6_nearest_2, eX6_nearest_5, eX6_nearest_8, eX6_nearest_9, eX6_nearest_10, eX6_nearest_13, eX6_nearest_16, eX6_nearest_17, eX6_nearest_19, eX6_nearest_22, eX6_nearest_23, eX6_nearest_24, eX6_nearest_25, eX6_nearest_28, eX6_nearest_31, eX6_nearest_32, eX6_nearest_34, eX6_nearest_37, eX6_nearest_38, eX6_nearest_39, eX6_nearest_40, eX6_nearest_41, eX6_nearest_44, eX6_nearest_45, eX6_nearest_46, eX6_nearest_48, eX6_nearest_49, eX6_nearest_53, eX6_nearest_55, eX6_nearest_58, eX6_nearest_59, eX6_nearest_60, eX6_nearest_62, eX6_nearest_63, eX6_nearest_66, eX6_nearest_69, eX6_nearest_71, eX6_nearest_74, eX6_nearest_75, eX6_nearest_77, eX6_nearest_80, eX6_nearest_81, eX6_nearest_83, eX6_nearest_86, eX6_nearest_89, eX6_nearest_91, eX6_nearest_94, eX6_nearest_96, eX6_nearest_98, eX6_nearest_101, eX6_nearest_104, eX6_nearest_106, eX6_nearest_109, eX6_nearest_110, eX6_nearest_112, eX6_nearest_115, eX6_nearest_118, eX6_nearest_120, kl_i, kl_r, kl_n, kl_l, true_and, and_true, true_implies, false_implies, not_true_eq_false, not_false_eq_true, i10, Classical.not_not, pOne, mX6_sets, mX6_setsChair, pX6_sets, pX6_setsChair, pX6_chair, pX6_man, pX6_its, RW_pv, pv_pv, B6_pv, atOk_pv, N_0, N_1, N_2, N_3, N_4, N_5, N_6, v7_0, v7_1, v7_2, v7_3, v7_4, v7_5, v7_6, v3_0, v3_1, v3_2, ch0, ch1, ch2, man0, man1, man2, man3, man4, man5, man6, its0, its1, its2, pX6_isSeat, rX6_isSeat, pX6_isOne, rX6_isOne, pX6_waits, rX6_waits, bi_0, pf0, pf1, pf2, pf3, pf4, pf5, pf6, mf0, mf1, mf2, mf3, mf4, mf5, mf6, rX6_finds, h0, RW6 h0, ha, rX6_nearest, mX6_nearest, Option.some.injEq, Value.int.injEq]
  refine ⟨fun c1 => lf0 (by rw [oNearest, if_pos (fun z => c1 z.1)]), fun c1 => ⟨fun c2 => ?_, fun c2 => lf0 (by rw [oNearest, if_pos (fun z => c2 z.2)])⟩⟩
  have hc : vp_in c 10 := vi_mono ((isOn_vi h.2).mp c1) h.2.K.1
  have hs : vp_in s 6 := vi_mono ((isSt_vi h.2).mp c2) h.2.M.1
  refine ⟨hc, fun c3 => ⟨hc, ?_⟩, fun c3 => lf4 (by rw [oNearest, if_neg (fun z => z ⟨c1, c2⟩), if_pos c3])⟩
  have eo : oNearest (R6 u) c s = if nearN (R6 u) (NN c) (NN s) 100 < 0 then .inl 3 else .inr (nearN (R6 u) (NN c) (NN s) 100, R6 u) := by rw [oNearest, if_neg (fun z => z ⟨c1, c2⟩), if_neg (fun z => z c3)]
  have key : ∀ (n i : Nat), i + n = 100 → GX6_nearest w (fun r u' => r = some (.int (an (oNearest (R6 u) c s))) ∧ u' = mo6 (oNearest (R6 u) c s) u) 51 [some (.ref (mA w)), some (.int c), some (.int s), some (.int (on (R6 u) (NN c) 1)), some (.int (nearN (R6 u) (NN c) (NN s) i)), some (.int (nI i))] [] u := by
    intro n
    induction n with
    | zero =>
      intro i hi
      have e3 : i = 100 := by omega
      subst e3
      rw [eX6_nearest_51]
      simp only [eX6_nearest_0, eX6_nearest_1, eX6_nearest_2, eX6_nearest_5, eX6_nearest_8, eX6_nearest_9, eX6_nearest_10, eX6_nearest_13, eX6_nearest_16, eX6_nearest_17, eX6_nearest_19, eX6_nearest_22, eX6_nearest_23, eX6_nearest_24, eX6_nearest_25, eX6_nearest_28, eX6_nearest_31, eX6_nearest_32, eX6_nearest_34, eX6_nearest_37, eX6_nearest_38, eX6_nearest_39, eX6_nearest_40, eX6_nearest_41, eX6_nearest_44, eX6_nearest_45, eX6_nearest_46, eX6_nearest_48, eX6_nearest_49, eX6_nearest_53, eX6_nearest_55, eX6_nearest_58, eX6_nearest_59, eX6_nearest_60, eX6_nearest_62, eX6_nearest_63, eX6_nearest_66, eX6_nearest_69, eX6_nearest_71, eX6_nearest_74, eX6_nearest_75, eX6_nearest_77, eX6_nearest_80, eX6_nearest_81, eX6_nearest_83, eX6_nearest_86, eX6_nearest_89, eX6_nearest_91, eX6_nearest_94, eX6_nearest_96, eX6_nearest_98, eX6_nearest_101, eX6_nearest_104, eX6_nearest_106, eX6_nearest_109, eX6_nearest_110, eX6_nearest_112, eX6_nearest_115, eX6_nearest_118, eX6_nearest_120, kl_i, kl_r, kl_n, kl_l, true_and, and_true, true_implies, false_implies, not_true_eq_false, not_false_eq_true, i10, Classical.not_not, h100, pf0, pf1, pf2, pf3, pf4, pf5, pf6, mf0, mf1, mf2, mf3, mf4, mf5, mf6, rX6_finds, Option.some.injEq, Value.int.injEq]
      refine ⟨fun z => lfq ?_, fun z => lf3 ?_⟩
      · rw [eo, if_neg (Int32.not_lt.mpr z)]
      · rw [eo, if_pos (Int32.not_le.mp z)]
    | succ n ih =>
      intro i hi
      have hlt := le100 i (by omega)
      have go : ∀ x : Int32, x = nearN (R6 u) (NN c) (NN s) (i + 1) → GX6_nearest w (fun r u' => r = some (.int (an (oNearest (R6 u) c s))) ∧ u' = mo6 (oNearest (R6 u) c s) u) 51 [some (.ref (mA w)), some (.int c), some (.int s), some (.int (on (R6 u) (NN c) 1)), some (.int x), some (.int (nI i + 1))] [] u := fun x hx => by rw [hx, nI_1]; exact ih (i + 1) (by omega)
      rw [eX6_nearest_51]
      simp only [eX6_nearest_0, eX6_nearest_1, eX6_nearest_2, eX6_nearest_5, eX6_nearest_8, eX6_nearest_9, eX6_nearest_10, eX6_nearest_13, eX6_nearest_16, eX6_nearest_17, eX6_nearest_19, eX6_nearest_22, eX6_nearest_23, eX6_nearest_24, eX6_nearest_25, eX6_nearest_28, eX6_nearest_31, eX6_nearest_32, eX6_nearest_34, eX6_nearest_37, eX6_nearest_38, eX6_nearest_39, eX6_nearest_40, eX6_nearest_41, eX6_nearest_44, eX6_nearest_45, eX6_nearest_46, eX6_nearest_48, eX6_nearest_49, eX6_nearest_53, eX6_nearest_55, eX6_nearest_58, eX6_nearest_59, eX6_nearest_60, eX6_nearest_62, eX6_nearest_63, eX6_nearest_66, eX6_nearest_69, eX6_nearest_71, eX6_nearest_74, eX6_nearest_75, eX6_nearest_77, eX6_nearest_80, eX6_nearest_81, eX6_nearest_83, eX6_nearest_86, eX6_nearest_89, eX6_nearest_91, eX6_nearest_94, eX6_nearest_96, eX6_nearest_98, eX6_nearest_101, eX6_nearest_104, eX6_nearest_106, eX6_nearest_109, eX6_nearest_110, eX6_nearest_112, eX6_nearest_115, eX6_nearest_118, eX6_nearest_120, kl_i, kl_r, kl_n, kl_l, true_and, and_true, true_implies, false_implies, not_true_eq_false, not_false_eq_true, i10, Classical.not_not, hlt, ha, hc, hs, hk, pX6_wouldBe, rX6_wouldBe, bi_0, RW6 h0, pX6_steps, rX6_steps]
      refine ⟨fun c => go _ ?_, fun c => ⟨fun d => go _ ?_, fun d => ⟨fun f => go _ ?_, fun f => go _ ?_⟩⟩⟩
      · rw [nearN, if_neg (fun z => c z.1)]
      · rw [nearN, if_pos ⟨c, Or.inl d⟩]
      · rw [nearN, if_neg (fun z => z.2.elim d (Int32.not_lt.mpr f))]
      · rw [nearN, if_pos ⟨c, Or.inr (Int32.not_le.mp f)⟩]
  exact key 100 0 (by omega)
theorem wcX6_65706 : ∀ x ∈ wS1 RX6 170 yX6_steps MX6_steps, x ∈ Gt := by decide +kernel
theorem nmX6_steps : nmOk yX6_steps 2 = true := by decide +kernel
set_option maxRecDepth 20000 in
theorem KX6_nearest_ok (w : WW) : KOk w MX6_nearest (KX6_nearest w) := KOk_mk flX6_ok ciX6_ok clX6_ok (fun _ _ h => by cases h) (fun _ _ h => by cases h) (List.forall_mem_cons.mpr ⟨itV (n := 54) (by decide) (COk_V (n := 2) (ci := 6) (ctX6_man w) wcX6_54 nmX6_man (by decide) (by decide) rfl (prX6_man w)), List.forall_mem_cons.mpr ⟨itV (n := 87) (by decide) (COk_V (n := 1) (ci := 6) (ctX6_finds w) wcX6_87 nmX6_finds (by decide) (by decide) rfl (prX6_finds w)), List.forall_mem_cons.mpr ⟨itV (n := 99) (by decide) (COk_V (n := 1) (ci := 6) (ctX6_isSeat w) wcX6_99 nmX6_isSeat (by decide) (by decide) rfl (prX6_isSeat w)), List.forall_mem_cons.mpr ⟨itV (n := 115) (by decide) (COk_V (n := 1) (ci := 6) (ctX6_isOne w) wcX6_115 nmX6_isOne (by decide) (by decide) rfl (prX6_isOne w)), List.forall_mem_cons.mpr ⟨itV (n := 161) (by decide) (COk_V (n := 1) (ci := 6) (ctX6_waits w) wcX6_161 nmX6_waits (by decide) (by decide) rfl (prX6_waits w)), List.forall_mem_cons.mpr ⟨itV (n := 164) (by decide) (COk_V (n := 3) (ci := 6) (ctX6_wouldBe w) wcX6_164 nmX6_wouldBe (by decide) (by decide) rfl (prX6_wouldBe w)), List.forall_mem_cons.mpr ⟨itS (n := 170) (COk_S (n := 2) (ctX6_steps w) wcX6_65706 nmX6_steps (by decide)), List.forall_mem_nil _⟩⟩⟩⟩⟩⟩⟩)
theorem ctX6_nearest (w : WW) : CT w yX6_nearest MX6_nearest (csX6_nearest w).2.1 (csX6_nearest w).2.2 := by
  refine CT_of (by decide) rfl TX6_nearest_ok TX6_nearest_v (KX6_nearest_ok w) (fun as u h => ?_)
  obtain ⟨a0, a1, a2, rfl, h⟩ := sgRII h
  obtain ⟨rfl, hh⟩ := h
  refine ⟨Nat.le_of_ble_eq_true rfl, ?_⟩
  have key := vX6_nearest w a1 a2 u hh
  exact key
theorem prX6_nearest (w : WW) : ∀ as u, (csX6_nearest w).2.1 as u → ∃ a r, as = .ref a :: r ∧ r.length = 2 ∧ okO w a 6 := by
  intro as u h
  obtain ⟨a0, a1, a2, rfl, h⟩ := sgRII h
  exact ⟨_, _, rfl, rfl, okO_m h⟩
theorem vX6_place (w : WW) : VX6_place w := by
  intro c p u h
  have h0 := h.1
  have ha : atOk u := Or.inl h0
  have hk : crtOk (R6 u) := h.2.crt
  have hm : mnyOk (R6 u) := h.2.1
  simp only [eX6_place_0, eX6_place_1, eX6_place_2, eX6_place_5, eX6_place_8, eX6_place_9, eX6_place_12, eX6_place_15, eX6_place_16, eX6_place_18, eX6_place_21, eX6_place_22, eX6_place_23, eX6_place_24, eX6_place_27, eX6_place_30, eX6_place_31, eX6_place_32, eX6_place_33, eX6_place_36, eX6_place_39, eX6_place_40, eX6_place_42, eX6_place_45, kl_i, kl_r, kl_n, kl_l, true_and, and_true, true_implies, false_implies, not_true_eq_false, not_false_eq_true, i10, Classical.not_not, pOne, mX6_sets, mX6_setsChair, pX6_sets, pX6_setsChair, pX6_chair, pX6_man, pX6_its, RW_pv, pv_pv, B6_pv, atOk_pv, N_0, N_1, N_2, N_3, N_4, N_5, N_6, v7_0, v7_1, v7_2, v7_3, v7_4, v7_5, v7_6, v3_0, v3_1, v3_2, ch0, ch1, ch2, man0, man1, man2, man3, man4, man5, man6, its0, its1, its2, pX6_isOne, rX6_isOne, pX6_isSpot, rX6_isSpot, pX6_waits, rX6_waits, bi_0, pf0, pf1, pf2, pf3, pf4, pf5, pf6, mf0, mf1, mf2, mf3, mf4, mf5, mf6, rX6_finds, h0, RW6 h0, ha, hk, hm, rX6_place, mX6_place, pX6_worthOf, rX6_worthOf, Option.some.injEq, Value.int.injEq]
  refine ⟨fun c1 => lf0 (by rw [oPlace, if_pos (fun z => c1 z.1)]), fun c1 => ⟨fun c2 => ?_, fun c2 => lf0 (by rw [oPlace, if_pos (fun z => c2 z.2)])⟩⟩
  have hc : vp_in c 10 := vi_mono ((isOn_vi h.2).mp c1) h.2.K.1
  refine ⟨hc, fun c3 => lf4 (by rw [oPlace, if_neg (fun z => z ⟨c1, c2⟩), if_neg c3]), fun c3 => ⟨hc, lfq (by rw [oPlace, if_neg (fun z => z ⟨c1, c2⟩), if_pos c3])⟩⟩
theorem wcX6_173 : ∀ x ∈ wV1 RX6 173 yX6_worthOf MX6_worthOf, x ∈ Gt := by decide +kernel
theorem nmX6_worthOf : nmOk yX6_worthOf 2 = true := by decide +kernel
set_option maxRecDepth 20000 in
theorem KX6_place_ok (w : WW) : KOk w MX6_place (KX6_place w) := KOk_mk flX6_ok ciX6_ok clX6_ok (fun _ _ h => by cases h) (fun _ _ h => by cases h) (List.forall_mem_cons.mpr ⟨itV (n := 87) (by decide) (COk_V (n := 1) (ci := 6) (ctX6_finds w) wcX6_87 nmX6_finds (by decide) (by decide) rfl (prX6_finds w)), List.forall_mem_cons.mpr ⟨itV (n := 115) (by decide) (COk_V (n := 1) (ci := 6) (ctX6_isOne w) wcX6_115 nmX6_isOne (by decide) (by decide) rfl (prX6_isOne w)), List.forall_mem_cons.mpr ⟨itV (n := 161) (by decide) (COk_V (n := 1) (ci := 6) (ctX6_waits w) wcX6_161 nmX6_waits (by decide) (by decide) rfl (prX6_waits w)), List.forall_mem_cons.mpr ⟨itV (n := 173) (by decide) (COk_V (n := 2) (ci := 6) (ctX6_worthOf w) wcX6_173 nmX6_worthOf (by decide) (by decide) rfl (prX6_worthOf w)), List.forall_mem_cons.mpr ⟨itS (n := 81) (COk_S (n := 1) (ctX6_isSpot w) wcX6_65617 nmX6_isSpot (by decide)), List.forall_mem_nil _⟩⟩⟩⟩⟩)
theorem ctX6_place (w : WW) : CT w yX6_place MX6_place (csX6_place w).2.1 (csX6_place w).2.2 := by
  refine CT_of (by decide) rfl TX6_place_ok TX6_place_v (KX6_place_ok w) (fun as u h => ?_)
  obtain ⟨a0, a1, a2, rfl, h⟩ := sgRII h
  obtain ⟨rfl, hh⟩ := h
  refine ⟨Nat.le_of_ble_eq_true rfl, ?_⟩
  have key := vX6_place w a1 a2 u hh
  exact key
theorem prX6_place (w : WW) : ∀ as u, (csX6_place w).2.1 as u → ∃ a r, as = .ref a :: r ∧ r.length = 2 ∧ okO w a 6 := by
  intro as u h
  obtain ⟨a0, a1, a2, rfl, h⟩ := sgRII h
  exact ⟨_, _, rfl, rfl, okO_m h⟩
theorem vX6_best (w : WW) : VX6_best w := by
  intro c u h
  have h0 := h.1
  have ha : atOk u := Or.inl h0
  have hk : crtOk (R6 u) := h.2.crt
  have hm : mnyOk (R6 u) := h.2.1
  simp only [eX6_best_0, eX6_best_1, eX6_best_2, eX6_best_5, eX6_best_8, eX6_best_9, eX6_best_11, eX6_best_14, eX6_best_15, eX6_best_16, eX6_best_17, eX6_best_20, eX6_best_23, eX6_best_24, eX6_best_26, eX6_best_29, eX6_best_30, eX6_best_31, eX6_best_32, eX6_best_33, eX6_best_34, eX6_best_35, eX6_best_39, eX6_best_41, eX6_best_44, eX6_best_45, eX6_best_46, eX6_best_48, eX6_best_51, eX6_best_53, eX6_best_55, eX6_best_56, eX6_best_59, eX6_best_61, eX6_best_64, eX6_best_65, eX6_best_66, eX6_best_68, eX6_best_69, eX6_best_72, eX6_best_74, eX6_best_77, eX6_best_78, eX6_best_79, eX6_best_82, eX6_best_85, eX6_best_86, kl_i, kl_r, kl_n, kl_l, true_and, and_true, true_implies, false_implies, not_true_eq_false, not_false_eq_true, i10, Classical.not_not, pOne, mX6_sets, mX6_setsChair, pX6_sets, pX6_setsChair, pX6_chair, pX6_man, pX6_its, RW_pv, pv_pv, B6_pv, atOk_pv, N_0, N_1, N_2, N_3, N_4, N_5, N_6, v7_0, v7_1, v7_2, v7_3, v7_4, v7_5, v7_6, v3_0, v3_1, v3_2, ch0, ch1, ch2, man0, man1, man2, man3, man4, man5, man6, its0, its1, its2, pX6_isOne, rX6_isOne, pX6_waits, rX6_waits, bi_0, pf0, pf1, pf2, pf3, pf4, pf5, pf6, mf0, mf1, mf2, mf3, mf4, mf5, mf6, rX6_finds, h0, RW6 h0, ha, rX6_best, mX6_best, Option.some.injEq, Value.int.injEq]
  refine ⟨fun c1 => ?_, fun c1 => lf0 (by rw [oBest, if_pos c1])⟩
  have hc : vp_in c 10 := vi_mono ((isOn_vi h.2).mp c1) h.2.K.1
  refine ⟨hc, fun c3 => ?_, fun c3 => lf4 (by rw [oBest, if_neg (fun z => z c1), if_pos c3])⟩
  have eo : oBest (R6 u) c = .inr ((bestN (R6 u) (NN c) 100).1, R6 u) := by rw [oBest, if_neg (fun z => z c1), if_neg (fun z => z c3)]
  rw [eo, an_r, mo_r, pv6]
  have key : ∀ (n i : Nat) (j : Option Value), i + n = 100 → GX6_best w (fun r u' => r = some (.int (bestN (R6 u) (NN c) 100).1) ∧ u' = u) 37 [some (.ref (mA w)), some (.int c), some (.int (bestN (R6 u) (NN c) i).1), some (.int (bestN (R6 u) (NN c) i).2), some (.int (nI i)), j] [] u := by
    intro n
    induction n with
    | zero =>
      intro i j hi
      have e3 : i = 100 := by omega
      subst e3
      rw [eX6_best_37]
      simp only [eX6_best_0, eX6_best_1, eX6_best_2, eX6_best_5, eX6_best_8, eX6_best_9, eX6_best_11, eX6_best_14, eX6_best_15, eX6_best_16, eX6_best_17, eX6_best_20, eX6_best_23, eX6_best_24, eX6_best_26, eX6_best_29, eX6_best_30, eX6_best_31, eX6_best_32, eX6_best_33, eX6_best_34, eX6_best_35, eX6_best_39, eX6_best_41, eX6_best_44, eX6_best_45, eX6_best_46, eX6_best_48, eX6_best_51, eX6_best_53, eX6_best_55, eX6_best_56, eX6_best_59, eX6_best_61, eX6_best_64, eX6_best_65, eX6_best_66, eX6_best_68, eX6_best_69, eX6_best_72, eX6_best_74, eX6_best_77, eX6_best_78, eX6_best_79, eX6_best_82, eX6_best_85, eX6_best_86, kl_i, kl_r, kl_n, kl_l, true_and, and_true, true_implies, false_implies, not_true_eq_false, not_false_eq_true, i10, Classical.not_not, h100]
    | succ n ih =>
      intro i j hi
      have hlt := le100 i (by omega)
      have go : ∀ (x : Int32 × Int32) (j : Option Value), x = bestN (R6 u) (NN c) (i + 1) → GX6_best w (fun r u' => r = some (.int (bestN (R6 u) (NN c) 100).1) ∧ u' = u) 37 [some (.ref (mA w)), some (.int c), some (.int x.1), some (.int x.2), some (.int (nI i + 1)), j] [] u := fun x j hx => by rw [hx, nI_1]; exact ih (i + 1) j (by omega)
      rw [eX6_best_37]
      by_cases q : (bestN (R6 u) (NN c) i).2 < wo (R6 u) (NN c) (nI i) (NN (R6 u 1))
      · have q2 : ¬ wo (R6 u) (NN c) (nI i) (NN (R6 u 1)) ≤ (bestN (R6 u) (NN c) i).2 := Int32.not_le.mpr q
        simp only [eX6_best_0, eX6_best_1, eX6_best_2, eX6_best_5, eX6_best_8, eX6_best_9, eX6_best_11, eX6_best_14, eX6_best_15, eX6_best_16, eX6_best_17, eX6_best_20, eX6_best_23, eX6_best_24, eX6_best_26, eX6_best_29, eX6_best_30, eX6_best_31, eX6_best_32, eX6_best_33, eX6_best_34, eX6_best_35, eX6_best_39, eX6_best_41, eX6_best_44, eX6_best_45, eX6_best_46, eX6_best_48, eX6_best_51, eX6_best_53, eX6_best_55, eX6_best_56, eX6_best_59, eX6_best_61, eX6_best_64, eX6_best_65, eX6_best_66, eX6_best_68, eX6_best_69, eX6_best_72, eX6_best_74, eX6_best_77, eX6_best_78, eX6_best_79, eX6_best_82, eX6_best_85, eX6_best_86, kl_i, kl_r, kl_n, kl_l, true_and, and_true, true_implies, false_implies, not_true_eq_false, not_false_eq_true, i10, Classical.not_not, hlt, ha, hc, hk, hm, pX6_worthOf, rX6_worthOf, bi_0, RW6 h0, h0, q2]
        exact go (nI i, wo (R6 u) (NN c) (nI i) (NN (R6 u 1))) _ (by rw [bestN, if_pos q])
      · have q2 : wo (R6 u) (NN c) (nI i) (NN (R6 u 1)) ≤ (bestN (R6 u) (NN c) i).2 := Int32.not_lt.mp q
        simp only [eX6_best_0, eX6_best_1, eX6_best_2, eX6_best_5, eX6_best_8, eX6_best_9, eX6_best_11, eX6_best_14, eX6_best_15, eX6_best_16, eX6_best_17, eX6_best_20, eX6_best_23, eX6_best_24, eX6_best_26, eX6_best_29, eX6_best_30, eX6_best_31, eX6_best_32, eX6_best_33, eX6_best_34, eX6_best_35, eX6_best_39, eX6_best_41, eX6_best_44, eX6_best_45, eX6_best_46, eX6_best_48, eX6_best_51, eX6_best_53, eX6_best_55, eX6_best_56, eX6_best_59, eX6_best_61, eX6_best_64, eX6_best_65, eX6_best_66, eX6_best_68, eX6_best_69, eX6_best_72, eX6_best_74, eX6_best_77, eX6_best_78, eX6_best_79, eX6_best_82, eX6_best_85, eX6_best_86, kl_i, kl_r, kl_n, kl_l, true_and, and_true, true_implies, false_implies, not_true_eq_false, not_false_eq_true, i10, Classical.not_not, hlt, ha, hc, hk, hm, pX6_worthOf, rX6_worthOf, bi_0, RW6 h0, h0, q2]
        exact go (bestN (R6 u) (NN c) i) _ (by rw [bestN, if_neg q])
  exact key 100 0 _ (by omega)
set_option maxRecDepth 20000 in
theorem KX6_best_ok (w : WW) : KOk w MX6_best (KX6_best w) := KOk_mk flX6_ok ciX6_ok clX6_ok (fun _ _ h => by cases h) (fun _ _ h => by cases h) (List.forall_mem_cons.mpr ⟨itV (n := 87) (by decide) (COk_V (n := 1) (ci := 6) (ctX6_finds w) wcX6_87 nmX6_finds (by decide) (by decide) rfl (prX6_finds w)), List.forall_mem_cons.mpr ⟨itV (n := 115) (by decide) (COk_V (n := 1) (ci := 6) (ctX6_isOne w) wcX6_115 nmX6_isOne (by decide) (by decide) rfl (prX6_isOne w)), List.forall_mem_cons.mpr ⟨itV (n := 161) (by decide) (COk_V (n := 1) (ci := 6) (ctX6_waits w) wcX6_161 nmX6_waits (by decide) (by decide) rfl (prX6_waits w)), List.forall_mem_cons.mpr ⟨itV (n := 173) (by decide) (COk_V (n := 2) (ci := 6) (ctX6_worthOf w) wcX6_173 nmX6_worthOf (by decide) (by decide) rfl (prX6_worthOf w)), List.forall_mem_nil _⟩⟩⟩⟩)
theorem ctX6_best (w : WW) : CT w yX6_best MX6_best (csX6_best w).2.1 (csX6_best w).2.2 := by
  refine CT_of (by decide) rfl TX6_best_ok TX6_best_v (KX6_best_ok w) (fun as u h => ?_)
  obtain ⟨a0, a1, rfl, h⟩ := sgRI h
  obtain ⟨rfl, hh⟩ := h
  refine ⟨Nat.le_of_ble_eq_true rfl, ?_⟩
  have key := vX6_best w a1 u hh
  exact key
theorem prX6_best (w : WW) : ∀ as u, (csX6_best w).2.1 as u → ∃ a r, as = .ref a :: r ∧ r.length = 1 ∧ okO w a 6 := by
  intro as u h
  obtain ⟨a0, a1, rfl, h⟩ := sgRI h
  exact ⟨_, _, rfl, rfl, okO_m h⟩
