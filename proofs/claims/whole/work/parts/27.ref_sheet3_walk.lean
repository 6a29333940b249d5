/-! ===== the reference's copy, lays, roll, read, walked ===== -/
theorem mvJ_step (u : MM) {a b i n : Nat} (hi : i < n) (hab : a + n ≤ b ∨ b + n ≤ a) : uJ (mvJ u a b i) (b + i) ((mvJ u a b i).2 (a + i)) = mvJ u a b (i + 1) := by
  apply Prod.ext
  · rfl
  · funext j
    simp only [mvJ, uJ, vp_updL]
    by_cases q : j = b + i
    · rw [if_pos q, if_neg (by omega), if_pos (by omega), q, show b + i - b = i by omega]
    · rw [if_neg q]
      by_cases q2 : b ≤ j ∧ j < b + i
      · rw [if_pos q2, if_pos (by omega)]
      · rw [if_neg q2, if_neg (by omega)]
theorem mvJ_0 (u : MM) (a b : Nat) : mvJ u a b 0 = u := by
  apply Prod.ext
  · rfl
  · funext j; simp only [mvJ]; rw [if_neg (by omega)]
theorem part_N {z f n : Int32} {m : Nat} (hm : m ≤ 40) (e : z = nI m) (h : part z f n) : ∃ a b, f = nI a ∧ n = nI b ∧ a + b ≤ m := by
  obtain ⟨h1, h2, h3, h4⟩ := h
  obtain ⟨b, hb, rfl⟩ := nI_of (Int32.not_lt.mpr h2)
  obtain ⟨a, ha, rfl⟩ := nI_of (Int32.not_lt.mpr h1)
  rw [e] at h3 h4
  have hbm := (nI_leI hb (by omega)).mp h3
  have e2 : nI m - nI b = nI (m - b) := by
    have : nI m = nI (m - b) + nI b := by rw [nI_add]; congr 1; omega
    rw [this, Int32.add_sub_cancel]
  rw [e2] at h4
  have := (nI_leI ha (by omega)).mp h4
  exact ⟨a, b, rfl, rfl, by omega⟩
theorem vX6_copy (w : WW) : VX6_copy w := by
  intro s f t o n u h
  have main : isSh s → isSh t → part (u.1 (1444 + NN s)) f n → part (u.1 (1444 + NN t)) o n → GX6_copy w (fun r u' => r = some (.int n) ∧ u' = mvJ (mvJ u (200 + (40 * NN s + NN f)) 400 (NN n)) 400 (200 + (40 * NN t + NN o)) (NN n)) 99 [some (.ref (mA w)), some (.int s), some (.int f), some (.int t), some (.int o), some (.int n), none] [] u := by
    intro c1 c2 p1 p2
    obtain ⟨m1, hm1, em1⟩ := h (NN s) (isSh_N c1)
    obtain ⟨m2, hm2, em2⟩ := h (NN t) (isSh_N c2)
    obtain ⟨a, b, rfl, rfl, hab⟩ := part_N hm1 em1 p1
    obtain ⟨a2, b2, rfl, eb, hab2⟩ := part_N hm2 em2 p2
    have hb2 : b = b2 := (nI_eq (by omega) (by omega)).mp eb
    subst hb2
    have hs4 := isSh_N c1
    have ht4 := isSh_N c2
    have vs := isSh_vi c1
    have vt := isSh_vi c2
    rw [NN_nI (show a < 2 ^ 31 by omega), NN_nI (show a2 < 2 ^ 31 by omega), NN_nI (show b < 2 ^ 31 by omega)]
    simp only [eX6_copy_0, eX6_copy_1, eX6_copy_4, eX6_copy_7, eX6_copy_8, eX6_copy_11, eX6_copy_14, eX6_copy_15, eX6_copy_17, eX6_copy_20, eX6_copy_21, eX6_copy_22, eX6_copy_25, eX6_copy_26, eX6_copy_27, eX6_copy_30, eX6_copy_31, eX6_copy_34, eX6_copy_35, eX6_copy_36, eX6_copy_39, eX6_copy_40, eX6_copy_43, eX6_copy_46, eX6_copy_47, eX6_copy_48, eX6_copy_51, eX6_copy_52, eX6_copy_53, eX6_copy_54, eX6_copy_57, eX6_copy_58, eX6_copy_59, eX6_copy_62, eX6_copy_63, eX6_copy_65, eX6_copy_68, eX6_copy_69, eX6_copy_70, eX6_copy_71, eX6_copy_72, eX6_copy_74, eX6_copy_77, eX6_copy_80, eX6_copy_81, eX6_copy_82, eX6_copy_84, eX6_copy_86, eX6_copy_89, eX6_copy_92, eX6_copy_93, eX6_copy_95, eX6_copy_98, eX6_copy_99, eX6_copy_100, eX6_copy_104, eX6_copy_106, eX6_copy_109, eX6_copy_110, eX6_copy_113, eX6_copy_115, eX6_copy_116, eX6_copy_119, eX6_copy_121, eX6_copy_122, eX6_copy_123, eX6_copy_124, eX6_copy_125, eX6_copy_127, eX6_copy_128, eX6_copy_129, eX6_copy_130, eX6_copy_133, eX6_copy_136, eX6_copy_137, eX6_copy_141, eX6_copy_143, eX6_copy_146, eX6_copy_147, eX6_copy_150, eX6_copy_152, eX6_copy_153, eX6_copy_154, eX6_copy_156, eX6_copy_157, eX6_copy_159, eX6_copy_160, eX6_copy_161, eX6_copy_164, eX6_copy_166, eX6_copy_167, eX6_copy_168, eX6_copy_171, eX6_copy_174, eX6_copy_176, kl_i, kl_r, kl_n, kl_l, true_and, and_true, true_implies, false_implies, not_true_eq_false, not_false_eq_true, i10, Classical.not_not]
    have hle : nI b ≤ nI b := Int32.le_refl _
    have key2 : ∀ (m i : Nat), i + m = b → GX6_copy w (fun r u' => r = some (.int (nI b)) ∧ u' = mvJ (mvJ u (200 + (40 * NN s + a)) 400 b) 400 (200 + (40 * NN t + a2)) b) 139 [some (.ref (mA w)), some (.int s), some (.int (nI a)), some (.int t), some (.int (nI a2)), some (.int (nI b)), some (.int (nI i))] [] (mvJ (mvJ u (200 + (40 * NN s + a)) 400 b) 400 (200 + (40 * NN t + a2)) i) := by
      intro m
      induction m with
      | zero =>
        intro i hi
        have e3 : i = b := by omega
        subst e3
        rw [eX6_copy_139]
        simp only [eX6_copy_0, eX6_copy_1, eX6_copy_4, eX6_copy_7, eX6_copy_8, eX6_copy_11, eX6_copy_14, eX6_copy_15, eX6_copy_17, eX6_copy_20, eX6_copy_21, eX6_copy_22, eX6_copy_25, eX6_copy_26, eX6_copy_27, eX6_copy_30, eX6_copy_31, eX6_copy_34, eX6_copy_35, eX6_copy_36, eX6_copy_39, eX6_copy_40, eX6_copy_43, eX6_copy_46, eX6_copy_47, eX6_copy_48, eX6_copy_51, eX6_copy_52, eX6_copy_53, eX6_copy_54, eX6_copy_57, eX6_copy_58, eX6_copy_59, eX6_copy_62, eX6_copy_63, eX6_copy_65, eX6_copy_68, eX6_copy_69, eX6_copy_70, eX6_copy_71, eX6_copy_72, eX6_copy_74, eX6_copy_77, eX6_copy_80, eX6_copy_81, eX6_copy_82, eX6_copy_84, eX6_copy_86, eX6_copy_89, eX6_copy_92, eX6_copy_93, eX6_copy_95, eX6_copy_98, eX6_copy_99, eX6_copy_100, eX6_copy_104, eX6_copy_106, eX6_copy_109, eX6_copy_110, eX6_copy_113, eX6_copy_115, eX6_copy_116, eX6_copy_119, eX6_copy_121, eX6_copy_122, eX6_copy_123, eX6_copy_124, eX6_copy_125, eX6_copy_127, eX6_copy_128, eX6_copy_129, eX6_copy_130, eX6_copy_133, eX6_copy_136, eX6_copy_137, eX6_copy_141, eX6_copy_143, eX6_copy_146, eX6_copy_147, eX6_copy_150, eX6_copy_152, eX6_copy_153, eX6_copy_154, eX6_copy_156, eX6_copy_157, eX6_copy_159, eX6_copy_160, eX6_copy_161, eX6_copy_164, eX6_copy_166, eX6_copy_167, eX6_copy_168, eX6_copy_171, eX6_copy_174, eX6_copy_176, kl_i, kl_r, kl_n, kl_l, true_and, and_true, true_implies, false_implies, not_true_eq_false, not_false_eq_true, i10, Classical.not_not, hle]
      | succ m ih =>
        intro i hi
        have hlt : ¬ nI b ≤ nI i := nI_ge (by omega) (by omega)
        have hv : vp_in (nI i) 40 := vi_nI (by omega)
        obtain ⟨i1, i2⟩ := ix40b vt (i := nI a2) (k := nI i) rfl rfl (show a2 + i < 40 by omega)
        have st := mvJ_step (mvJ u (200 + (40 * NN s + a)) 400 b) (a := 400) (b := 200 + (40 * NN t + a2)) (i := i) (n := 40) (by omega) (by omega)
        rw [Nat.add_assoc 200] at st
        rw [eX6_copy_139]
        simp only [eX6_copy_0, eX6_copy_1, eX6_copy_4, eX6_copy_7, eX6_copy_8, eX6_copy_11, eX6_copy_14, eX6_copy_15, eX6_copy_17, eX6_copy_20, eX6_copy_21, eX6_copy_22, eX6_copy_25, eX6_copy_26, eX6_copy_27, eX6_copy_30, eX6_copy_31, eX6_copy_34, eX6_copy_35, eX6_copy_36, eX6_copy_39, eX6_copy_40, eX6_copy_43, eX6_copy_46, eX6_copy_47, eX6_copy_48, eX6_copy_51, eX6_copy_52, eX6_copy_53, eX6_copy_54, eX6_copy_57, eX6_copy_58, eX6_copy_59, eX6_copy_62, eX6_copy_63, eX6_copy_65, eX6_copy_68, eX6_copy_69, eX6_copy_70, eX6_copy_71, eX6_copy_72, eX6_copy_74, eX6_copy_77, eX6_copy_80, eX6_copy_81, eX6_copy_82, eX6_copy_84, eX6_copy_86, eX6_copy_89, eX6_copy_92, eX6_copy_93, eX6_copy_95, eX6_copy_98, eX6_copy_99, eX6_copy_100, eX6_copy_104, eX6_copy_106, eX6_copy_109, eX6_copy_110, eX6_copy_113, eX6_copy_115, eX6_copy_116, eX6_copy_119, eX6_copy_121, eX6_copy_122, eX6_copy_123, eX6_copy_124, eX6_copy_125, eX6_copy_127, eX6_copy_128, eX6_copy_129, eX6_copy_130, eX6_copy_133, eX6_copy_136, eX6_copy_137, eX6_copy_141, eX6_copy_143, eX6_copy_146, eX6_copy_147, eX6_copy_150, eX6_copy_152, eX6_copy_153, eX6_copy_154, eX6_copy_156, eX6_copy_157, eX6_copy_159, eX6_copy_160, eX6_copy_161, eX6_copy_164, eX6_copy_166, eX6_copy_167, eX6_copy_168, eX6_copy_171, eX6_copy_174, eX6_copy_176, kl_i, kl_r, kl_n, kl_l, true_and, and_true, true_implies, false_implies, not_true_eq_false, not_false_eq_true, i10, Classical.not_not, hlt, ok_m14, rf_m14, aj_mr6, xj_mr6, ok_m15, rf_m15, aj_mr7, xj_mr7, hv, i1, i2, NN_nI (show i < 2 ^ 31 by omega), st]
        rw [nI_1]
        exact ih (i + 1) (by omega)
    have key1 : ∀ (m i : Nat), i + m = b → GX6_copy w (fun r u' => r = some (.int (nI b)) ∧ u' = mvJ (mvJ u (200 + (40 * NN s + a)) 400 b) 400 (200 + (40 * NN t + a2)) b) 102 [some (.ref (mA w)), some (.int s), some (.int (nI a)), some (.int t), some (.int (nI a2)), some (.int (nI b)), some (.int (nI i))] [] (mvJ u (200 + (40 * NN s + a)) 400 i) := by
      intro m
      induction m with
      | zero =>
        intro i hi
        have e3 : i = b := by omega
        subst e3
        rw [eX6_copy_102]
        simp only [eX6_copy_0, eX6_copy_1, eX6_copy_4, eX6_copy_7, eX6_copy_8, eX6_copy_11, eX6_copy_14, eX6_copy_15, eX6_copy_17, eX6_copy_20, eX6_copy_21, eX6_copy_22, eX6_copy_25, eX6_copy_26, eX6_copy_27, eX6_copy_30, eX6_copy_31, eX6_copy_34, eX6_copy_35, eX6_copy_36, eX6_copy_39, eX6_copy_40, eX6_copy_43, eX6_copy_46, eX6_copy_47, eX6_copy_48, eX6_copy_51, eX6_copy_52, eX6_copy_53, eX6_copy_54, eX6_copy_57, eX6_copy_58, eX6_copy_59, eX6_copy_62, eX6_copy_63, eX6_copy_65, eX6_copy_68, eX6_copy_69, eX6_copy_70, eX6_copy_71, eX6_copy_72, eX6_copy_74, eX6_copy_77, eX6_copy_80, eX6_copy_81, eX6_copy_82, eX6_copy_84, eX6_copy_86, eX6_copy_89, eX6_copy_92, eX6_copy_93, eX6_copy_95, eX6_copy_98, eX6_copy_99, eX6_copy_100, eX6_copy_104, eX6_copy_106, eX6_copy_109, eX6_copy_110, eX6_copy_113, eX6_copy_115, eX6_copy_116, eX6_copy_119, eX6_copy_121, eX6_copy_122, eX6_copy_123, eX6_copy_124, eX6_copy_125, eX6_copy_127, eX6_copy_128, eX6_copy_129, eX6_copy_130, eX6_copy_133, eX6_copy_136, eX6_copy_137, eX6_copy_141, eX6_copy_143, eX6_copy_146, eX6_copy_147, eX6_copy_150, eX6_copy_152, eX6_copy_153, eX6_copy_154, eX6_copy_156, eX6_copy_157, eX6_copy_159, eX6_copy_160, eX6_copy_161, eX6_copy_164, eX6_copy_166, eX6_copy_167, eX6_copy_168, eX6_copy_171, eX6_copy_174, eX6_copy_176, kl_i, kl_r, kl_n, kl_l, true_and, and_true, true_implies, false_implies, not_true_eq_false, not_false_eq_true, i10, Classical.not_not, hle]
        have := key2 i 0 (by omega)
        rw [mvJ_0] at this
        exact this
      | succ m ih =>
        intro i hi
        have hlt : ¬ nI b ≤ nI i := nI_ge (by omega) (by omega)
        have hv : vp_in (nI i) 40 := vi_nI (by omega)
        obtain ⟨i1, i2⟩ := ix40b vs (i := nI a) (k := nI i) rfl rfl (show a + i < 40 by omega)
        have st := mvJ_step u (a := 200 + (40 * NN s + a)) (b := 400) (i := i) (n := 40) (by omega) (by omega)
        rw [Nat.add_assoc 200] at st
        rw [eX6_copy_102]
        simp only [eX6_copy_0, eX6_copy_1, eX6_copy_4, eX6_copy_7, eX6_copy_8, eX6_copy_11, eX6_copy_14, eX6_copy_15, eX6_copy_17, eX6_copy_20, eX6_copy_21, eX6_copy_22, eX6_copy_25, eX6_copy_26, eX6_copy_27, eX6_copy_30, eX6_copy_31, eX6_copy_34, eX6_copy_35, eX6_copy_36, eX6_copy_39, eX6_copy_40, eX6_copy_43, eX6_copy_46, eX6_copy_47, eX6_copy_48, eX6_copy_51, eX6_copy_52, eX6_copy_53, eX6_copy_54, eX6_copy_57, eX6_copy_58, eX6_copy_59, eX6_copy_62, eX6_copy_63, eX6_copy_65, eX6_copy_68, eX6_copy_69, eX6_copy_70, eX6_copy_71, eX6_copy_72, eX6_copy_74, eX6_copy_77, eX6_copy_80, eX6_copy_81, eX6_copy_82, eX6_copy_84, eX6_copy_86, eX6_copy_89, eX6_copy_92, eX6_copy_93, eX6_copy_95, eX6_copy_98, eX6_copy_99, eX6_copy_100, eX6_copy_104, eX6_copy_106, eX6_copy_109, eX6_copy_110, eX6_copy_113, eX6_copy_115, eX6_copy_116, eX6_copy_119, eX6_copy_121, eX6_copy_122, eX6_copy_123, eX6_copy_124, eX6_copy_125, eX6_copy_127, eX6_copy_128, eX6_copy_129, eX6_copy_130, eX6_copy_133, eX6_copy_136, eX6_copy_137, eX6_copy_141, eX6_copy_143, eX6_copy_146, eX6_copy_147, eX6_copy_150, eX6_copy_152, eX6_copy_153, eX6_copy_154, eX6_copy_156, eX6_copy_157, eX6_copy_159, eX6_copy_160, eX6_copy_161, eX6_copy_164, eX6_copy_166, eX6_copy_167, eX6_copy_168, eX6_copy_171, eX6_copy_174, eX6_copy_176, kl_i, kl_r, kl_n, kl_l, true_and, and_true, true_implies, false_implies, not_true_eq_false, not_false_eq_true, i10, Classical.not_not, hlt, ok_m14, rf_m14, aj_mr6, xj_mr6, ok_m15, rf_m15, aj_mr7, xj_mr7, hv, i1, i2, NN_nI (show i < 2 ^ 31 by omega), st]
        rw [nI_1]
        exact ih (i + 1) (by omega)
    have := key1 b 0 (by omega)
    rw [mvJ_0] at this
    exact this
  simp only [eX6_copy_0, eX6_copy_1, eX6_copy_4, eX6_copy_7, eX6_copy_8, eX6_copy_11, eX6_copy_14, eX6_copy_15, eX6_copy_17, eX6_copy_20, eX6_copy_21, eX6_copy_22, eX6_copy_25, eX6_copy_26, eX6_copy_27, eX6_copy_30, eX6_copy_31, eX6_copy_34, eX6_copy_35, eX6_copy_36, eX6_copy_39, eX6_copy_40, eX6_copy_43, eX6_copy_46, eX6_copy_47, eX6_copy_48, eX6_copy_51, eX6_copy_52, eX6_copy_53, eX6_copy_54, eX6_copy_57, eX6_copy_58, eX6_copy_59, eX6_copy_62, eX6_copy_63, eX6_copy_65, eX6_copy_68, eX6_copy_69, eX6_copy_70, eX6_copy_71, eX6_copy_72, eX6_copy_74, eX6_copy_77, eX6_copy_80, eX6_copy_81, eX6_copy_82, eX6_copy_84, eX6_copy_86, eX6_copy_89, eX6_copy_92, eX6_copy_93, eX6_copy_95, eX6_copy_98, eX6_copy_100, eX6_copy_104, eX6_copy_106, eX6_copy_109, eX6_copy_110, eX6_copy_113, eX6_copy_115, eX6_copy_116, eX6_copy_119, eX6_copy_121, eX6_copy_122, eX6_copy_123, eX6_copy_124, eX6_copy_125, eX6_copy_127, eX6_copy_128, eX6_copy_129, eX6_copy_130, eX6_copy_133, eX6_copy_136, eX6_copy_137, eX6_copy_141, eX6_copy_143, eX6_copy_146, eX6_copy_147, eX6_copy_150, eX6_copy_152, eX6_copy_153, eX6_copy_154, eX6_copy_156, eX6_copy_157, eX6_copy_159, eX6_copy_160, eX6_copy_161, eX6_copy_164, eX6_copy_166, eX6_copy_167, eX6_copy_168, eX6_copy_171, eX6_copy_174, eX6_copy_176, kl_i, kl_r, kl_n, kl_l, true_and, and_true, true_implies, false_implies, not_true_eq_false, not_false_eq_true, i10, Classical.not_not, pX6_isSheet, rX6_isSheet, bi_0, pf0, pf1, pf2, pf3, pf4, pf5, pf6, mf0, mf1, mf2, mf3, mf4, mf5, mf6, rX6_finds, ok_m12, rf_m12, ai_mr4, rd_mr4, pX6_isPart, rX6_isPart, rX6_copy, mX6_copy, Option.some.injEq, Value.int.injEq]
  refine ⟨fun c1 => nf0 (by rw [cpNo, if_pos (fun z => c1 z.1)]), fun c1 => ⟨fun c2 => ?_, fun c2 => nf0 (by rw [cpNo, if_pos (fun z => c2 z.2)])⟩⟩
  have e0 : cpN s f t o n u = if u.1 (1440 + NN s) = 0 ∨ u.1 (1440 + NN t) = 0 then some 5 else if ¬ u.1 (1440 + NN s) = u.1 (1440 + NN t) then some 2 else if ¬ (part (u.1 (1444 + NN s)) f n ∧ part (u.1 (1444 + NN t)) o n) then some 0 else none := by rw [cpN, cpNo, if_neg (fun z => z ⟨c1, c2⟩)]
  have vs := isSh_vi c1
  have vt := isSh_vi c2
  refine ⟨vs, fun d1 => nf5 (by rw [e0, if_pos (Or.inl d1)]), fun d1 => ⟨vt, fun d2 => ?_, fun d2 => nf5 (by rw [e0, if_pos (Or.inr d2)])⟩⟩
  have e1 : cpN s f t o n u = if ¬ u.1 (1440 + NN s) = u.1 (1440 + NN t) then some 2 else if ¬ (part (u.1 (1444 + NN s)) f n ∧ part (u.1 (1444 + NN t)) o n) then some 0 else none := by rw [e0, if_neg (fun z => z.elim d1 d2)]
  exact 0
theorem wcX6_287 : ∀ x ∈ wV1 RX6 287 yX6_isPart MX6_isPart, x ∈ Gt := by decide +kernel
theorem nmX6_isPart : nmOk yX6_isPart 3 = true := by decide +kernel
set_option maxRecDepth 20000 in
theorem KX6_copy_ok (w : WW) : KOk w MX6_copy (KX6_copy w) := KOk_mk flX6_ok ciX6_ok clX6_ok (fun _ _ h => by cases h) (fun _ _ h => by cases h) (List.forall_mem_cons.mpr ⟨itV (n := 87) (by decide) (COk_V (n := 1) (ci := 6) (ctX6_finds w) wcX6_87 nmX6_finds (by decide) (by decide) rfl (prX6_finds w)), List.forall_mem_cons.mpr ⟨itV (n := 287) (by decide) (COk_V (n := 3) (ci := 6) (ctX6_isPart w) wcX6_287 nmX6_isPart (by decide) (by decide) rfl (prX6_isPart w)), List.forall_mem_cons.mpr ⟨itS (n := 278) (COk_S (n := 1) (ctX6_isSheet w) wcX6_65814 nmX6_isSheet (by decide)), List.forall_mem_nil _⟩⟩⟩)
theorem ctX6_copy (w : WW) : CT w yX6_copy MX6_copy (csX6_copy w).2.1 (csX6_copy w).2.2 := by
  refine CT_of (by decide) rfl TX6_copy_ok TX6_copy_v (KX6_copy_ok w) (fun as u h => ?_)
  obtain ⟨a0, a1, a2, a3, a4, a5, rfl, h⟩ := sgRIIIII h
  obtain ⟨rfl, hh⟩ := h
  refine ⟨Nat.le_of_ble_eq_true rfl, ?_⟩
  have key := vX6_copy w a1 a2 a3 a4 a5 u hh
  exact key
theorem prX6_copy (w : WW) : ∀ as u, (csX6_copy w).2.1 as u → ∃ a r, as = .ref a :: r ∧ r.length = 5 ∧ okO w a 6 := by
  intro as u h
  obtain ⟨a0, a1, a2, a3, a4, a5, rfl, h⟩ := sgRIIIII h
  exact ⟨_, _, rfl, rfl, okO_m h⟩
