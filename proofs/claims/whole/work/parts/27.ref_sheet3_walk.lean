/-! ===== the reference's copy, lays, roll, read, walked ===== -/
theorem mvJ_step (u : MM) {a b i n : Nat} (hi : i < n) (hab : a + n ≤ b ∨ b + n ≤ a) : uJ (mvJ u a b i) (b + i) ((mvJ u a b i).2 (a + i)) = mvJ u a b (i + 1) := by
  apply Prod.ext
  · rfl
  · funext j
    simp only [mvJ, uJ, vp_updL]
    by_cases q : j = b + i
    · rw [if_pos q, if_neg (by omega), if_pos (by omega), q, show b + i - b = i by omega]
    · rw [if_neg q]
      by_cases q2 : b ≤ j ∧ j < b + i
      · rw [if_pos q2, if_pos (by omega)]
      · rw [if_neg q2, if_neg (by omega)]
theorem mvJ_0 (u : MM) (a b : Nat) : mvJ u a b 0 = u := by
  apply Prod.ext
  · rfl
  · funext j; simp only [mvJ]; rw [if_neg (by omega)]
theorem part_N {z f n : Int32} {m : Nat} (hm : m ≤ 40) (e : z = nI m) (h : part z f n) : ∃ a b, f = nI a ∧ n = nI b ∧ a + b ≤ m := by
  obtain ⟨h1, h2, h3, h4⟩ := h
  obtain ⟨b, hb, rfl⟩ := nI_of (Int32.not_lt.mpr h2)
  obtain ⟨a, ha, rfl⟩ := nI_of (Int32.not_lt.mpr h1)
  rw [e] at h3 h4
  have hbm := (nI_leI hb (by omega)).mp h3
  have e2 : nI m - nI b = nI (m - b) := by
    have : nI m = nI (m - b) + nI b := by rw [nI_add]; congr 1; omega
    rw [this, Int32.add_sub_cancel]
  rw [e2] at h4
  have := (nI_leI ha (by omega)).mp h4
  exact ⟨a, b, rfl, rfl, by omega⟩
theorem vX6_copy (w : WW) : VX6_copy w := by
  intro s f t o n u h
  have main : isSh s → isSh t → part (u.1 (1444 + NN s)) f n → part (u.1 (1444 + NN t)) o n → GX6_copy w (fun r u' => r = some (.int n) ∧ u' = mvJ (mvJ u (200 + (40 * NN s + NN f)) 400 (NN n)) 400 (200 + (40 * NN t + NN o)) (NN n)) 99 [some (.ref (mA w)), some (.int s), some (.int f), some (.int t), some (.int o), some (.int n), none] [] u := by
    intro c1 c2 p1 p2
    obtain ⟨m1, hm1, em1⟩ := h (NN s) (isSh_N c1)
    obtain ⟨m2, hm2, em2⟩ := h (NN t) (isSh_N c2)
    obtain ⟨a, b, rfl, rfl, hab⟩ := part_N hm1 em1 p1
    obtain ⟨a2, b2, rfl, eb, hab2⟩ := part_N hm2 em2 p2
    have hb2 : b = b2 := (nI_eq (by omega) (by omega)).mp eb
    subst hb2
    have hs4 := isSh_N c1
    have ht4 := isSh_N c2
    have vs := isSh_vi c1
    have vt := isSh_vi c2
    rw [NN_nI (show a < 2 ^ 31 by omega), NN_nI (show a2 < 2 ^ 31 by omega), NN_nI (show b < 2 ^ 31 by omega)]
    simp only [eX6_copy_0, eX6_copy_1, eX6_copy_4, eX6_copy_7, eX6_copy_8, eX6_copy_11, eX6_copy_14, eX6_copy_15, eX6_copy_17, eX6_copy_20, eX6_copy_21, eX6_copy_22, eX6_copy_25, eX6_copy_26, eX6_copy_27, eX6_copy_30, eX6_copy_31, eX6_copy_34, eX6_copy_35, eX6_copy_36, eX6_copy_39, eX6_copy_40, eX6_copy_43, eX6_copy_46, eX6_copy_47, eX6_copy_48, eX6_copy_51, eX6_copy_52, eX6_copy_53, eX6_copy_54, eX6_copy_57, eX6_copy_58, eX6_copy_59, eX6_copy_62, eX6_copy_63, eX6_copy_65, eX6_copy_68, eX6_copy_69, eX6_copy_70, eX6_copy_71, eX6_copy_72, eX6_copy_74, eX6_copy_77, eX6_copy_80, eX6_copy_81, eX6_copy_82, eX6_copy_84, eX6_copy_86, eX6_copy_89, eX6_copy_92, eX6_copy_93, eX6_copy_95, eX6_copy_98, eX6_copy_99, eX6_copy_100, eX6_copy_104, eX6_copy_106, eX6_copy_109, eX6_copy_110, eX6_copy_113, eX6_copy_115, eX6_copy_116, eX6_copy_119, eX6_copy_121, eX6_copy_122, eX6_copy_123, eX6_copy_124, eX6_copy_125, eX6_copy_127, eX6_copy_128, eX6_copy_129, eX6_copy_130, eX6_copy_133, eX6_copy_136, eX6_copy_137, eX6_copy_141, eX6_copy_143, eX6_copy_146, eX6_copy_147, eX6_copy_150, eX6_copy_152, eX6_copy_153, eX6_copy_154, eX6_copy_156, eX6_copy_157, eX6_copy_159, eX6_copy_160, eX6_copy_161, eX6_copy_164, eX6_copy_166, eX6_copy_167, eX6_copy_168, eX6_copy_171, eX6_copy_174, eX6_copy_176, kl_i, kl_r, kl_n, kl_l, true_and, and_true, true_implies, false_implies, not_true_eq_false, not_false_eq_true, i10, Classical.not_not]
    have hle : nI b ≤ nI b := Int32.le_refl _
    have key2 : ∀ (m i : Nat), i + m = b → GX6_copy w (fun r u' => r = some (.int (nI b)) ∧ u' = mvJ (mvJ u (200 + (40 * NN s + a)) 400 b) 400 (200 + (40 * NN t + a2)) b) 139 [some (.ref (mA w)), some (.int s), some (.int (nI a)), some (.int t), some (.int (nI a2)), some (.int (nI b)), some (.int (nI i))] [] (mvJ (mvJ u (200 + (40 * NN s + a)) 400 b) 400 (200 + (40 * NN t + a2)) i) := by
      intro m
      induction m with
      | zero =>
        intro i hi
        have e3 : i = b := by omega
        subst e3
        rw [eX6_copy_139]
        simp only [eX6_copy_0, eX6_copy_1, eX6_copy_4, eX6_copy_7, eX6_copy_8, eX6_copy_11, eX6_copy_14, eX6_copy_15, eX6_copy_17, eX6_copy_20, eX6_copy_21, eX6_copy_22, eX6_copy_25, eX6_copy_26, eX6_copy_27, eX6_copy_30, eX6_copy_31, eX6_copy_34, eX6_copy_35, eX6_copy_36, eX6_copy_39, eX6_copy_40, eX6_copy_43, eX6_copy_46, eX6_copy_47, eX6_copy_48, eX6_copy_51, eX6_copy_52, eX6_copy_53, eX6_copy_54, eX6_copy_57, eX6_copy_58, eX6_copy_59, eX6_copy_62, eX6_copy_63, eX6_copy_65, eX6_copy_68, eX6_copy_69, eX6_copy_70, eX6_copy_71, eX6_copy_72, eX6_copy_74, eX6_copy_77, eX6_copy_80, eX6_copy_81, eX6_copy_82, eX6_copy_84, eX6_copy_86, eX6_copy_89, eX6_copy_92, eX6_copy_93, eX6_copy_95, eX6_copy_98, eX6_copy_99, eX6_copy_100, eX6_copy_104, eX6_copy_106, eX6_copy_109, eX6_copy_110, eX6_copy_113, eX6_copy_115, eX6_copy_116, eX6_copy_119, eX6_copy_121, eX6_copy_122, eX6_copy_123, eX6_copy_124, eX6_copy_125, eX6_copy_127, eX6_copy_128, eX6_copy_129, eX6_copy_130, eX6_copy_133, eX6_copy_136, eX6_copy_137, eX6_copy_141, eX6_copy_143, eX6_copy_146, eX6_copy_147, eX6_copy_150, eX6_copy_152, eX6_copy_153, eX6_copy_154, eX6_copy_156, eX6_copy_157, eX6_copy_159, eX6_copy_160, eX6_copy_161, eX6_copy_164, eX6_copy_166, eX6_copy_167, eX6_copy_168, eX6_copy_171, eX6_copy_174, eX6_copy_176, kl_i, kl_r, kl_n, kl_l, true_and, and_true, true_implies, false_implies, not_true_eq_false, not_false_eq_true, i10, Classical.not_not, hle]
      | succ m ih =>
        intro i hi
        have hlt : ¬ nI b ≤ nI i := nI_ge (by omega) (by omega)
        have hv : vp_in (nI i) 40 := vi_nI (by omega)
        obtain ⟨i1, i2⟩ := ix40b vt (i := nI a2) (k := nI i) rfl rfl (show a2 + i < 40 by omega)
        have st := mvJ_step (mvJ u (200 + (40 * NN s + a)) 400 b) (a := 400) (b := 200 + (40 * NN t + a2)) (i := i) (n := 40) (by omega) (by omega)
        rw [Nat.add_assoc 200] at st
        rw [eX6_copy_139]
        simp only [eX6_copy_0, eX6_copy_1, eX6_copy_4, eX6_copy_7, eX6_copy_8, eX6_copy_11, eX6_copy_14, eX6_copy_15, eX6_copy_17, eX6_copy_20, eX6_copy_21, eX6_copy_22, eX6_copy_25, eX6_copy_26, eX6_copy_27, eX6_copy_30, eX6_copy_31, eX6_copy_34, eX6_copy_35, eX6_copy_36, eX6_copy_39, eX6_copy_40, eX6_copy_43, eX6_copy_46, eX6_copy_47, eX6_copy_48, eX6_copy_51, eX6_copy_52, eX6_copy_53, eX6_copy_54, eX6_copy_57, eX6_copy_58, eX6_copy_59, eX6_copy_62, eX6_copy_63, eX6_copy_65, eX6_copy_68, eX6_copy_69, eX6_copy_70, eX6_copy_71, eX6_copy_72, eX6_copy_74, eX6_copy_77, eX6_copy_80, eX6_copy_81, eX6_copy_82, eX6_copy_84, eX6_copy_86, eX6_copy_89, eX6_copy_92, eX6_copy_93, eX6_copy_95, eX6_copy_98, eX6_copy_99, eX6_copy_100, eX6_copy_104, eX6_copy_106, eX6_copy_109, eX6_copy_110, eX6_copy_113, eX6_copy_115, eX6_copy_116, eX6_copy_119, eX6_copy_121, eX6_copy_122, eX6_copy_123, eX6_copy_124, eX6_copy_125, eX6_copy_127, eX6_copy_128, eX6_copy_129, eX6_copy_130, eX6_copy_133, eX6_copy_136, eX6_copy_137, eX6_copy_141, eX6_copy_143, eX6_copy_146, eX6_copy_147, eX6_copy_150, eX6_copy_152, eX6_copy_153, eX6_copy_154, eX6_copy_156, eX6_copy_157, eX6_copy_159, eX6_copy_160, eX6_copy_161, eX6_copy_164, eX6_copy_166, eX6_copy_167, eX6_copy_168, eX6_copy_171, eX6_copy_174, eX6_copy_176, kl_i, kl_r, kl_n, kl_l, true_and, and_true, true_implies, false_implies, not_true_eq_false, not_false_eq_true, i10, Classical.not_not, hlt, ok_m14, rf_m14, aj_mr6, xj_mr6, ok_m15, rf_m15, aj_mr7, xj_mr7, hv, i1, i2, NN_nI (show i < 2 ^ 31 by omega), st]
        rw [nI_1]
        exact ih (i + 1) (by omega)
    have key1 : ∀ (m i : Nat), i + m = b → GX6_copy w (fun r u' => r = some (.int (nI b)) ∧ u' = mvJ (mvJ u (200 + (40 * NN s + a)) 400 b) 400 (200 + (40 * NN t + a2)) b) 102 [some (.ref (mA w)), some (.int s), some (.int (nI a)), some (.int t), some (.int (nI a2)), some (.int (nI b)), some (.int (nI i))] [] (mvJ u (200 + (40 * NN s + a)) 400 i) := by
      intro m
      induction m with
      | zero =>
        intro i hi
        have e3 : i = b := by omega
        subst e3
        rw [eX6_copy_102]
        simp only [eX6_copy_0, eX6_copy_1, eX6_copy_4, eX6_copy_7, eX6_copy_8, eX6_copy_11, eX6_copy_14, eX6_copy_15, eX6_copy_17, eX6_copy_20, eX6_copy_21, eX6_copy_22, eX6_copy_25, eX6_copy_26, eX6_copy_27, eX6_copy_30, eX6_copy_31, eX6_copy_34, eX6_copy_35, eX6_copy_36, eX6_copy_39, eX6_copy_40, eX6_copy_43, eX6_copy_46, eX6_copy_47, eX6_copy_48, eX6_copy_51, eX6_copy_52, eX6_copy_53, eX6_copy_54, eX6_copy_57, eX6_copy_58, eX6_copy_59, eX6_copy_62, eX6_copy_63, eX6_copy_65, eX6_copy_68, eX6_copy_69, eX6_copy_70, eX6_copy_71, eX6_copy_72, eX6_copy_74, eX6_copy_77, eX6_copy_80, eX6_copy_81, eX6_copy_82, eX6_copy_84, eX6_copy_86, eX6_copy_89, eX6_copy_92, eX6_copy_93, eX6_copy_95, eX6_copy_98, eX6_copy_99, eX6_copy_100, eX6_copy_104, eX6_copy_106, eX6_copy_109, eX6_copy_110, eX6_copy_113, eX6_copy_115, eX6_copy_116, eX6_copy_119, eX6_copy_121, eX6_copy_122, eX6_copy_123, eX6_copy_124, eX6_copy_125, eX6_copy_127, eX6_copy_128, eX6_copy_129, eX6_copy_130, eX6_copy_133, eX6_copy_136, eX6_copy_137, eX6_copy_141, eX6_copy_143, eX6_copy_146, eX6_copy_147, eX6_copy_150, eX6_copy_152, eX6_copy_153, eX6_copy_154, eX6_copy_156, eX6_copy_157, eX6_copy_159, eX6_copy_160, eX6_copy_161, eX6_copy_164, eX6_copy_166, eX6_copy_167, eX6_copy_168, eX6_copy_171, eX6_copy_174, eX6_copy_176, kl_i, kl_r, kl_n, kl_l, true_and, and_true, true_implies, false_implies, not_true_eq_false, not_false_eq_true, i10, Classical.not_not, hle]
        have := key2 i 0 (by omega)
        rw [mvJ_0] at this
        exact this
      | succ m ih =>
        intro i hi
        have hlt : ¬ nI b ≤ nI i := nI_ge (by omega) (by omega)
        have hv : vp_in (nI i) 40 := vi_nI (by omega)
        obtain ⟨i1, i2⟩ := ix40b vs (i := nI a) (k := nI i) rfl rfl (show a + i < 40 by omega)
        have st := mvJ_step u (a := 200 + (40 * NN s + a)) (b := 400) (i := i) (n := 40) (by omega) (by omega)
        rw [Nat.add_assoc 200] at st
        rw [eX6_copy_102]
        simp only [eX6_copy_0, eX6_copy_1, eX6_copy_4, eX6_copy_7, eX6_copy_8, eX6_copy_11, eX6_copy_14, eX6_copy_15, eX6_copy_17, eX6_copy_20, eX6_copy_21, eX6_copy_22, eX6_copy_25, eX6_copy_26, eX6_copy_27, eX6_copy_30, eX6_copy_31, eX6_copy_34, eX6_copy_35, eX6_copy_36, eX6_copy_39, eX6_copy_40, eX6_copy_43, eX6_copy_46, eX6_copy_47, eX6_copy_48, eX6_copy_51, eX6_copy_52, eX6_copy_53, eX6_copy_54, eX6_copy_57, eX6_copy_58, eX6_copy_59, eX6_copy_62, eX6_copy_63, eX6_copy_65, eX6_copy_68, eX6_copy_69, eX6_copy_70, eX6_copy_71, eX6_copy_72, eX6_copy_74, eX6_copy_77, eX6_copy_80, eX6_copy_81, eX6_copy_82, eX6_copy_84, eX6_copy_86, eX6_copy_89, eX6_copy_92, eX6_copy_93, eX6_copy_95, eX6_copy_98, eX6_copy_99, eX6_copy_100, eX6_copy_104, eX6_copy_106, eX6_copy_109, eX6_copy_110, eX6_copy_113, eX6_copy_115, eX6_copy_116, eX6_copy_119, eX6_copy_121, eX6_copy_122, eX6_copy_123, eX6_copy_124, eX6_copy_125, eX6_copy_127, eX6_copy_128, eX6_copy_129, eX6_copy_130, eX6_copy_133, eX6_copy_136, eX6_copy_137, eX6_copy_141, eX6_copy_143, eX6_copy_146, eX6_copy_147, eX6_copy_150, eX6_copy_152, eX6_copy_153, eX6_copy_154, eX6_copy_156, eX6_copy_157, eX6_copy_159, eX6_copy_160, eX6_copy_161, eX6_copy_164, eX6_copy_166, eX6_copy_167, eX6_copy_168, eX6_copy_171, eX6_copy_174, eX6_copy_176, kl_i, kl_r, kl_n, kl_l, true_and, and_true, true_implies, false_implies, not_true_eq_false, not_false_eq_true, i10, Classical.not_not, hlt, ok_m14, rf_m14, aj_mr6, xj_mr6, ok_m15, rf_m15, aj_mr7, xj_mr7, hv, i1, i2, NN_nI (show i < 2 ^ 31 by omega), st]
        rw [nI_1]
        exact ih (i + 1) (by omega)
    have := key1 b 0 (by omega)
    rw [mvJ_0] at this
    exact this
  simp only [eX6_copy_0, eX6_copy_1, eX6_copy_4, eX6_copy_7, eX6_copy_8, eX6_copy_11, eX6_copy_14, eX6_copy_15, eX6_copy_17, eX6_copy_20, eX6_copy_21, eX6_copy_22, eX6_copy_25, eX6_copy_26, eX6_copy_27, eX6_copy_30, eX6_copy_31, eX6_copy_34, eX6_copy_35, eX6_copy_36, eX6_copy_39, eX6_copy_40, eX6_copy_43, eX6_copy_46, eX6_copy_47, eX6_copy_48, eX6_copy_51, eX6_copy_52, eX6_copy_53, eX6_copy_54, eX6_copy_57, eX6_copy_58, eX6_copy_59, eX6_copy_62, eX6_copy_63, eX6_copy_65, eX6_copy_68, eX6_copy_69, eX6_copy_70, eX6_copy_71, eX6_copy_72, eX6_copy_74, eX6_copy_77, eX6_copy_80, eX6_copy_81, eX6_copy_82, eX6_copy_84, eX6_copy_86, eX6_copy_89, eX6_copy_92, eX6_copy_93, eX6_copy_95, eX6_copy_98, eX6_copy_100, eX6_copy_104, eX6_copy_106, eX6_copy_109, eX6_copy_110, eX6_copy_113, eX6_copy_115, eX6_copy_116, eX6_copy_119, eX6_copy_121, eX6_copy_122, eX6_copy_123, eX6_copy_124, eX6_copy_125, eX6_copy_127, eX6_copy_128, eX6_copy_129, eX6_copy_130, eX6_copy_133, eX6_copy_136, eX6_copy_137, eX6_copy_141, eX6_copy_143, eX6_copy_146, eX6_copy_147, eX6_copy_150, eX6_copy_152, eX6_copy_153, eX6_copy_154, eX6_copy_156, eX6_copy_157, eX6_copy_159, eX6_copy_160, eX6_copy_161, eX6_copy_164, eX6_copy_166, eX6_copy_167, eX6_copy_168, eX6_copy_171, eX6_copy_174, eX6_copy_176, kl_i, kl_r, kl_n, kl_l, true_and, and_true, true_implies, false_implies, not_true_eq_false, not_false_eq_true, i10, Classical.not_not, pX6_isSheet, rX6_isSheet, bi_0, pf0, pf1, pf2, pf3, pf4, pf5, pf6, mf0, mf1, mf2, mf3, mf4, mf5, mf6, rX6_finds, ok_m12, rf_m12, ai_mr4, rd_mr4, pX6_isPart, rX6_isPart, rX6_copy, mX6_copy, Option.some.injEq, Value.int.injEq]
  refine ⟨fun c1 => nf0 (by rw [cpN, cpNo, if_pos (fun z => c1 z.1)]), fun c1 => ⟨fun c2 => ?_, fun c2 => nf0 (by rw [cpN, cpNo, if_pos (fun z => c2 z.2)])⟩⟩
  have e0 : cpN s f t o n u = if u.1 (1440 + NN s) = 0 ∨ u.1 (1440 + NN t) = 0 then some 5 else if ¬ u.1 (1440 + NN s) = u.1 (1440 + NN t) then some 2 else if ¬ (part (u.1 (1444 + NN s)) f n ∧ part (u.1 (1444 + NN t)) o n) then some 0 else none := by rw [cpN, cpNo, if_neg (fun z => z ⟨c1, c2⟩)]
  have vs := isSh_vi c1
  have vt := isSh_vi c2
  refine ⟨vs, fun d1 => nf5 (by rw [e0, if_pos (Or.inl d1)]), fun d1 => ⟨vt, fun d2 => ?_, fun d2 => nf5 (by rw [e0, if_pos (Or.inr d2)])⟩⟩
  have e1 : cpN s f t o n u = if ¬ u.1 (1440 + NN s) = u.1 (1440 + NN t) then some 2 else if ¬ (part (u.1 (1444 + NN s)) f n ∧ part (u.1 (1444 + NN t)) o n) then some 0 else none := by rw [e0, if_neg (fun z => z.elim d1 d2)]
  refine ⟨vs, vt, fun d3 => ⟨vs, fun d4 => nf0 (by rw [e1, if_neg (fun z => z d3), if_pos (fun z => d4 z.1)]), fun d4 => ⟨vt, fun d5 => ?_, fun d5 => nf0 (by rw [e1, if_neg (fun z => z d3), if_pos (fun z => d5 z.2)])⟩⟩, fun d3 => nf2 (by rw [e1, if_pos d3])⟩
  have e2 : cpN s f t o n u = none := by rw [e1, if_neg (fun z => z d3), if_neg (fun z => z ⟨d4, d5⟩)]
  rw [e2]
  exact main c1 c2 d4 d5
theorem wcX6_287 : ∀ x ∈ wV1 RX6 287 yX6_isPart MX6_isPart, x ∈ Gt := by decide +kernel
theorem nmX6_isPart : nmOk yX6_isPart 3 = true := by decide +kernel
set_option maxRecDepth 20000 in
theorem KX6_copy_ok (w : WW) : KOk w MX6_copy (KX6_copy w) := KOk_mk flX6_ok ciX6_ok clX6_ok (fun _ _ h => by cases h) (fun _ _ h => by cases h) (List.forall_mem_cons.mpr ⟨itV (n := 87) (by decide) (COk_V (n := 1) (ci := 6) (ctX6_finds w) wcX6_87 nmX6_finds (by decide) (by decide) rfl (prX6_finds w)), List.forall_mem_cons.mpr ⟨itV (n := 287) (by decide) (COk_V (n := 3) (ci := 6) (ctX6_isPart w) wcX6_287 nmX6_isPart (by decide) (by decide) rfl (prX6_isPart w)), List.forall_mem_cons.mpr ⟨itS (n := 278) (COk_S (n := 1) (ctX6_isSheet w) wcX6_65814 nmX6_isSheet (by decide)), List.forall_mem_nil _⟩⟩⟩)
theorem ctX6_copy (w : WW) : CT w yX6_copy MX6_copy (csX6_copy w).2.1 (csX6_copy w).2.2 := by
  refine CT_of (by decide) rfl TX6_copy_ok TX6_copy_v (KX6_copy_ok w) (fun as u h => ?_)
  obtain ⟨a0, a1, a2, a3, a4, a5, rfl, h⟩ := sgRIIIII h
  obtain ⟨rfl, hh⟩ := h
  refine ⟨Nat.le_of_ble_eq_true rfl, ?_⟩
  have key := vX6_copy w a1 a2 a3 a4 a5 u hh
  exact key
theorem prX6_copy (w : WW) : ∀ as u, (csX6_copy w).2.1 as u → ∃ a r, as = .ref a :: r ∧ r.length = 5 ∧ okO w a 6 := by
  intro as u h
  obtain ⟨a0, a1, a2, a3, a4, a5, rfl, h⟩ := sgRIIIII h
  exact ⟨_, _, rfl, rfl, okO_m h⟩
theorem lyP_hd (Z : Nat → Int64) (M : Int32) (R : Nat → Int32) {i : Nat} (hi : i < 21) : ∀ n, (lyP Z M R n).1 i = R i
  | 0 => rfl
  | n + 1 => by
    simp only [lyP]; split
    · exact (hd_ost hi).trans (lyP_hd Z M R hi n)
    · exact lyP_hd Z M R hi n
theorem lyP_hi (Z : Nat → Int64) (M : Int32) (R : Nat → Int32) {i : Nat} (hi : 91 ≤ i) : ∀ n, n ≤ 10 → (lyP Z M R n).1 i = R i
  | 0, _ => rfl
  | n + 1, hn => by
    simp only [lyP]; split
    · exact (ost_hi (by omega) (by decide) hi).trans (lyP_hi Z M R hi n (by omega))
    · exact lyP_hi Z M R hi n (by omega)
theorem lgc_lt (x y : Int64) : lg_cmp x y < 0 ↔ x < y := by rw [← Int32.not_le, lg_cmp_ge, Int64.not_le]
theorem vX6_lays (w : WW) : VX6_lays w := by
  intro s u h
  obtain ⟨h6, hS⟩ := h
  have h0 := h6.1
  obtain ⟨K, hK, eK, eN⟩ := i6K h6
  simp only [eX6_lays_0, eX6_lays_1, eX6_lays_4, eX6_lays_7, eX6_lays_8, eX6_lays_10, eX6_lays_13, eX6_lays_14, eX6_lays_15, eX6_lays_18, eX6_lays_19, eX6_lays_20, eX6_lays_23, eX6_lays_24, eX6_lays_27, eX6_lays_30, eX6_lays_31, eX6_lays_32, eX6_lays_33, eX6_lays_34, eX6_lays_36, eX6_lays_37, eX6_lays_40, eX6_lays_41, eX6_lays_42, eX6_lays_45, eX6_lays_46, eX6_lays_47, eX6_lays_50, eX6_lays_51, eX6_lays_52, eX6_lays_55, eX6_lays_56, eX6_lays_59, eX6_lays_61, eX6_lays_62, eX6_lays_63, eX6_lays_64, eX6_lays_65, eX6_lays_66, eX6_lays_68, eX6_lays_70, eX6_lays_73, eX6_lays_74, eX6_lays_77, eX6_lays_79, eX6_lays_80, eX6_lays_83, eX6_lays_84, eX6_lays_85, eX6_lays_86, eX6_lays_87, eX6_lays_90, eX6_lays_91, eX6_lays_92, eX6_lays_93, eX6_lays_95, eX6_lays_96, eX6_lays_99, eX6_lays_102, eX6_lays_105, eX6_lays_108, eX6_lays_109, kl_i, kl_r, kl_n, kl_l, true_and, and_true, true_implies, false_implies, not_true_eq_false, not_false_eq_true, i10, Classical.not_not, pX6_isSheet, rX6_isSheet, bi_0, pf0, pf1, pf2, pf3, pf4, pf5, pf6, mf0, mf1, mf2, mf3, mf4, mf5, mf6, rX6_finds, ok_m12, rf_m12, ai_mr4, rd_mr4, rX6_lays, mX6_lays, Option.some.injEq, Value.int.injEq]
  refine ⟨fun c => ⟨isSh_vi c, fun d => ?_, fun d => nf5 (by rw [lyNo, if_neg (fun z => z c), if_pos d])⟩, fun c => nf0 (by rw [lyNo, if_pos c])⟩
  have en : lyNo s (u.1 (1440 + NN s)) = none := by rw [lyNo, if_neg (fun z => z c), if_neg d]
  rw [en, lyA, eN]
  obtain ⟨m, hm, em⟩ := hS (NN s) (isSh_N c)
  have hs4 := isSh_N c
  rw [em, NN_nI (show m < 2 ^ 31 by omega)]
  have z0 : ∀ R : Nat → Int32, (pv u 1100 R).1 1000 = 0 := fun R => (pv_lo u 1100 R (by decide)).trans h0
  have key : ∀ (l i : Nat) (j4 j5 : Option Value), i + l = min K m → GX6_lays w (fun r u' => r = some (.int (nf none (lyP (Z6 u s) (R6 u 1) (R6 u) (min K m)).2)) ∧ u' = nfM none u (pv u 1100 (lyP (Z6 u s) (R6 u 1) (R6 u) (min K m)).1)) 35 [some (.ref (mA w)), some (.int s), some (.int (lyP (Z6 u s) (R6 u 1) (R6 u) i).2), some (.int (nI i)), j4, j5] [] (pv u 1100 (lyP (Z6 u s) (R6 u 1) (R6 u) i).1) := by
    intro l
    induction l with
    | zero =>
      intro i j4 j5 hi
      have e3 : i = min K m := by omega
      have e2 : (lyP (Z6 u s) (R6 u 1) (R6 u) i).1 2 = nI K := (lyP_hd _ _ _ (by decide) i).trans eK
      have e5 : (pv u 1100 (lyP (Z6 u s) (R6 u 1) (R6 u) i).1).1 (1444 + NN s) = u.1 (1444 + NN s) := by
        rw [show 1444 + NN s = 1100 + (344 + NN s) by omega, pv_hi]
        exact lyP_hi _ _ _ (by omega) i (by omega)
      rw [eX6_lays_35]
      by_cases q : K ≤ i
      · have hle : nI K ≤ nI i := nI_le q (by omega)
        simp only [eX6_lays_0, eX6_lays_1, eX6_lays_4, eX6_lays_7, eX6_lays_8, eX6_lays_10, eX6_lays_13, eX6_lays_14, eX6_lays_15, eX6_lays_18, eX6_lays_19, eX6_lays_20, eX6_lays_23, eX6_lays_24, eX6_lays_27, eX6_lays_30, eX6_lays_31, eX6_lays_32, eX6_lays_33, eX6_lays_34, eX6_lays_36, eX6_lays_37, eX6_lays_40, eX6_lays_41, eX6_lays_42, eX6_lays_45, eX6_lays_46, eX6_lays_47, eX6_lays_50, eX6_lays_51, eX6_lays_52, eX6_lays_55, eX6_lays_56, eX6_lays_59, eX6_lays_61, eX6_lays_62, eX6_lays_63, eX6_lays_64, eX6_lays_65, eX6_lays_66, eX6_lays_68, eX6_lays_70, eX6_lays_73, eX6_lays_74, eX6_lays_77, eX6_lays_79, eX6_lays_80, eX6_lays_83, eX6_lays_84, eX6_lays_85, eX6_lays_86, eX6_lays_87, eX6_lays_90, eX6_lays_91, eX6_lays_92, eX6_lays_93, eX6_lays_95, eX6_lays_96, eX6_lays_99, eX6_lays_102, eX6_lays_105, eX6_lays_108, eX6_lays_109, kl_i, kl_r, kl_n, kl_l, true_and, and_true, true_implies, false_implies, not_true_eq_false, not_false_eq_true, i10, Classical.not_not, ok_m0, rf_m0, ai_mr0, rd_mr0, v182_2, N_2, pv_hi, e2, hle, ← e3]
        exact ⟨rfl, rfl⟩
      · have hle : ¬ nI K ≤ nI i := nI_ge (by omega) (by omega)
        have hle2 : nI m ≤ nI i := nI_le (by omega) (by omega)
        simp only [eX6_lays_0, eX6_lays_1, eX6_lays_4, eX6_lays_7, eX6_lays_8, eX6_lays_10, eX6_lays_13, eX6_lays_14, eX6_lays_15, eX6_lays_18, eX6_lays_19, eX6_lays_20, eX6_lays_23, eX6_lays_24, eX6_lays_27, eX6_lays_30, eX6_lays_31, eX6_lays_32, eX6_lays_33, eX6_lays_34, eX6_lays_36, eX6_lays_37, eX6_lays_40, eX6_lays_41, eX6_lays_42, eX6_lays_45, eX6_lays_46, eX6_lays_47, eX6_lays_50, eX6_lays_51, eX6_lays_52, eX6_lays_55, eX6_lays_56, eX6_lays_59, eX6_lays_61, eX6_lays_62, eX6_lays_63, eX6_lays_64, eX6_lays_65, eX6_lays_66, eX6_lays_68, eX6_lays_70, eX6_lays_73, eX6_lays_74, eX6_lays_77, eX6_lays_79, eX6_lays_80, eX6_lays_83, eX6_lays_84, eX6_lays_85, eX6_lays_86, eX6_lays_87, eX6_lays_90, eX6_lays_91, eX6_lays_92, eX6_lays_93, eX6_lays_95, eX6_lays_96, eX6_lays_99, eX6_lays_102, eX6_lays_105, eX6_lays_108, eX6_lays_109, kl_i, kl_r, kl_n, kl_l, true_and, and_true, true_implies, false_implies, not_true_eq_false, not_false_eq_true, i10, Classical.not_not, ok_m0, rf_m0, ai_mr0, rd_mr0, v182_2, N_2, pv_hi, e2, hle, ok_m13, rf_m13, ai_mr5, rd_mr5, isSh_vi c, e5, em, hle2, ← e3]
        exact ⟨rfl, rfl⟩
    | succ l ih =>
      intro i j4 j5 hi
      have e2 : (lyP (Z6 u s) (R6 u 1) (R6 u) i).1 2 = nI K := (lyP_hd _ _ _ (by decide) i).trans eK
      have e1 : (lyP (Z6 u s) (R6 u 1) (R6 u) i).1 1 = R6 u 1 := lyP_hd _ _ _ (by decide) i
      have e5 : (pv u 1100 (lyP (Z6 u s) (R6 u 1) (R6 u) i).1).1 (1444 + NN s) = u.1 (1444 + NN s) := by
        rw [show 1444 + NN s = 1100 + (344 + NN s) by omega, pv_hi]
        exact lyP_hi _ _ _ (by omega) i (by omega)
      have hlt : ¬ nI K ≤ nI i := nI_ge (by omega) (by omega)
      have hlt2 : ¬ nI m ≤ nI i := nI_ge (by omega) (by omega)
      obtain ⟨i1, i2⟩ := ix40 (i := nI i) (isSh_vi c) (vi_nI (by omega))
      rw [NN_nI (by omega)] at i2
      have hv : vp_in (nI i) 10 := vi_nI (by omega)
      have hNi : NN (nI i) = i := NN_nI (by omega)
      have z1 := z0 (lyP (Z6 u s) (R6 u 1) (R6 u) i).1
      have aV : atOk (pv u 1100 (lyP (Z6 u s) (R6 u 1) (R6 u) i).1) := Or.inl z1
      have eZ : u.2 (200 + (40 * NN s + i)) = Z6 u s i := rfl
      rw [eX6_lays_35]
      simp only [eX6_lays_0, eX6_lays_1, eX6_lays_4, eX6_lays_7, eX6_lays_8, eX6_lays_10, eX6_lays_13, eX6_lays_14, eX6_lays_15, eX6_lays_18, eX6_lays_19, eX6_lays_20, eX6_lays_23, eX6_lays_24, eX6_lays_27, eX6_lays_30, eX6_lays_31, eX6_lays_32, eX6_lays_33, eX6_lays_34, eX6_lays_36, eX6_lays_37, eX6_lays_40, eX6_lays_41, eX6_lays_42, eX6_lays_45, eX6_lays_46, eX6_lays_47, eX6_lays_50, eX6_lays_51, eX6_lays_52, eX6_lays_55, eX6_lays_56, eX6_lays_59, eX6_lays_61, eX6_lays_62, eX6_lays_63, eX6_lays_64, eX6_lays_65, eX6_lays_66, eX6_lays_68, eX6_lays_70, eX6_lays_73, eX6_lays_74, eX6_lays_77, eX6_lays_79, eX6_lays_80, eX6_lays_83, eX6_lays_84, eX6_lays_85, eX6_lays_86, eX6_lays_87, eX6_lays_90, eX6_lays_91, eX6_lays_92, eX6_lays_93, eX6_lays_95, eX6_lays_96, eX6_lays_99, eX6_lays_102, eX6_lays_105, eX6_lays_108, eX6_lays_109, kl_i, kl_r, kl_n, kl_l, true_and, and_true, true_implies, false_implies, not_true_eq_false, not_false_eq_true, i10, Classical.not_not, ok_m0, rf_m0, ai_mr0, rd_mr0, v182_2, v182_1, N_2, N_1, N_3, pv_hi, e2, e1, hlt, ok_m13, rf_m13, ai_mr5, rd_mr5, isSh_vi c, e5, em, hlt2, ok_m14, rf_m14, aj_mr6, xj_mr6, i1, i2, pv_2, eZ, lgc_lt, lg_cmp_ge, pX6_sets, mX6_sets, aV, hv, hNi, v7_3, RW6 z1, B6_0 z1]
      have go : ∀ (x : (Nat → Int32) × Int32) (y : MM) (j4 j5 : Option Value), x = lyP (Z6 u s) (R6 u 1) (R6 u) (i + 1) → y = pv u 1100 x.1 → GX6_lays w (fun r u' => r = some (.int (nf none (lyP (Z6 u s) (R6 u 1) (R6 u) (min K m)).2)) ∧ u' = nfM none u (pv u 1100 (lyP (Z6 u s) (R6 u 1) (R6 u) (min K m)).1)) 35 [some (.ref (mA w)), some (.int s), some (.int x.2), some (.int (nI i + 1)), j4, j5] [] y := fun x y j4 j5 hx hy => by rw [hy, hx, nI_1]; exact ih (i + 1) j4 j5 (by omega)
      refine ⟨fun a => go _ _ _ _ ?_ rfl, fun a => ⟨fun b => go _ _ _ _ ?_ rfl, fun b => go (ost (lyP (Z6 u s) (R6 u 1) (R6 u) i).1 i 3 (Z6 u s i).toInt32, (lyP (Z6 u s) (R6 u 1) (R6 u) i).2 + 1) _ _ _ ?_ ?_⟩⟩
      · rw [lyP, if_neg (fun z => absurd a (Int64.not_lt.mpr z.1))]
      · rw [lyP, if_neg (fun z => absurd z.2 (Int64.not_lt.mpr b))]
      · rw [lyP, if_pos ⟨Int64.not_lt.mp a, Int64.not_le.mp b⟩]
      · rw [pv_pv]; exact congrArg (fun x => pv u 1100 (ost x i 3 (Z6 u s i).toInt32)) (vw_pv u 1100 _)
  have := key (min K m) 0 none none (by omega)
  rw [show (lyP (Z6 u s) (R6 u 1) (R6 u) 0).1 = R6 u from rfl, pv6] at this
  exact this
set_option maxRecDepth 20000 in
theorem KX6_lays_ok (w : WW) : KOk w MX6_lays (KX6_lays w) := KOk_mk flX6_ok ciX6_ok clX6_ok (fun _ _ h => by cases h) (fun _ _ h => by cases h) (List.forall_mem_cons.mpr ⟨itV (n := 87) (by decide) (COk_V (n := 1) (ci := 6) (ctX6_finds w) wcX6_87 nmX6_finds (by decide) (by decide) rfl (prX6_finds w)), List.forall_mem_cons.mpr ⟨itV (n := 105) (by decide) (COk_V (n := 3) (ci := 6) (ctX6_sets w) wcX6_105 nmX6_sets (by decide) (by decide) rfl (prX6_sets w)), List.forall_mem_cons.mpr ⟨itS (n := 278) (COk_S (n := 1) (ctX6_isSheet w) wcX6_65814 nmX6_isSheet (by decide)), List.forall_mem_nil _⟩⟩⟩)
theorem ctX6_lays (w : WW) : CT w yX6_lays MX6_lays (csX6_lays w).2.1 (csX6_lays w).2.2 := by
  refine CT_of (by decide) rfl TX6_lays_ok TX6_lays_v (KX6_lays_ok w) (fun as u h => ?_)
  obtain ⟨a0, a1, rfl, h⟩ := sgRI h
  obtain ⟨rfl, hh⟩ := h
  refine ⟨Nat.le_of_ble_eq_true rfl, ?_⟩
  have key := vX6_lays w a1 u hh
  exact key
theorem prX6_lays (w : WW) : ∀ as u, (csX6_lays w).2.1 as u → ∃ a r, as = .ref a :: r ∧ r.length = 1 ∧ okO w a 6 := by
  intro as u h
  obtain ⟨a0, a1, rfl, h⟩ := sgRI h
  exact ⟨_, _, rfl, rfl, okO_m h⟩
theorem lgc_0 (x y : Int64) : lg_cmp x y = 0 ↔ x = y := by
  unfold lg_cmp; split
  · rename_i h; exact ⟨fun z => absurd z (by decide), fun z => absurd h (by rw [z]; exact fun t => Int64.lt_irrefl t)⟩
  · split
    · rename_i h; exact ⟨fun _ => h, fun _ => rfl⟩
    · rename_i h; exact ⟨fun z => absurd z (by decide), fun z => absurd z h⟩
theorem n0s : ((-1000000001 : Int32) = 0) = False ∧ ((-1000000005 : Int32) = 0) = False ∧ ((-1000000006 : Int32) = 0) = False := by decide
theorem rlJ_step (u : MM) (R : Nat → Int32) (b i : Nat) : uJ (rlJ u R b i) (b + i) (se R i 2).toInt64 = rlJ u R b (i + 1) := by
  apply Prod.ext
  · rfl
  · funext j
    simp only [rlJ, uJ, vp_updL]
    by_cases q : j = b + i
    · rw [if_pos q, if_pos (by omega), q, show b + i - b = i by omega]
    · rw [if_neg q]
      by_cases q2 : b ≤ j ∧ j < b + i
      · rw [if_pos q2, if_pos (by omega)]
      · rw [if_neg q2, if_neg (by omega)]
theorem rlJ_0 (u : MM) (R : Nat → Int32) (b : Nat) : rlJ u R b 0 = u := by
  apply Prod.ext
  · rfl
  · funext j; simp only [rlJ]; rw [if_neg (by omega)]
theorem vX6_roll (w : WW) : VX6_roll w := by
  intro s n u h
  obtain ⟨h6, hS⟩ := h
  have h0 := h6.1
  have hl := lnV h6.2
  have hLO : Ok (ln u) := hl.Ok h6.2
  have e0 : u.1 1100 = R6 u 0 := rfl
  obtain ⟨M, hM, eM, eN⟩ := i6M h6
  simp only [eX6_roll_0, eX6_roll_1, eX6_roll_4, eX6_roll_7, eX6_roll_9, eX6_roll_12, eX6_roll_13, eX6_roll_16, eX6_roll_17, eX6_roll_18, eX6_roll_21, eX6_roll_24, eX6_roll_27, eX6_roll_28, eX6_roll_31, eX6_roll_34, eX6_roll_36, eX6_roll_39, eX6_roll_40, eX6_roll_41, eX6_roll_44, eX6_roll_47, eX6_roll_49, eX6_roll_52, eX6_roll_53, eX6_roll_54, eX6_roll_55, eX6_roll_58, eX6_roll_59, eX6_roll_60, eX6_roll_63, eX6_roll_64, eX6_roll_65, eX6_roll_68, eX6_roll_69, eX6_roll_70, eX6_roll_73, eX6_roll_74, eX6_roll_78, eX6_roll_79, eX6_roll_80, eX6_roll_83, eX6_roll_86, eX6_roll_88, eX6_roll_89, eX6_roll_92, eX6_roll_93, eX6_roll_94, eX6_roll_97, eX6_roll_98, eX6_roll_101, eX6_roll_103, eX6_roll_104, eX6_roll_105, eX6_roll_107, eX6_roll_108, eX6_roll_109, eX6_roll_111, eX6_roll_112, eX6_roll_115, eX6_roll_116, eX6_roll_117, eX6_roll_120, eX6_roll_123, eX6_roll_124, eX6_roll_125, eX6_roll_128, eX6_roll_130, kl_i, kl_r, kl_n, kl_l, true_and, and_true, true_implies, false_implies, not_true_eq_false, not_false_eq_true, i10, Classical.not_not, pX6_isSheet, rX6_isSheet, pX6_isLong, rX6_isLong, pX6_isLate, rX6_isLate, bi_0, pf0, pf1, pf2, pf3, pf4, pf5, pf6, mf0, mf1, mf2, mf3, mf4, mf5, mf6, rX6_finds, ok_m12, rf_m12, ai_mr4, rd_mr4, e0, n0s.1, n0s.2.1, n0s.2.2, pX6_lends, pX6_go, mX6_go, atL, hLO, rX6_roll, mX6_roll, Option.some.injEq, Value.int.injEq]
  refine ⟨fun c => ⟨isSh_vi c, fun d => ⟨fun e => ⟨fun f => ?_, fun f => nf4 (by rw [rlNo, if_neg (fun z => z c), if_neg d, if_neg (fun z => z e), if_pos f])⟩, fun e => nf0 (by rw [rlNo, if_neg (fun z => z c), if_neg d, if_pos e])⟩, fun d => nf5 (by rw [rlNo, if_neg (fun z => z c), if_pos d])⟩, fun c => nf0 (by rw [rlNo, if_pos c])⟩
  have en : rlNo s n (u.1 (1440 + NN s)) (R6 u) = none := by rw [rlNo, if_neg (fun z => z c), if_neg d, if_neg (fun z => z e), if_neg f]
  rw [en, eN]
  obtain ⟨m, hm, em⟩ := hS (NN s) (isSh_N c)
  have hs4 := isSh_N c
  rw [em, NN_nI (show m < 2 ^ 31 by omega)]
  generalize hR : goP (NN n) (ln u) = R
  have e1 : R 1 = nI M := by rw [← hR, (goP_12 _).1, ← hl.2.1]; exact eM
  have hRh : ∀ i, 91 ≤ i → R i = ln u i := fun i hi => by rw [← hR]; exact goP_hi hLO hi _
  have hsc : sc u R = uI (pv (mX6_lends u) (B6 (mX6_lends u)) R) 1000 0 := rfl
  have eV : ∀ i, B6 (rlJ (pv (mX6_lends u) (B6 (mX6_lends u)) R) R (200 + 40 * NN s) i) = B6 (mX6_lends u) := fun i => B6_pv (mX6_lends u) R
  have rV : ∀ i, RW (rlJ (pv (mX6_lends u) (B6 (mX6_lends u)) R) R (200 + 40 * NN s) i) = R := fun i => RW_pv (mX6_lends u) R
  have aV : ∀ i, atOk (rlJ (pv (mX6_lends u) (B6 (mX6_lends u)) R) R (200 + 40 * NN s) i) := fun i => (atOk_pv (mX6_lends u) R).mpr (atL u)
  have sV : ∀ i, (rlJ (pv (mX6_lends u) (B6 (mX6_lends u)) R) R (200 + 40 * NN s) i).1 (1444 + NN s) = nI m := fun i => by
    show (pv (mX6_lends u) (B6 (mX6_lends u)) R).1 (1444 + NN s) = _
    rw [B6L, show 1444 + NN s = 1191 + (253 + NN s) by omega, pv_hi, hRh _ (by omega), ln_hi u (by omega), show 1191 + (253 + NN s) = 1444 + NN s by omega, em]
  have key : ∀ (l i : Nat), i + l = min M m → GX6_roll w (fun r u' => r = some (.int (nf none (nI (min M m)))) ∧ u' = nfM none u (rlJ (sc u R) R (200 + 40 * NN s) (min M m))) 76 [some (.ref (mA w)), some (.int s), some (.int n), some (.int 0), some (.int (nI i))] [] (rlJ (pv (mX6_lends u) (B6 (mX6_lends u)) R) R (200 + 40 * NN s) i) := by
    intro l
    induction l with
    | zero =>
      intro i hi
      have e3 : i = min M m := by omega
      rw [eX6_roll_76]
      by_cases q : M ≤ i
      · have hle : nI M ≤ nI i := nI_le q (by omega)
        simp only [eX6_roll_0, eX6_roll_1, eX6_roll_4, eX6_roll_7, eX6_roll_9, eX6_roll_12, eX6_roll_13, eX6_roll_16, eX6_roll_17, eX6_roll_18, eX6_roll_21, eX6_roll_24, eX6_roll_27, eX6_roll_28, eX6_roll_31, eX6_roll_34, eX6_roll_36, eX6_roll_39, eX6_roll_40, eX6_roll_41, eX6_roll_44, eX6_roll_47, eX6_roll_49, eX6_roll_52, eX6_roll_53, eX6_roll_54, eX6_roll_55, eX6_roll_58, eX6_roll_59, eX6_roll_60, eX6_roll_63, eX6_roll_64, eX6_roll_65, eX6_roll_68, eX6_roll_69, eX6_roll_70, eX6_roll_73, eX6_roll_74, eX6_roll_78, eX6_roll_79, eX6_roll_80, eX6_roll_83, eX6_roll_86, eX6_roll_88, eX6_roll_89, eX6_roll_92, eX6_roll_93, eX6_roll_94, eX6_roll_97, eX6_roll_98, eX6_roll_101, eX6_roll_103, eX6_roll_104, eX6_roll_105, eX6_roll_107, eX6_roll_108, eX6_roll_109, eX6_roll_111, eX6_roll_112, eX6_roll_115, eX6_roll_116, eX6_roll_117, eX6_roll_120, eX6_roll_123, eX6_roll_124, eX6_roll_125, eX6_roll_128, eX6_roll_130, kl_i, kl_r, kl_n, kl_l, true_and, and_true, true_implies, false_implies, not_true_eq_false, not_false_eq_true, i10, Classical.not_not, pOne, mX6_sets, mX6_setsChair, pX6_sets, pX6_setsChair, pX6_chair, pX6_man, pX6_its, RW_pv, pv_pv, B6_pv, atOk_pv, N_0, N_1, N_2, N_3, N_4, N_5, N_6, v7_0, v7_1, v7_2, v7_3, v7_4, v7_5, v7_6, v3_0, v3_1, v3_2, ch0, ch1, ch2, man0, man1, man2, man3, man4, man5, man6, its0, its1, its2, aV, rV, e1, hle, ok_m1, ix_m1, ← e3]
        exact ⟨rfl, rfl⟩
      · have hle : ¬ nI M ≤ nI i := nI_ge (by omega) (by omega)
        have hle2 : nI m ≤ nI i := nI_le (by omega) (by omega)
        simp only [eX6_roll_0, eX6_roll_1, eX6_roll_4, eX6_roll_7, eX6_roll_9, eX6_roll_12, eX6_roll_13, eX6_roll_16, eX6_roll_17, eX6_roll_18, eX6_roll_21, eX6_roll_24, eX6_roll_27, eX6_roll_28, eX6_roll_31, eX6_roll_34, eX6_roll_36, eX6_roll_39, eX6_roll_40, eX6_roll_41, eX6_roll_44, eX6_roll_47, eX6_roll_49, eX6_roll_52, eX6_roll_53, eX6_roll_54, eX6_roll_55, eX6_roll_58, eX6_roll_59, eX6_roll_60, eX6_roll_63, eX6_roll_64, eX6_roll_65, eX6_roll_68, eX6_roll_69, eX6_roll_70, eX6_roll_73, eX6_roll_74, eX6_roll_78, eX6_roll_79, eX6_roll_80, eX6_roll_83, eX6_roll_86, eX6_roll_88, eX6_roll_89, eX6_roll_92, eX6_roll_93, eX6_roll_94, eX6_roll_97, eX6_roll_98, eX6_roll_101, eX6_roll_103, eX6_roll_104, eX6_roll_105, eX6_roll_107, eX6_roll_108, eX6_roll_109, eX6_roll_111, eX6_roll_112, eX6_roll_115, eX6_roll_116, eX6_roll_117, eX6_roll_120, eX6_roll_123, eX6_roll_124, eX6_roll_125, eX6_roll_128, eX6_roll_130, kl_i, kl_r, kl_n, kl_l, true_and, and_true, true_implies, false_implies, not_true_eq_false, not_false_eq_true, i10, Classical.not_not, pOne, mX6_sets, mX6_setsChair, pX6_sets, pX6_setsChair, pX6_chair, pX6_man, pX6_its, RW_pv, pv_pv, B6_pv, atOk_pv, N_0, N_1, N_2, N_3, N_4, N_5, N_6, v7_0, v7_1, v7_2, v7_3, v7_4, v7_5, v7_6, v3_0, v3_1, v3_2, ch0, ch1, ch2, man0, man1, man2, man3, man4, man5, man6, its0, its1, its2, aV, rV, e1, hle, ok_m13, rf_m13, ai_mr5, rd_mr5, isSh_vi c, sV, hle2, ok_m1, ix_m1, ← e3]
        exact ⟨rfl, rfl⟩
    | succ l ih =>
      intro i hi
      have hlt : ¬ nI M ≤ nI i := nI_ge (by omega) (by omega)
      have hlt2 : ¬ nI m ≤ nI i := nI_ge (by omega) (by omega)
      obtain ⟨i1, i2⟩ := ix40 (i := nI i) (isSh_vi c) (vi_nI (by omega))
      rw [NN_nI (by omega)] at i2
      have hv : vp_in (nI i) 6 := vi_nI (by omega)
      have hNi : NN (nI i) = i := NN_nI (by omega)
      have st := rlJ_step (pv (mX6_lends u) (B6 (mX6_lends u)) R) R (200 + 40 * NN s) i
      rw [Nat.add_assoc 200] at st
      rw [eX6_roll_76]
      simp only [eX6_roll_0, eX6_roll_1, eX6_roll_4, eX6_roll_7, eX6_roll_9, eX6_roll_12, eX6_roll_13, eX6_roll_16, eX6_roll_17, eX6_roll_18, eX6_roll_21, eX6_roll_24, eX6_roll_27, eX6_roll_28, eX6_roll_31, eX6_roll_34, eX6_roll_36, eX6_roll_39, eX6_roll_40, eX6_roll_41, eX6_roll_44, eX6_roll_47, eX6_roll_49, eX6_roll_52, eX6_roll_53, eX6_roll_54, eX6_roll_55, eX6_roll_58, eX6_roll_59, eX6_roll_60, eX6_roll_63, eX6_roll_64, eX6_roll_65, eX6_roll_68, eX6_roll_69, eX6_roll_70, eX6_roll_73, eX6_roll_74, eX6_roll_78, eX6_roll_79, eX6_roll_80, eX6_roll_83, eX6_roll_86, eX6_roll_88, eX6_roll_89, eX6_roll_92, eX6_roll_93, eX6_roll_94, eX6_roll_97, eX6_roll_98, eX6_roll_101, eX6_roll_103, eX6_roll_104, eX6_roll_105, eX6_roll_107, eX6_roll_108, eX6_roll_109, eX6_roll_111, eX6_roll_112, eX6_roll_115, eX6_roll_116, eX6_roll_117, eX6_roll_120, eX6_roll_123, eX6_roll_124, eX6_roll_125, eX6_roll_128, eX6_roll_130, kl_i, kl_r, kl_n, kl_l, true_and, and_true, true_implies, false_implies, not_true_eq_false, not_false_eq_true, i10, Classical.not_not, pOne, mX6_sets, mX6_setsChair, pX6_sets, pX6_setsChair, pX6_chair, pX6_man, pX6_its, RW_pv, pv_pv, B6_pv, atOk_pv, N_0, N_1, N_2, N_3, N_4, N_5, N_6, v7_0, v7_1, v7_2, v7_3, v7_4, v7_5, v7_6, v3_0, v3_1, v3_2, ch0, ch1, ch2, man0, man1, man2, man3, man4, man5, man6, its0, its1, its2, aV, rV, e1, hlt, ok_m13, rf_m13, ai_mr5, rd_mr5, isSh_vi c, sV, hlt2, ok_m14, rf_m14, aj_mr6, xj_mr6, i1, i2, hv, hNi, st]
      rw [nI_1]
      exact ih (i + 1) (by omega)
  have := key (min M m) 0 (by omega)
  rw [rlJ_0] at this
  exact this
set_option maxRecDepth 20000 in
theorem KX6_roll_ok (w : WW) : KOk w MX6_roll (KX6_roll w) := KOk_mk flX6_ok ciX6_ok clX6_ok (fun _ _ h => by cases h) (fun _ _ h => by cases h) (List.forall_mem_cons.mpr ⟨itV (n := 46) (by decide) (COk_V (n := 1) (ci := 6) (ctX6_its w) wcX6_46 nmX6_its (by decide) (by decide) rfl (prX6_its w)), List.forall_mem_cons.mpr ⟨itV (n := 71) (by decide) (COk_V (n := 2) (ci := 6) (ctX6_chair w) wcX6_71 nmX6_chair (by decide) (by decide) rfl (prX6_chair w)), List.forall_mem_cons.mpr ⟨itV (n := 87) (by decide) (COk_V (n := 1) (ci := 6) (ctX6_finds w) wcX6_87 nmX6_finds (by decide) (by decide) rfl (prX6_finds w)), List.forall_mem_cons.mpr ⟨itV (n := 148) (by decide) (COk_V (n := 1) (ci := 6) (ctX6_isLate w) wcX6_148 nmX6_isLate (by decide) (by decide) rfl (prX6_isLate w)), List.forall_mem_cons.mpr ⟨itV (n := 151) (by decide) (COk_V (n := 1) (ci := 6) (ctX6_go w) wcX6_151 nmX6_go (by decide) (by decide) rfl (prX6_go w)), List.forall_mem_cons.mpr ⟨itV (n := 157) (by decide) (COk_V (n := 0) (ci := 6) (ctX6_lends w) wcX6_157 nmX6_lends (by decide) (by decide) rfl (prX6_lends w)), List.forall_mem_cons.mpr ⟨itS (n := 154) (COk_S (n := 1) (ctX6_isLong w) wcX6_65690 nmX6_isLong (by decide)), List.forall_mem_cons.mpr ⟨itS (n := 278) (COk_S (n := 1) (ctX6_isSheet w) wcX6_65814 nmX6_isSheet (by decide)), List.forall_mem_nil _⟩⟩⟩⟩⟩⟩⟩⟩)
theorem ctX6_roll (w : WW) : CT w yX6_roll MX6_roll (csX6_roll w).2.1 (csX6_roll w).2.2 := by
  refine CT_of (by decide) rfl TX6_roll_ok TX6_roll_v (KX6_roll_ok w) (fun as u h => ?_)
  obtain ⟨a0, a1, a2, rfl, h⟩ := sgRII h
  obtain ⟨rfl, hh⟩ := h
  refine ⟨Nat.le_of_ble_eq_true rfl, ?_⟩
  have key := vX6_roll w a1 a2 u hh
  exact key
theorem prX6_roll (w : WW) : ∀ as u, (csX6_roll w).2.1 as u → ∃ a r, as = .ref a :: r ∧ r.length = 2 ∧ okO w a 6 := by
  intro as u h
  obtain ⟨a0, a1, a2, rfl, h⟩ := sgRII h
  exact ⟨_, _, rfl, rfl, okO_m h⟩
theorem rdW_lv {Z : Nat → Int64} {e : Nat} : ∀ (f k : Nat) {R S : Nat → Int32}, Lv R S → Ok R → e < NN (R 1) → (rdW Z e k f S).1 = (rdW Z e k f R).1
  | 0, _, _, _, _, _, _ => rfl
  | f + 1, k, R, S, l, h, he => by
    simp only [rdW]
    rw [l.2.2.2.1 e he 2 (by decide)]
    split
    · exact rdW_lv f (k + 1) (secP_lv l h) (secP_Ok h) (by rw [secP_12.1]; exact he)
    · rfl
theorem vX6_read (w : WW) : VX6_read w := by
  intro s e u h
  obtain ⟨h6, hS⟩ := h
  have h0 := h6.1
  have ha : atOk u := Or.inl h0
  have hl := lnV h6.2
  have hLO : Ok (ln u) := hl.Ok h6.2
  have e0 : u.1 1100 = R6 u 0 := rfl
  simp only [eX6_read_0, eX6_read_1, eX6_read_4, eX6_read_7, eX6_read_9, eX6_read_12, eX6_read_13, eX6_read_16, eX6_read_17, eX6_read_18, eX6_read_21, eX6_read_24, eX6_read_27, eX6_read_28, eX6_read_29, eX6_read_32, eX6_read_35, eX6_read_37, eX6_read_40, eX6_read_41, eX6_read_43, eX6_read_46, eX6_read_49, eX6_read_51, eX6_read_54, eX6_read_55, eX6_read_56, eX6_read_57, eX6_read_60, eX6_read_61, eX6_read_62, eX6_read_65, eX6_read_66, eX6_read_67, eX6_read_70, eX6_read_71, eX6_read_73, eX6_read_74, eX6_read_78, eX6_read_79, eX6_read_82, eX6_read_83, eX6_read_84, eX6_read_87, eX6_read_89, eX6_read_92, eX6_read_93, eX6_read_96, eX6_read_98, eX6_read_99, eX6_read_100, eX6_read_102, eX6_read_103, eX6_read_104, eX6_read_105, eX6_read_106, eX6_read_107, eX6_read_110, eX6_read_111, eX6_read_112, eX6_read_115, eX6_read_116, eX6_read_119, eX6_read_121, eX6_read_122, eX6_read_123, eX6_read_125, eX6_read_126, eX6_read_129, eX6_read_132, eX6_read_135, eX6_read_136, eX6_read_137, eX6_read_140, eX6_read_142, kl_i, kl_r, kl_n, kl_l, true_and, and_true, true_implies, false_implies, not_true_eq_false, not_false_eq_true, i10, Classical.not_not, pX6_isSheet, rX6_isSheet, pX6_isSeat, rX6_isSeat, pX6_isLate, rX6_isLate, ha, RW6 h0, bi_0, pf0, pf1, pf2, pf3, pf4, pf5, pf6, mf0, mf1, mf2, mf3, mf4, mf5, mf6, rX6_finds, ok_m12, rf_m12, ai_mr4, rd_mr4, e0, n0s.1, n0s.2.1, n0s.2.2, pX6_lends, rX6_read, mX6_read, Option.some.injEq, Value.int.injEq]
  refine ⟨fun c => ⟨isSh_vi c, fun d => ⟨fun g => ⟨fun f => ?_, fun f => nf4 (by rw [rdNo, if_neg (fun z => z c), if_neg d, if_neg (fun z => z g), if_pos f])⟩, fun g => nf0 (by rw [rdNo, if_neg (fun z => z c), if_neg d, if_pos g])⟩, fun d => nf5 (by rw [rdNo, if_neg (fun z => z c), if_pos d])⟩, fun c => nf0 (by rw [rdNo, if_pos c])⟩
  have en : rdNo s e (u.1 (1440 + NN s)) (R6 u) = none := by rw [rdNo, if_neg (fun z => z c), if_neg d, if_neg (fun z => z g), if_neg f]
  rw [en]
  obtain ⟨m, hm, em⟩ := hS (NN s) (isSh_N c)
  have hs4 := isSh_N c
  have he := (isSt_vi h6.2).mp g
  have he6 : vp_in e 6 := vi_mono he h6.2.M.1
  have heN : NN e < NN (R6 u 1) := vi_lt he
  rw [em, NN_nI (show m < 2 ^ 31 by omega), ← rdW_lv (Z := Z6 u s) m 0 hl h6.2 heN]
  have sV : ∀ R : Nat → Int32, (∀ i, 91 ≤ i → R i = ln u i) → (pv (mX6_lends u) (B6 (mX6_lends u)) R).1 (1444 + NN s) = nI m := fun R hR => by
    rw [B6L, show 1444 + NN s = 1191 + (253 + NN s) by omega, pv_hi, hR _ (by omega), ln_hi u (by omega), show 1191 + (253 + NN s) = 1444 + NN s by omega, em]
  have jV : ∀ (R : Nat → Int32) (i : Nat), (pv (mX6_lends u) (B6 (mX6_lends u)) R).2 (200 + (40 * NN s + i)) = Z6 u s i := fun R i => rfl
  have key : ∀ (l i : Nat) (R : Nat → Int32), i + l = m → Ok R → (∀ i, 91 ≤ i → R i = ln u i) → rdW (Z6 u s) (NN e) i l R = rdW (Z6 u s) (NN e) 0 m (ln u) → GX6_read w (fun r u' => r = some (.int (nf none (rdW (Z6 u s) (NN e) 0 m (ln u)).1)) ∧ u' = nfM none u (sc u (rdW (Z6 u s) (NN e) 0 m (ln u)).2)) 76 [some (.ref (mA w)), some (.int s), some (.int e), some (.int 0), some (.int 0), some (.int (nI i))] [] (pv (mX6_lends u) (B6 (mX6_lends u)) R) := by
    intro l
    induction l with
    | zero =>
      intro i R hi hO hR er
      have e3 : i = m := by omega
      subst e3
      have hle : nI i ≤ nI i := Int32.le_refl _
      rw [eX6_read_76]
      simp only [eX6_read_0, eX6_read_1, eX6_read_4, eX6_read_7, eX6_read_9, eX6_read_12, eX6_read_13, eX6_read_16, eX6_read_17, eX6_read_18, eX6_read_21, eX6_read_24, eX6_read_27, eX6_read_28, eX6_read_29, eX6_read_32, eX6_read_35, eX6_read_37, eX6_read_40, eX6_read_41, eX6_read_43, eX6_read_46, eX6_read_49, eX6_read_51, eX6_read_54, eX6_read_55, eX6_read_56, eX6_read_57, eX6_read_60, eX6_read_61, eX6_read_62, eX6_read_65, eX6_read_66, eX6_read_67, eX6_read_70, eX6_read_71, eX6_read_73, eX6_read_74, eX6_read_78, eX6_read_79, eX6_read_82, eX6_read_83, eX6_read_84, eX6_read_87, eX6_read_89, eX6_read_92, eX6_read_93, eX6_read_96, eX6_read_98, eX6_read_99, eX6_read_100, eX6_read_102, eX6_read_103, eX6_read_104, eX6_read_105, eX6_read_106, eX6_read_107, eX6_read_110, eX6_read_111, eX6_read_112, eX6_read_115, eX6_read_116, eX6_read_119, eX6_read_121, eX6_read_122, eX6_read_123, eX6_read_125, eX6_read_126, eX6_read_129, eX6_read_132, eX6_read_135, eX6_read_136, eX6_read_137, eX6_read_140, eX6_read_142, kl_i, kl_r, kl_n, kl_l, true_and, and_true, true_implies, false_implies, not_true_eq_false, not_false_eq_true, i10, Classical.not_not, ok_m13, rf_m13, ai_mr5, rd_mr5, isSh_vi c, sV R hR, hle, ok_m1, ix_m1]
      rw [← er]
      exact ⟨rfl, rfl⟩
    | succ l ih =>
      intro i R hi hO hR er
      have hlt : ¬ nI m ≤ nI i := nI_ge (by omega) (by omega)
      obtain ⟨i1, i2⟩ := ix40 (i := nI i) (isSh_vi c) (vi_nI (by omega))
      rw [NN_nI (by omega)] at i2
      have hR2 : ∀ i, 91 ≤ i → secP R i = ln u i := fun i hi => (secP_hi hO hi).trans (hR i hi)
      rw [rdW] at er
      rw [eX6_read_76]
      simp only [eX6_read_0, eX6_read_1, eX6_read_4, eX6_read_7, eX6_read_9, eX6_read_12, eX6_read_13, eX6_read_16, eX6_read_17, eX6_read_18, eX6_read_21, eX6_read_24, eX6_read_27, eX6_read_28, eX6_read_29, eX6_read_32, eX6_read_35, eX6_read_37, eX6_read_40, eX6_read_41, eX6_read_43, eX6_read_46, eX6_read_49, eX6_read_51, eX6_read_54, eX6_read_55, eX6_read_56, eX6_read_57, eX6_read_60, eX6_read_61, eX6_read_62, eX6_read_65, eX6_read_66, eX6_read_67, eX6_read_70, eX6_read_71, eX6_read_73, eX6_read_74, eX6_read_78, eX6_read_79, eX6_read_82, eX6_read_83, eX6_read_84, eX6_read_87, eX6_read_89, eX6_read_92, eX6_read_93, eX6_read_96, eX6_read_98, eX6_read_99, eX6_read_100, eX6_read_102, eX6_read_103, eX6_read_104, eX6_read_105, eX6_read_106, eX6_read_107, eX6_read_110, eX6_read_111, eX6_read_112, eX6_read_115, eX6_read_116, eX6_read_119, eX6_read_121, eX6_read_122, eX6_read_123, eX6_read_125, eX6_read_126, eX6_read_129, eX6_read_132, eX6_read_135, eX6_read_136, eX6_read_137, eX6_read_140, eX6_read_142, kl_i, kl_r, kl_n, kl_l, true_and, and_true, true_implies, false_implies, not_true_eq_false, not_false_eq_true, i10, Classical.not_not, pOne, mX6_sets, mX6_setsChair, pX6_sets, pX6_setsChair, pX6_chair, pX6_man, pX6_its, RW_pv, pv_pv, B6_pv, atOk_pv, N_0, N_1, N_2, N_3, N_4, N_5, N_6, v7_0, v7_1, v7_2, v7_3, v7_4, v7_5, v7_6, v3_0, v3_1, v3_2, ch0, ch1, ch2, man0, man1, man2, man3, man4, man5, man6, its0, its1, its2, ok_m13, rf_m13, ai_mr5, rd_mr5, isSh_vi c, sV R hR, hlt, ok_m14, rf_m14, aj_mr6, xj_mr6, i1, i2, jV, atL, he6, pX6_secondGoes, mX6_secondGoes, hO]
      refine ⟨fun a => ?_, fun a => ?_⟩
      · have a2 : ¬ Z6 u s i = (se R (NN e) 2).toInt64 := fun z => a ((lgc_0 _ _).mpr z)
        rw [if_neg a2] at er
        rw [nI_1, eX6_read_76]
        have h1 : ¬ nI (i + 1) = 0 := nI_ne0 (by omega) (by omega)
        by_cases q : m ≤ i + 1
        · have hle : nI m ≤ nI (i + 1) := nI_le q (by omega)
          simp only [eX6_read_0, eX6_read_1, eX6_read_4, eX6_read_7, eX6_read_9, eX6_read_12, eX6_read_13, eX6_read_16, eX6_read_17, eX6_read_18, eX6_read_21, eX6_read_24, eX6_read_27, eX6_read_28, eX6_read_29, eX6_read_32, eX6_read_35, eX6_read_37, eX6_read_40, eX6_read_41, eX6_read_43, eX6_read_46, eX6_read_49, eX6_read_51, eX6_read_54, eX6_read_55, eX6_read_56, eX6_read_57, eX6_read_60, eX6_read_61, eX6_read_62, eX6_read_65, eX6_read_66, eX6_read_67, eX6_read_70, eX6_read_71, eX6_read_73, eX6_read_74, eX6_read_78, eX6_read_79, eX6_read_82, eX6_read_83, eX6_read_84, eX6_read_87, eX6_read_89, eX6_read_92, eX6_read_93, eX6_read_96, eX6_read_98, eX6_read_99, eX6_read_100, eX6_read_102, eX6_read_103, eX6_read_104, eX6_read_105, eX6_read_106, eX6_read_107, eX6_read_110, eX6_read_111, eX6_read_112, eX6_read_115, eX6_read_116, eX6_read_119, eX6_read_121, eX6_read_122, eX6_read_123, eX6_read_125, eX6_read_126, eX6_read_129, eX6_read_132, eX6_read_135, eX6_read_136, eX6_read_137, eX6_read_140, eX6_read_142, kl_i, kl_r, kl_n, kl_l, true_and, and_true, true_implies, false_implies, not_true_eq_false, not_false_eq_true, i10, Classical.not_not, ok_m13, rf_m13, ai_mr5, rd_mr5, isSh_vi c, sV (secP R) hR2, hle, ok_m1, ix_m1]
          rw [← er]
          exact ⟨rfl, rfl⟩
        · have hle : ¬ nI m ≤ nI (i + 1) := nI_ge (by omega) (by omega)
          simp only [eX6_read_0, eX6_read_1, eX6_read_4, eX6_read_7, eX6_read_9, eX6_read_12, eX6_read_13, eX6_read_16, eX6_read_17, eX6_read_18, eX6_read_21, eX6_read_24, eX6_read_27, eX6_read_28, eX6_read_29, eX6_read_32, eX6_read_35, eX6_read_37, eX6_read_40, eX6_read_41, eX6_read_43, eX6_read_46, eX6_read_49, eX6_read_51, eX6_read_54, eX6_read_55, eX6_read_56, eX6_read_57, eX6_read_60, eX6_read_61, eX6_read_62, eX6_read_65, eX6_read_66, eX6_read_67, eX6_read_70, eX6_read_71, eX6_read_73, eX6_read_74, eX6_read_78, eX6_read_79, eX6_read_82, eX6_read_83, eX6_read_84, eX6_read_87, eX6_read_89, eX6_read_92, eX6_read_93, eX6_read_96, eX6_read_98, eX6_read_99, eX6_read_100, eX6_read_102, eX6_read_103, eX6_read_104, eX6_read_105, eX6_read_106, eX6_read_107, eX6_read_110, eX6_read_111, eX6_read_112, eX6_read_115, eX6_read_116, eX6_read_119, eX6_read_121, eX6_read_122, eX6_read_123, eX6_read_125, eX6_read_126, eX6_read_129, eX6_read_132, eX6_read_135, eX6_read_136, eX6_read_137, eX6_read_140, eX6_read_142, kl_i, kl_r, kl_n, kl_l, true_and, and_true, true_implies, false_implies, not_true_eq_false, not_false_eq_true, i10, Classical.not_not, ok_m13, rf_m13, ai_mr5, rd_mr5, isSh_vi c, sV (secP R) hR2, hle, h1, ok_m1, ix_m1]
          rw [← er]
          exact ⟨rfl, rfl⟩
      · rw [if_pos ((lgc_0 _ _).mp a)] at er
        rw [nI_1]
        exact ih (i + 1) _ (by omega) (secP_Ok hO) hR2 er
  have := key m 0 (ln u) (by omega) hLO (fun _ _ => rfl) rfl
  rw [pv_vw] at this
  exact this
set_option maxRecDepth 20000 in
theorem KX6_read_ok (w : WW) : KOk w MX6_read (KX6_read w) := KOk_mk flX6_ok ciX6_ok clX6_ok (fun _ _ h => by cases h) (fun _ _ h => by cases h) (List.forall_mem_cons.mpr ⟨itV (n := 71) (by decide) (COk_V (n := 2) (ci := 6) (ctX6_chair w) wcX6_71 nmX6_chair (by decide) (by decide) rfl (prX6_chair w)), List.forall_mem_cons.mpr ⟨itV (n := 87) (by decide) (COk_V (n := 1) (ci := 6) (ctX6_finds w) wcX6_87 nmX6_finds (by decide) (by decide) rfl (prX6_finds w)), List.forall_mem_cons.mpr ⟨itV (n := 99) (by decide) (COk_V (n := 1) (ci := 6) (ctX6_isSeat w) wcX6_99 nmX6_isSeat (by decide) (by decide) rfl (prX6_isSeat w)), List.forall_mem_cons.mpr ⟨itV (n := 145) (by decide) (COk_V (n := 0) (ci := 6) (ctX6_secondGoes w) wcX6_145 nmX6_secondGoes (by decide) (by decide) rfl (prX6_secondGoes w)), List.forall_mem_cons.mpr ⟨itV (n := 148) (by decide) (COk_V (n := 1) (ci := 6) (ctX6_isLate w) wcX6_148 nmX6_isLate (by decide) (by decide) rfl (prX6_isLate w)), List.forall_mem_cons.mpr ⟨itV (n := 157) (by decide) (COk_V (n := 0) (ci := 6) (ctX6_lends w) wcX6_157 nmX6_lends (by decide) (by decide) rfl (prX6_lends w)), List.forall_mem_cons.mpr ⟨itS (n := 278) (COk_S (n := 1) (ctX6_isSheet w) wcX6_65814 nmX6_isSheet (by decide)), List.forall_mem_nil _⟩⟩⟩⟩⟩⟩⟩)
theorem ctX6_read (w : WW) : CT w yX6_read MX6_read (csX6_read w).2.1 (csX6_read w).2.2 := by
  refine CT_of (by decide) rfl TX6_read_ok TX6_read_v (KX6_read_ok w) (fun as u h => ?_)
  obtain ⟨a0, a1, a2, rfl, h⟩ := sgRII h
  obtain ⟨rfl, hh⟩ := h
  refine ⟨Nat.le_of_ble_eq_true rfl, ?_⟩
  have key := vX6_read w a1 a2 u hh
  exact key
theorem prX6_read (w : WW) : ∀ as u, (csX6_read w).2.1 as u → ∃ a r, as = .ref a :: r ∧ r.length = 2 ∧ okO w a 6 := by
  intro as u h
  obtain ⟨a0, a1, a2, rfl, h⟩ := sgRII h
  exact ⟨_, _, rfl, rfl, okO_m h⟩
