/-! ===== the reference's guard, twice and seconds, walked ===== -/
theorem grdR_Ok {s : Nat} {own : Int32} : ∀ f R, Ok R → Ok (grdR s own f R)
  | 0, _, h => h
  | f + 1, R, h => by
    simp only [grdR]; split
    · exact grdR_Ok f _ (secP_Ok h)
    · exact secP_Ok h
theorem grdR_hi {s : Nat} {own : Int32} {i : Nat} (hi : 91 ≤ i) : ∀ f R, Ok R → grdR s own f R i = R i
  | 0, _, _ => rfl
  | f + 1, R, h => by
    simp only [grdR]; split
    · rw [grdR_hi hi f _ (secP_Ok h), secP_hi h hi]
    · exact secP_hi h hi
theorem secP_12 (R : Nat → Int32) : secP R 1 = R 1 ∧ secP R 2 = R 2 := goP_12 (R := R) 1
theorem grdN_lv {s : Nat} {own : Int32} : ∀ f {R S : Nat → Int32}, Lv R S → Ok R → s < NN (R 1) → grdN s own f S = grdN s own f R
  | 0, _, _, _, _, _ => rfl
  | f + 1, R, S, l, h, hs => by
    have l2 := secP_lv l h
    have hs2 : s < NN (secP R 1) := by rw [(secP_12 R).1]; exact hs
    simp only [grdN]
    rw [l2.2.2.2.1 s hs2 2 (by decide), grdN_lv f l2 (secP_Ok h) hs2]
theorem grdN_le {s : Nat} {own : Int32} : ∀ f R, grdN s own f R ≤ f
  | 0, _ => Nat.le_refl _
  | f + 1, R => by simp only [grdN]; split; { have := grdN_le (s := s) (own := own) f (secP R); omega }; { omega }
theorem vX6_guards (w : WW) : VX6_guards w := by
  intro c p s u h
  obtain ⟨h6, hc, hs⟩ := h
  have h0 := h6.1
  have ha : atOk u := Or.inl h0
  have hl := lnV h6.2
  have l2 := ost_lv (c := NN c) (k := 1) hl h6.2.M.1 (by decide) p
  have hO : Ok (ost (R6 u) (NN c) 1 p) := Ok1 h6.2
  have hO2 : Ok (ost (ln u) (NN c) 1 p) := l2.Ok hO
  have hc10 : vp_in c 10 := vi_mono hc h6.2.K.1
  have hs6 : vp_in s 6 := vi_mono hs h6.2.M.1
  have hsN : NN s < NN (R6 u 1) := vi_lt hs
  have er : grdN (NN s) (se (R6 u) (NN s) 2) 100 (ost (R6 u) (NN c) 1 p) = grdN (NN s) (se (R6 u) (NN s) 2) 100 (ost (ln u) (NN c) 1 p) := (grdN_lv 100 l2 hO (by rw [hd_ost (by decide)]; exact hsN)).symm
  simp only [eX6_guards_0, eX6_guards_1, eX6_guards_2, eX6_guards_3, eX6_guards_6, eX6_guards_8, eX6_guards_9, eX6_guards_12, eX6_guards_13, eX6_guards_14, eX6_guards_15, eX6_guards_16, eX6_guards_19, eX6_guards_20, eX6_guards_22, eX6_guards_23, eX6_guards_27, eX6_guards_30, eX6_guards_32, eX6_guards_34, eX6_guards_37, eX6_guards_38, eX6_guards_41, eX6_guards_42, eX6_guards_43, eX6_guards_44, eX6_guards_47, eX6_guards_49, eX6_guards_52, eX6_guards_53, eX6_guards_56, eX6_guards_57, eX6_guards_59, eX6_guards_61, eX6_guards_63, eX6_guards_66, eX6_guards_67, eX6_guards_70, eX6_guards_71, eX6_guards_72, eX6_guards_74, eX6_guards_77, eX6_guards_78, eX6_guards_79, eX6_guards_82, eX6_guards_84, kl_i, kl_r, kl_n, kl_l, true_and, and_true, true_implies, false_implies, not_true_eq_false, not_false_eq_true, i10, Classical.not_not, pOne, mX6_sets, mX6_setsChair, pX6_sets, pX6_setsChair, pX6_chair, pX6_man, pX6_its, RW_pv, pv_pv, B6_pv, atOk_pv, N_0, N_1, N_2, N_3, N_4, N_5, N_6, v7_0, v7_1, v7_2, v7_3, v7_4, v7_5, v7_6, v3_0, v3_1, v3_2, ch0, ch1, ch2, man0, man1, man2, man3, man4, man5, man6, its0, its1, its2, pX6_lends, atL, ha, hc10, hs6, RW6 h0, rX6_guards, mX6_guards, er]
  have key : ∀ (f n : Nat) (R : Nat → Int32), n + f = 100 → Ok R → n + grdN (NN s) (se (R6 u) (NN s) 2) f R = grdN (NN s) (se (R6 u) (NN s) 2) 100 (ost (ln u) (NN c) 1 p) → grdR (NN s) (se (R6 u) (NN s) 2) f R = grdR (NN s) (se (R6 u) (NN s) 2) 100 (ost (ln u) (NN c) 1 p) → GX6_guards w (fun r u' => r = some (.int (nI (grdN (NN s) (se (R6 u) (NN s) 2) 100 (ost (ln u) (NN c) 1 p)))) ∧ u' = sc u (grdR (NN s) (se (R6 u) (NN s) 2) 100 (ost (ln u) (NN c) 1 p))) 25 [some (.ref (mA w)), some (.int c), some (.int p), some (.int s), some (.int (se (R6 u) (NN s) 2)), some (.int (nI n)), some (.int 1)] [] (pv (mX6_lends u) (B6 (mX6_lends u)) R) := by
    intro f
    induction f with
    | zero =>
      intro n R hn hR e1 e2
      have e3 : n = 100 := by omega
      subst e3
      rw [eX6_guards_25]
      simp only [eX6_guards_0, eX6_guards_1, eX6_guards_2, eX6_guards_3, eX6_guards_6, eX6_guards_8, eX6_guards_9, eX6_guards_12, eX6_guards_13, eX6_guards_14, eX6_guards_15, eX6_guards_16, eX6_guards_19, eX6_guards_20, eX6_guards_22, eX6_guards_23, eX6_guards_27, eX6_guards_30, eX6_guards_32, eX6_guards_34, eX6_guards_37, eX6_guards_38, eX6_guards_41, eX6_guards_42, eX6_guards_43, eX6_guards_44, eX6_guards_47, eX6_guards_49, eX6_guards_52, eX6_guards_53, eX6_guards_56, eX6_guards_57, eX6_guards_59, eX6_guards_61, eX6_guards_63, eX6_guards_66, eX6_guards_67, eX6_guards_70, eX6_guards_71, eX6_guards_72, eX6_guards_74, eX6_guards_77, eX6_guards_78, eX6_guards_79, eX6_guards_82, eX6_guards_84, kl_i, kl_r, kl_n, kl_l, true_and, and_true, true_implies, false_implies, not_true_eq_false, not_false_eq_true, i10, Classical.not_not, h100, ok_m1, ix_m1]
      exact ⟨by rw [← e1]; rfl, by rw [← e2]; rfl⟩
    | succ f ih =>
      intro n R hn hR e1 e2
      have hlt := le100 n (by omega)
      rw [grdN] at e1
      rw [grdR] at e2
      rw [eX6_guards_25]
      by_cases q : se (secP R) (NN s) 2 = se (R6 u) (NN s) 2
      · rw [if_pos q] at e1 e2
        simp only [eX6_guards_0, eX6_guards_1, eX6_guards_2, eX6_guards_3, eX6_guards_6, eX6_guards_8, eX6_guards_9, eX6_guards_12, eX6_guards_13, eX6_guards_14, eX6_guards_15, eX6_guards_16, eX6_guards_19, eX6_guards_20, eX6_guards_22, eX6_guards_23, eX6_guards_27, eX6_guards_30, eX6_guards_32, eX6_guards_34, eX6_guards_37, eX6_guards_38, eX6_guards_41, eX6_guards_42, eX6_guards_43, eX6_guards_44, eX6_guards_47, eX6_guards_49, eX6_guards_52, eX6_guards_53, eX6_guards_56, eX6_guards_57, eX6_guards_59, eX6_guards_61, eX6_guards_63, eX6_guards_66, eX6_guards_67, eX6_guards_70, eX6_guards_71, eX6_guards_72, eX6_guards_74, eX6_guards_77, eX6_guards_78, eX6_guards_79, eX6_guards_82, eX6_guards_84, kl_i, kl_r, kl_n, kl_l, true_and, and_true, true_implies, false_implies, not_true_eq_false, not_false_eq_true, i10, Classical.not_not, pOne, mX6_sets, mX6_setsChair, pX6_sets, pX6_setsChair, pX6_chair, pX6_man, pX6_its, RW_pv, pv_pv, B6_pv, atOk_pv, N_0, N_1, N_2, N_3, N_4, N_5, N_6, v7_0, v7_1, v7_2, v7_3, v7_4, v7_5, v7_6, v3_0, v3_1, v3_2, ch0, ch1, ch2, man0, man1, man2, man3, man4, man5, man6, its0, its1, its2, hlt, atL, hR, hs6, pX6_secondGoes, mX6_secondGoes, q]
        rw [nI_1]
        exact ih (n + 1) _ (by omega) (secP_Ok hR) (by rw [← e1]; omega) e2
      · rw [if_neg q] at e1 e2
        simp only [eX6_guards_0, eX6_guards_1, eX6_guards_2, eX6_guards_3, eX6_guards_6, eX6_guards_8, eX6_guards_9, eX6_guards_12, eX6_guards_13, eX6_guards_14, eX6_guards_15, eX6_guards_16, eX6_guards_19, eX6_guards_20, eX6_guards_22, eX6_guards_23, eX6_guards_27, eX6_guards_30, eX6_guards_32, eX6_guards_34, eX6_guards_37, eX6_guards_38, eX6_guards_41, eX6_guards_42, eX6_guards_43, eX6_guards_44, eX6_guards_47, eX6_guards_49, eX6_guards_52, eX6_guards_53, eX6_guards_56, eX6_guards_57, eX6_guards_59, eX6_guards_61, eX6_guards_63, eX6_guards_66, eX6_guards_67, eX6_guards_70, eX6_guards_71, eX6_guards_72, eX6_guards_74, eX6_guards_77, eX6_guards_78, eX6_guards_79, eX6_guards_82, eX6_guards_84, kl_i, kl_r, kl_n, kl_l, true_and, and_true, true_implies, false_implies, not_true_eq_false, not_false_eq_true, i10, Classical.not_not, pOne, mX6_sets, mX6_setsChair, pX6_sets, pX6_setsChair, pX6_chair, pX6_man, pX6_its, RW_pv, pv_pv, B6_pv, atOk_pv, N_0, N_1, N_2, N_3, N_4, N_5, N_6, v7_0, v7_1, v7_2, v7_3, v7_4, v7_5, v7_6, v3_0, v3_1, v3_2, ch0, ch1, ch2, man0, man1, man2, man3, man4, man5, man6, its0, its1, its2, hlt, atL, hR, hs6, pX6_secondGoes, mX6_secondGoes, q]
        rw [eX6_guards_25]
        simp only [eX6_guards_0, eX6_guards_1, eX6_guards_2, eX6_guards_3, eX6_guards_6, eX6_guards_8, eX6_guards_9, eX6_guards_12, eX6_guards_13, eX6_guards_14, eX6_guards_15, eX6_guards_16, eX6_guards_19, eX6_guards_20, eX6_guards_22, eX6_guards_23, eX6_guards_27, eX6_guards_30, eX6_guards_32, eX6_guards_34, eX6_guards_37, eX6_guards_38, eX6_guards_41, eX6_guards_42, eX6_guards_43, eX6_guards_44, eX6_guards_47, eX6_guards_49, eX6_guards_52, eX6_guards_53, eX6_guards_56, eX6_guards_57, eX6_guards_59, eX6_guards_61, eX6_guards_63, eX6_guards_66, eX6_guards_67, eX6_guards_70, eX6_guards_71, eX6_guards_72, eX6_guards_74, eX6_guards_77, eX6_guards_78, eX6_guards_79, eX6_guards_82, eX6_guards_84, kl_i, kl_r, kl_n, kl_l, true_and, and_true, true_implies, false_implies, not_true_eq_false, not_false_eq_true, i10, Classical.not_not, ok_m1, ix_m1, Int32.add_zero, Option.some.injEq, Value.int.injEq]
        exact ⟨by rw [← e1]; rfl, by rw [← e2]; rfl⟩
  exact key 100 0 _ (by omega) hO2 (by omega) rfl
set_option maxRecDepth 20000 in
theorem KX6_guards_ok (w : WW) : KOk w MX6_guards (KX6_guards w) := KOk_mk flX6_ok ciX6_ok clX6_ok (fun _ _ h => by cases h) (fun _ _ h => by cases h) (List.forall_mem_cons.mpr ⟨itV (n := 71) (by decide) (COk_V (n := 2) (ci := 6) (ctX6_chair w) wcX6_71 nmX6_chair (by decide) (by decide) rfl (prX6_chair w)), List.forall_mem_cons.mpr ⟨itV (n := 105) (by decide) (COk_V (n := 3) (ci := 6) (ctX6_sets w) wcX6_105 nmX6_sets (by decide) (by decide) rfl (prX6_sets w)), List.forall_mem_cons.mpr ⟨itV (n := 145) (by decide) (COk_V (n := 0) (ci := 6) (ctX6_secondGoes w) wcX6_145 nmX6_secondGoes (by decide) (by decide) rfl (prX6_secondGoes w)), List.forall_mem_cons.mpr ⟨itV (n := 157) (by decide) (COk_V (n := 0) (ci := 6) (ctX6_lends w) wcX6_157 nmX6_lends (by decide) (by decide) rfl (prX6_lends w)), List.forall_mem_nil _⟩⟩⟩⟩)
theorem ctX6_guards (w : WW) : CT w yX6_guards MX6_guards (csX6_guards w).2.1 (csX6_guards w).2.2 := by
  refine CT_of (by decide) rfl TX6_guards_ok TX6_guards_v (KX6_guards_ok w) (fun as u h => ?_)
  obtain ⟨a0, a1, a2, a3, rfl, h⟩ := sgRIII h
  obtain ⟨rfl, hh⟩ := h
  refine ⟨Nat.le_of_ble_eq_true rfl, ?_⟩
  have key := vX6_guards w a1 a2 a3 u hh
  exact key
theorem prX6_guards (w : WW) : ∀ as u, (csX6_guards w).2.1 as u → ∃ a r, as = .ref a :: r ∧ r.length = 3 ∧ okO w a 6 := by
  intro as u h
  obtain ⟨a0, a1, a2, a3, rfl, h⟩ := sgRIII h
  exact ⟨_, _, rfl, rfl, okO_m h⟩
theorem gs_Sc {u : MM} (h : I6 u) {c p s : Int32} (hc : vp_in c (NN (R6 u 2))) : Sc u (mX6_guards c p s u) := by
  have hl := lnV h.2
  have h10 : NN c < 10 := by have := vi_lt hc; have : NN (R6 u 2) ≤ 10 := h.2.K.1; omega
  refine sc_Sc h.1 (fun i hi => ?_)
  rw [grdR_hi hi _ _ ((ost_lv hl h.2.M.1 (by decide) p).Ok (Ok1 h.2)), ost_hi h10 (by decide) hi]
theorem gdM_Sc {u : MM} (h : I6 u) {c s : Int32} (hc : vp_in c (NN (R6 u 2))) : ∀ i, Sc u (gdM u c s i)
  | 0 => gs_Sc h hc
  | i + 1 => by
    have ih := gdM_Sc (s := s) h hc i
    have l := ih.lv h.2
    have hv := ih.i6 h
    exact ih.tr (gs_Sc hv (by rw [← l.2.2.1]; exact hc))
theorem gr_lv {R S : Nat → Int32} (l : Lv R S) (hO : Ok R) {c s : Nat} (p : Int32) (hs : s < NN (R 1)) : grdN s (se S s 2) 100 (ost S c 1 p) = grdN s (se R s 2) 100 (ost R c 1 p) := by
  rw [← l.2.2.2.1 s hs 2 (by decide)]
  exact grdN_lv 100 (ost_lv l hO.M.1 (by decide) p) (Ok1 hO) (by rw [hd_ost (by decide)]; exact hs)
theorem vX6_guard (w : WW) : VX6_guard w := by
  intro c s u h
  have h0 := h.1
  have ha : atOk u := Or.inl h0
  have e0 : u.1 1100 = R6 u 0 := rfl
  simp only [eX6_guard_0, eX6_guard_1, eX6_guard_2, eX6_guard_5, eX6_guard_8, eX6_guard_9, eX6_guard_10, eX6_guard_13, eX6_guard_16, eX6_guard_17, eX6_guard_19, eX6_guard_22, eX6_guard_23, eX6_guard_24, eX6_guard_25, eX6_guard_28, eX6_guard_31, eX6_guard_32, eX6_guard_33, eX6_guard_36, eX6_guard_39, eX6_guard_40, eX6_guard_41, eX6_guard_42, eX6_guard_45, eX6_guard_48, eX6_guard_49, eX6_guard_51, eX6_guard_54, eX6_guard_57, eX6_guard_58, eX6_guard_60, eX6_guard_63, eX6_guard_64, eX6_guard_65, eX6_guard_66, eX6_guard_67, eX6_guard_70, eX6_guard_71, eX6_guard_72, eX6_guard_73, eX6_guard_74, eX6_guard_75, eX6_guard_78, eX6_guard_80, eX6_guard_81, eX6_guard_85, eX6_guard_87, eX6_guard_90, eX6_guard_91, eX6_guard_92, eX6_guard_94, eX6_guard_95, eX6_guard_98, eX6_guard_100, eX6_guard_102, eX6_guard_104, eX6_guard_107, eX6_guard_109, eX6_guard_112, eX6_guard_113, eX6_guard_114, eX6_guard_116, eX6_guard_118, eX6_guard_121, eX6_guard_123, eX6_guard_126, eX6_guard_128, eX6_guard_130, eX6_guard_133, eX6_guard_136, eX6_guard_137, kl_i, kl_r, kl_n, kl_l, true_and, and_true, true_implies, false_implies, not_true_eq_false, not_false_eq_true, i10, Classical.not_not, pOne, mX6_sets, mX6_setsChair, pX6_sets, pX6_setsChair, pX6_chair, pX6_man, pX6_its, RW_pv, pv_pv, B6_pv, atOk_pv, N_0, N_1, N_2, N_3, N_4, N_5, N_6, v7_0, v7_1, v7_2, v7_3, v7_4, v7_5, v7_6, v3_0, v3_1, v3_2, ch0, ch1, ch2, man0, man1, man2, man3, man4, man5, man6, its0, its1, its2, pX6_isOne, rX6_isOne, pX6_isSeat, rX6_isSeat, pX6_isPage, rX6_isPage, pX6_stands, rX6_stands, pX6_isLate, rX6_isLate, bi_0, pf0, pf1, pf2, pf3, pf4, pf5, pf6, mf0, mf1, mf2, mf3, mf4, mf5, mf6, rX6_finds, RW6 h0, ha, e0, rX6_guard, mX6_guard, Option.some.injEq, Value.int.injEq]
  refine ⟨fun c1 => ml0 (by rw [oGuard, if_pos (fun z => c1 z.1)]), fun c1 => ⟨fun c2 => ?_, fun c2 => ml0 (by rw [oGuard, if_pos (fun z => c2 z.2)])⟩⟩
  have hc := (isOn_vi h.2).mp c1
  have hcN := vi_lt hc
  have hc10 : vp_in c 10 := vi_mono hc h.2.K.1
  have hs := (isSt_vi h.2).mp c2
  have hs6 : vp_in s 6 := vi_mono hs h.2.M.1
  have hsN : NN s < NN (R6 u 1) := vi_lt hs
  have b4 : ¬ grdOk (R6 u) c s → oGuard (R6 u) c s = .inl 4 := fun z => by rw [oGuard, if_neg (fun z => z ⟨c1, c2⟩), if_pos z]
  refine ⟨hc10, fun d1 => ml4 (b4 (fun z => d1 z.1)), fun d1 => ⟨hc10, fun d2 => ml4 (b4 (fun z => d2 z.2.1)), fun d2 => ⟨hs6, fun d3 => ml4 (b4 (fun z => z.2.2.1 d3)), fun d3 => ⟨fun d4 => ?_, fun d4 => ml4 (b4 (fun z => z.2.2.2 d4))⟩⟩⟩⟩
  have eo : oGuard (R6 u) c s = .inr ((grdB (R6 u) (NN c) (NN s) 100).1, R6 u) := by rw [oGuard, if_neg (fun z => z ⟨c1, c2⟩), if_neg (fun z => z ⟨d1, d2, d3, d4⟩)]
  refine ⟨hc10, ?_⟩
  rw [eo, an_r, show ml (.inr ((grdB (R6 u) (NN c) (NN s) 100).1, R6 u)) u (gdM u c s 100) = gdM u c s 100 from rfl]
  refine ⟨⟨h, hc, hs⟩, ?_⟩
  have key : ∀ (m i : Nat) (j : Option Value), i + m = 100 → GX6_guard w (fun r u' => r = some (.int (grdB (R6 u) (NN c) (NN s) 100).1) ∧ u' = gdM u c s 100) 83 [some (.ref (mA w)), some (.int c), some (.int s), some (.int (grdB (R6 u) (NN c) (NN s) i).1), some (.int (grdB (R6 u) (NN c) (NN s) i).2), some (.int (nI i)), j] [] (gdM u c s i) := by
    intro m
    induction m with
    | zero =>
      intro i j hi
      have e3 : i = 100 := by omega
      subst e3
      rw [eX6_guard_83]
      simp only [eX6_guard_0, eX6_guard_1, eX6_guard_2, eX6_guard_5, eX6_guard_8, eX6_guard_9, eX6_guard_10, eX6_guard_13, eX6_guard_16, eX6_guard_17, eX6_guard_19, eX6_guard_22, eX6_guard_23, eX6_guard_24, eX6_guard_25, eX6_guard_28, eX6_guard_31, eX6_guard_32, eX6_guard_33, eX6_guard_36, eX6_guard_39, eX6_guard_40, eX6_guard_41, eX6_guard_42, eX6_guard_45, eX6_guard_48, eX6_guard_49, eX6_guard_51, eX6_guard_54, eX6_guard_57, eX6_guard_58, eX6_guard_60, eX6_guard_63, eX6_guard_64, eX6_guard_65, eX6_guard_66, eX6_guard_67, eX6_guard_70, eX6_guard_71, eX6_guard_72, eX6_guard_73, eX6_guard_74, eX6_guard_75, eX6_guard_78, eX6_guard_80, eX6_guard_81, eX6_guard_85, eX6_guard_87, eX6_guard_90, eX6_guard_91, eX6_guard_92, eX6_guard_94, eX6_guard_95, eX6_guard_98, eX6_guard_100, eX6_guard_102, eX6_guard_104, eX6_guard_107, eX6_guard_109, eX6_guard_112, eX6_guard_113, eX6_guard_114, eX6_guard_116, eX6_guard_118, eX6_guard_121, eX6_guard_123, eX6_guard_126, eX6_guard_128, eX6_guard_130, eX6_guard_133, eX6_guard_136, eX6_guard_137, kl_i, kl_r, kl_n, kl_l, true_and, and_true, true_implies, false_implies, not_true_eq_false, not_false_eq_true, i10, Classical.not_not, h100]
    | succ m ih =>
      intro i j hi
      have hlt := le100 i (by omega)
      have hS := gdM_Sc (s := s) h hc i
      have hv := hS.i6 h
      have l := hS.lv h.2
      have hp : pX6_guards c (nI i) s (gdM u c s i) := ⟨hv, by rw [← l.2.2.1]; exact hc, by rw [← l.2.1]; exact hs⟩
      have ec : rX6_guards c (nI i) s (gdM u c s i) = nI (grdN (NN s) (se (R6 u) (NN s) 2) 100 (ost (R6 u) (NN c) 1 (nI i))) := by rw [rX6_guards, gr_lv l h.2 _ hsN]
      have go : ∀ (x : Int32 × Int32) (j : Option Value), x = grdB (R6 u) (NN c) (NN s) (i + 1) → GX6_guard w (fun r u' => r = some (.int (grdB (R6 u) (NN c) (NN s) 100).1) ∧ u' = gdM u c s 100) 83 [some (.ref (mA w)), some (.int c), some (.int s), some (.int x.1), some (.int x.2), some (.int (nI i + 1)), j] [] (mX6_guards c (nI i) s (gdM u c s i)) := fun x j hx => by rw [hx, nI_1]; exact ih (i + 1) j (by omega)
      rw [eX6_guard_83]
      by_cases q : (grdB (R6 u) (NN c) (NN s) i).2 < nI (grdN (NN s) (se (R6 u) (NN s) 2) 100 (ost (R6 u) (NN c) 1 (nI i)))
      · have q2 := Int32.not_le.mpr q
        simp only [eX6_guard_0, eX6_guard_1, eX6_guard_2, eX6_guard_5, eX6_guard_8, eX6_guard_9, eX6_guard_10, eX6_guard_13, eX6_guard_16, eX6_guard_17, eX6_guard_19, eX6_guard_22, eX6_guard_23, eX6_guard_24, eX6_guard_25, eX6_guard_28, eX6_guard_31, eX6_guard_32, eX6_guard_33, eX6_guard_36, eX6_guard_39, eX6_guard_40, eX6_guard_41, eX6_guard_42, eX6_guard_45, eX6_guard_48, eX6_guard_49, eX6_guard_51, eX6_guard_54, eX6_guard_57, eX6_guard_58, eX6_guard_60, eX6_guard_63, eX6_guard_64, eX6_guard_65, eX6_guard_66, eX6_guard_67, eX6_guard_70, eX6_guard_71, eX6_guard_72, eX6_guard_73, eX6_guard_74, eX6_guard_75, eX6_guard_78, eX6_guard_80, eX6_guard_81, eX6_guard_85, eX6_guard_87, eX6_guard_90, eX6_guard_91, eX6_guard_92, eX6_guard_94, eX6_guard_95, eX6_guard_98, eX6_guard_100, eX6_guard_102, eX6_guard_104, eX6_guard_107, eX6_guard_109, eX6_guard_112, eX6_guard_113, eX6_guard_114, eX6_guard_116, eX6_guard_118, eX6_guard_121, eX6_guard_123, eX6_guard_126, eX6_guard_128, eX6_guard_130, eX6_guard_133, eX6_guard_136, eX6_guard_137, kl_i, kl_r, kl_n, kl_l, true_and, and_true, true_implies, false_implies, not_true_eq_false, not_false_eq_true, i10, Classical.not_not, hlt, hp, ec, q2]
        exact go (nI i, _) _ (by rw [grdB, if_pos q])
      · have q2 := Int32.not_lt.mp q
        simp only [eX6_guard_0, eX6_guard_1, eX6_guard_2, eX6_guard_5, eX6_guard_8, eX6_guard_9, eX6_guard_10, eX6_guard_13, eX6_guard_16, eX6_guard_17, eX6_guard_19, eX6_guard_22, eX6_guard_23, eX6_guard_24, eX6_guard_25, eX6_guard_28, eX6_guard_31, eX6_guard_32, eX6_guard_33, eX6_guard_36, eX6_guard_39, eX6_guard_40, eX6_guard_41, eX6_guard_42, eX6_guard_45, eX6_guard_48, eX6_guard_49, eX6_guard_51, eX6_guard_54, eX6_guard_57, eX6_guard_58, eX6_guard_60, eX6_guard_63, eX6_guard_64, eX6_guard_65, eX6_guard_66, eX6_guard_67, eX6_guard_70, eX6_guard_71, eX6_guard_72, eX6_guard_73, eX6_guard_74, eX6_guard_75, eX6_guard_78, eX6_guard_80, eX6_guard_81, eX6_guard_85, eX6_guard_87, eX6_guard_90, eX6_guard_91, eX6_guard_92, eX6_guard_94, eX6_guard_95, eX6_guard_98, eX6_guard_100, eX6_guard_102, eX6_guard_104, eX6_guard_107, eX6_guard_109, eX6_guard_112, eX6_guard_113, eX6_guard_114, eX6_guard_116, eX6_guard_118, eX6_guard_121, eX6_guard_123, eX6_guard_126, eX6_guard_128, eX6_guard_130, eX6_guard_133, eX6_guard_136, eX6_guard_137, kl_i, kl_r, kl_n, kl_l, true_and, and_true, true_implies, false_implies, not_true_eq_false, not_false_eq_true, i10, Classical.not_not, hlt, hp, ec, q2]
        exact go (grdB (R6 u) (NN c) (NN s) i) _ (by rw [grdB, if_neg q])
  exact key 100 0 _ (by omega)
theorem wcX6_180 : ∀ x ∈ wV1 RX6 180 yX6_guards MX6_guards, x ∈ Gt := by decide +kernel
theorem nmX6_guards : nmOk yX6_guards 3 = true := by decide +kernel
set_option maxRecDepth 20000 in
theorem KX6_guard_ok (w : WW) : KOk w MX6_guard (KX6_guard w) := KOk_mk flX6_ok ciX6_ok clX6_ok (fun _ _ h => by cases h) (fun _ _ h => by cases h) (List.forall_mem_cons.mpr ⟨itV (n := 54) (by decide) (COk_V (n := 2) (ci := 6) (ctX6_man w) wcX6_54 nmX6_man (by decide) (by decide) rfl (prX6_man w)), List.forall_mem_cons.mpr ⟨itV (n := 64) (by decide) (COk_V (n := 1) (ci := 6) (ctX6_stands w) wcX6_64 nmX6_stands (by decide) (by decide) rfl (prX6_stands w)), List.forall_mem_cons.mpr ⟨itV (n := 68) (by decide) (COk_V (n := 1) (ci := 6) (ctX6_isPage w) wcX6_68 nmX6_isPage (by decide) (by decide) rfl (prX6_isPage w)), List.forall_mem_cons.mpr ⟨itV (n := 71) (by decide) (COk_V (n := 2) (ci := 6) (ctX6_chair w) wcX6_71 nmX6_chair (by decide) (by decide) rfl (prX6_chair w)), List.forall_mem_cons.mpr ⟨itV (n := 87) (by decide) (COk_V (n := 1) (ci := 6) (ctX6_finds w) wcX6_87 nmX6_finds (by decide) (by decide) rfl (prX6_finds w)), List.forall_mem_cons.mpr ⟨itV (n := 99) (by decide) (COk_V (n := 1) (ci := 6) (ctX6_isSeat w) wcX6_99 nmX6_isSeat (by decide) (by decide) rfl (prX6_isSeat w)), List.forall_mem_cons.mpr ⟨itV (n := 115) (by decide) (COk_V (n := 1) (ci := 6) (ctX6_isOne w) wcX6_115 nmX6_isOne (by decide) (by decide) rfl (prX6_isOne w)), List.forall_mem_cons.mpr ⟨itV (n := 148) (by decide) (COk_V (n := 1) (ci := 6) (ctX6_isLate w) wcX6_148 nmX6_isLate (by decide) (by decide) rfl (prX6_isLate w)), List.forall_mem_cons.mpr ⟨itV (n := 180) (by decide) (COk_V (n := 3) (ci := 6) (ctX6_guards w) wcX6_180 nmX6_guards (by decide) (by decide) rfl (prX6_guards w)), List.forall_mem_nil _⟩⟩⟩⟩⟩⟩⟩⟩⟩)
theorem ctX6_guard (w : WW) : CT w yX6_guard MX6_guard (csX6_guard w).2.1 (csX6_guard w).2.2 := by
  refine CT_of (by decide) rfl TX6_guard_ok TX6_guard_v (KX6_guard_ok w) (fun as u h => ?_)
  obtain ⟨a0, a1, a2, rfl, h⟩ := sgRII h
  obtain ⟨rfl, hh⟩ := h
  refine ⟨Nat.le_of_ble_eq_true rfl, ?_⟩
  have key := vX6_guard w a1 a2 u hh
  exact key
theorem prX6_guard (w : WW) : ∀ as u, (csX6_guard w).2.1 as u → ∃ a r, as = .ref a :: r ∧ r.length = 2 ∧ okO w a 6 := by
  intro as u h
  obtain ⟨a0, a1, a2, rfl, h⟩ := sgRII h
  exact ⟨_, _, rfl, rfl, okO_m h⟩
