/-! ===== the reference's guard, twice and seconds, walked ===== -/
theorem grdR_Ok {s : Nat} {own : Int32} : ∀ f R, Ok R → Ok (grdR s own f R)
  | 0, _, h => h
  | f + 1, R, h => by
    simp only [grdR]; split
    · exact grdR_Ok f _ (secP_Ok h)
    · exact secP_Ok h
theorem grdR_hi {s : Nat} {own : Int32} {i : Nat} (hi : 91 ≤ i) : ∀ f R, Ok R → grdR s own f R i = R i
  | 0, _, _ => rfl
  | f + 1, R, h => by
    simp only [grdR]; split
    · rw [grdR_hi hi f _ (secP_Ok h), secP_hi h hi]
    · exact secP_hi h hi
theorem grdN_lv {s : Nat} {own : Int32} : ∀ f {R S : Nat → Int32}, Lv R S → Ok R → s < NN (R 1) → grdN s own f S = grdN s own f R
  | 0, _, _, _, _, _ => rfl
  | f + 1, R, S, l, h, hs => by
    have l2 := secP_lv l h
    have hs2 : s < NN (secP R 1) := by rw [secP_12.1]; exact hs
    simp only [grdN]
    rw [l2.2.2.2.1 s hs2 2 (by decide), grdN_lv f l2 (secP_Ok h) hs2]
theorem grdN_le {s : Nat} {own : Int32} : ∀ f R, grdN s own f R ≤ f
  | 0, _ => Nat.le_refl _
  | f + 1, R => by simp only [grdN]; split; { have := grdN_le (s := s) (own := own) f (secP R); omega }; { omega }
theorem vX6_guards (w : WW) : VX6_guards w := by
  intro c p s u h
  obtain ⟨h6, hc, hs⟩ := h
  have h0 := h6.1
  have ha : atOk u := Or.inl h0
  have hl := lnV h6.2
  have l2 := ost_lv (c := NN c) (k := 1) hl h6.2.M.1 (by decide) p
  have hO : Ok (ost (R6 u) (NN c) 1 p) := Ok1 h6.2
  have hO2 : Ok (ost (ln u) (NN c) 1 p) := l2.Ok hO
  have hc10 : vp_in c 10 := vi_mono hc h6.2.K.1
  have hs6 : vp_in s 6 := vi_mono hs h6.2.M.1
  have hsN : NN s < NN (R6 u 1) := vi_lt hs
  have er : grdN (NN s) (se (R6 u) (NN s) 2) 100 (ost (R6 u) (NN c) 1 p) = grdN (NN s) (se (R6 u) (NN s) 2) 100 (ost (ln u) (NN c) 1 p) := (grdN_lv 100 l2 hO (by rw [hd_ost (by decide)]; exact hsN)).symm
  simp only [eX6_guards_0, eX6_guards_1, eX6_guards_2, eX6_guards_3, eX6_guards_6, eX6_guards_8, eX6_guards_9, eX6_guards_12, eX6_guards_13, eX6_guards_14, eX6_guards_15, eX6_guards_16, eX6_guards_19, eX6_guards_20, eX6_guards_22, eX6_guards_23, eX6_guards_27, eX6_guards_30, eX6_guards_32, eX6_guards_34, eX6_guards_37, eX6_guards_38, eX6_guards_41, eX6_guards_42, eX6_guards_43, eX6_guards_44, eX6_guards_47, eX6_guards_49, eX6_guards_52, eX6_guards_53, eX6_guards_56, eX6_guards_57, eX6_guards_59, eX6_guards_61, eX6_guards_63, eX6_guards_66, eX6_guards_67, eX6_guards_70, eX6_guards_71, eX6_guards_72, eX6_guards_74, eX6_guards_77, eX6_guards_78, eX6_guards_79, eX6_guards_82, eX6_guards_84, kl_i, kl_r, kl_n, kl_l, true_and, and_true, true_implies, false_implies, not_true_eq_false, not_false_eq_true, i10, Classical.not_not, pOne, mX6_sets, mX6_setsChair, pX6_sets, pX6_setsChair, pX6_chair, pX6_man, pX6_its, RW_pv, pv_pv, B6_pv, atOk_pv, N_0, N_1, N_2, N_3, N_4, N_5, N_6, v7_0, v7_1, v7_2, v7_3, v7_4, v7_5, v7_6, v3_0, v3_1, v3_2, ch0, ch1, ch2, man0, man1, man2, man3, man4, man5, man6, its0, its1, its2, pX6_lends, atL, ha, hc10, hs6, RW6 h0, rX6_guards, mX6_guards, er]
  have key : ∀ (f n : Nat) (R : Nat → Int32), n + f = 100 → Ok R → n + grdN (NN s) (se (R6 u) (NN s) 2) f R = grdN (NN s) (se (R6 u) (NN s) 2) 100 (ost (ln u) (NN c) 1 p) → grdR (NN s) (se (R6 u) (NN s) 2) f R = grdR (NN s) (se (R6 u) (NN s) 2) 100 (ost (ln u) (NN c) 1 p) → GX6_guards w (fun r u' => r = some (.int (nI (grdN (NN s) (se (R6 u) (NN s) 2) 100 (ost (ln u) (NN c) 1 p)))) ∧ u' = sc u (grdR (NN s) (se (R6 u) (NN s) 2) 100 (ost (ln u) (NN c) 1 p))) 25 [some (.ref (mA w)), some (.int c), some (.int p), some (.int s), some (.int (se (R6 u) (NN s) 2)), some (.int (nI n)), some (.int 1)] [] (pv (mX6_lends u) (B6 (mX6_lends u)) R) := by
    intro f
    induction f with
    | zero =>
      intro n R hn hR e1 e2
      have e3 : n = 100 := by omega
      subst e3
      rw [eX6_guards_25]
      simp only [eX6_guards_0, eX6_guards_1, eX6_guards_2, eX6_guards_3, eX6_guards_6, eX6_guards_8, eX6_guards_9, eX6_guards_12, eX6_guards_13, eX6_guards_14, eX6_guards_15, eX6_guards_16, eX6_guards_19, eX6_guards_20, eX6_guards_22, eX6_guards_23, eX6_guards_27, eX6_guards_30, eX6_guards_32, eX6_guards_34, eX6_guards_37, eX6_guards_38, eX6_guards_41, eX6_guards_42, eX6_guards_43, eX6_guards_44, eX6_guards_47, eX6_guards_49, eX6_guards_52, eX6_guards_53, eX6_guards_56, eX6_guards_57, eX6_guards_59, eX6_guards_61, eX6_guards_63, eX6_guards_66, eX6_guards_67, eX6_guards_70, eX6_guards_71, eX6_guards_72, eX6_guards_74, eX6_guards_77, eX6_guards_78, eX6_guards_79, eX6_guards_82, eX6_guards_84, kl_i, kl_r, kl_n, kl_l, true_and, and_true, true_implies, false_implies, not_true_eq_false, not_false_eq_true, i10, Classical.not_not, h100, ok_m1, ix_m1]
      exact ⟨by rw [← e1]; rfl, by rw [← e2]; rfl⟩
    | succ f ih =>
      intro n R hn hR e1 e2
      have hlt := le100 n (by omega)
      rw [grdN] at e1
      rw [grdR] at e2
      rw [eX6_guards_25]
      by_cases q : se (secP R) (NN s) 2 = se (R6 u) (NN s) 2
      · rw [if_pos q] at e1 e2
        simp only [eX6_guards_0, eX6_guards_1, eX6_guards_2, eX6_guards_3, eX6_guards_6, eX6_guards_8, eX6_guards_9, eX6_guards_12, eX6_guards_13, eX6_guards_14, eX6_guards_15, eX6_guards_16, eX6_guards_19, eX6_guards_20, eX6_guards_22, eX6_guards_23, eX6_guards_27, eX6_guards_30, eX6_guards_32, eX6_guards_34, eX6_guards_37, eX6_guards_38, eX6_guards_41, eX6_guards_42, eX6_guards_43, eX6_guards_44, eX6_guards_47, eX6_guards_49, eX6_guards_52, eX6_guards_53, eX6_guards_56, eX6_guards_57, eX6_guards_59, eX6_guards_61, eX6_guards_63, eX6_guards_66, eX6_guards_67, eX6_guards_70, eX6_guards_71, eX6_guards_72, eX6_guards_74, eX6_guards_77, eX6_guards_78, eX6_guards_79, eX6_guards_82, eX6_guards_84, kl_i, kl_r, kl_n, kl_l, true_and, and_true, true_implies, false_implies, not_true_eq_false, not_false_eq_true, i10, Classical.not_not, pOne, mX6_sets, mX6_setsChair, pX6_sets, pX6_setsChair, pX6_chair, pX6_man, pX6_its, RW_pv, pv_pv, B6_pv, atOk_pv, N_0, N_1, N_2, N_3, N_4, N_5, N_6, v7_0, v7_1, v7_2, v7_3, v7_4, v7_5, v7_6, v3_0, v3_1, v3_2, ch0, ch1, ch2, man0, man1, man2, man3, man4, man5, man6, its0, its1, its2, hlt, atL, hR, hs6, pX6_secondGoes, mX6_secondGoes, q]
        rw [nI_1]
        exact ih (n + 1) _ (by omega) (secP_Ok hR) (by rw [← e1]; omega) e2
      · rw [if_neg q] at e1 e2
        simp only [eX6_guards_0, eX6_guards_1, eX6_guards_2, eX6_guards_3, eX6_guards_6, eX6_guards_8, eX6_guards_9, eX6_guards_12, eX6_guards_13, eX6_guards_14, eX6_guards_15, eX6_guards_16, eX6_guards_19, eX6_guards_20, eX6_guards_22, eX6_guards_23, eX6_guards_27, eX6_guards_30, eX6_guards_32, eX6_guards_34, eX6_guards_37, eX6_guards_38, eX6_guards_41, eX6_guards_42, eX6_guards_43, eX6_guards_44, eX6_guards_47, eX6_guards_49, eX6_guards_52, eX6_guards_53, eX6_guards_56, eX6_guards_57, eX6_guards_59, eX6_guards_61, eX6_guards_63, eX6_guards_66, eX6_guards_67, eX6_guards_70, eX6_guards_71, eX6_guards_72, eX6_guards_74, eX6_guards_77, eX6_guards_78, eX6_guards_79, eX6_guards_82, eX6_guards_84, kl_i, kl_r, kl_n, kl_l, true_and, and_true, true_implies, false_implies, not_true_eq_false, not_false_eq_true, i10, Classical.not_not, pOne, mX6_sets, mX6_setsChair, pX6_sets, pX6_setsChair, pX6_chair, pX6_man, pX6_its, RW_pv, pv_pv, B6_pv, atOk_pv, N_0, N_1, N_2, N_3, N_4, N_5, N_6, v7_0, v7_1, v7_2, v7_3, v7_4, v7_5, v7_6, v3_0, v3_1, v3_2, ch0, ch1, ch2, man0, man1, man2, man3, man4, man5, man6, its0, its1, its2, hlt, atL, hR, hs6, pX6_secondGoes, mX6_secondGoes, q]
        rw [eX6_guards_25]
        simp only [eX6_guards_0, eX6_guards_1, eX6_guards_2, eX6_guards_3, eX6_guards_6, eX6_guards_8, eX6_guards_9, eX6_guards_12, eX6_guards_13, eX6_guards_14, eX6_guards_15, eX6_guards_16, eX6_guards_19, eX6_guards_20, eX6_guards_22, eX6_guards_23, eX6_guards_27, eX6_guards_30, eX6_guards_32, eX6_guards_34, eX6_guards_37, eX6_guards_38, eX6_guards_41, eX6_guards_42, eX6_guards_43, eX6_guards_44, eX6_guards_47, eX6_guards_49, eX6_guards_52, eX6_guards_53, eX6_guards_56, eX6_guards_57, eX6_guards_59, eX6_guards_61, eX6_guards_63, eX6_guards_66, eX6_guards_67, eX6_guards_70, eX6_guards_71, eX6_guards_72, eX6_guards_74, eX6_guards_77, eX6_guards_78, eX6_guards_79, eX6_guards_82, eX6_guards_84, kl_i, kl_r, kl_n, kl_l, true_and, and_true, true_implies, false_implies, not_true_eq_false, not_false_eq_true, i10, Classical.not_not, ok_m1, ix_m1, Int32.add_zero, Option.some.injEq, Value.int.injEq]
        exact ⟨by rw [← e1]; rfl, by rw [← e2]; rfl⟩
  exact key 100 0 _ (by omega) hO2 (Nat.zero_add _) rfl
set_option maxRecDepth 20000 in
theorem KX6_guards_ok (w : WW) : KOk w MX6_guards (KX6_guards w) := KOk_mk flX6_ok ciX6_ok clX6_ok (fun _ _ h => by cases h) (fun _ _ h => by cases h) (List.forall_mem_cons.mpr ⟨itV (n := 71) (by decide) (COk_V (n := 2) (ci := 6) (ctX6_chair w) wcX6_71 nmX6_chair (by decide) (by decide) rfl (prX6_chair w)), List.forall_mem_cons.mpr ⟨itV (n := 105) (by decide) (COk_V (n := 3) (ci := 6) (ctX6_sets w) wcX6_105 nmX6_sets (by decide) (by decide) rfl (prX6_sets w)), List.forall_mem_cons.mpr ⟨itV (n := 145) (by decide) (COk_V (n := 0) (ci := 6) (ctX6_secondGoes w) wcX6_145 nmX6_secondGoes (by decide) (by decide) rfl (prX6_secondGoes w)), List.forall_mem_cons.mpr ⟨itV (n := 157) (by decide) (COk_V (n := 0) (ci := 6) (ctX6_lends w) wcX6_157 nmX6_lends (by decide) (by decide) rfl (prX6_lends w)), List.forall_mem_nil _⟩⟩⟩⟩)
theorem ctX6_guards (w : WW) : CT w yX6_guards MX6_guards (csX6_guards w).2.1 (csX6_guards w).2.2 := by
  refine CT_of (by decide) rfl TX6_guards_ok TX6_guards_v (KX6_guards_ok w) (fun as u h => ?_)
  obtain ⟨a0, a1, a2, a3, rfl, h⟩ := sgRIII h
  obtain ⟨rfl, hh⟩ := h
  refine ⟨Nat.le_of_ble_eq_true rfl, ?_⟩
  have key := vX6_guards w a1 a2 a3 u hh
  exact key
theorem prX6_guards (w : WW) : ∀ as u, (csX6_guards w).2.1 as u → ∃ a r, as = .ref a :: r ∧ r.length = 3 ∧ okO w a 6 := by
  intro as u h
  obtain ⟨a0, a1, a2, a3, rfl, h⟩ := sgRIII h
  exact ⟨_, _, rfl, rfl, okO_m h⟩
theorem gs_Sc {u : MM} (h : I6 u) {c p s : Int32} (hc : vp_in c (NN (R6 u 2))) : Sc u (mX6_guards c p s u) := by
  have hl := lnV h.2
  have h10 : NN c < 10 := by have := vi_lt hc; have : NN (R6 u 2) ≤ 10 := h.2.K.1; omega
  refine sc_Sc h.1 (fun i hi => ?_)
  rw [grdR_hi hi _ _ ((ost_lv hl h.2.M.1 (by decide) p).Ok (Ok1 h.2)), ost_hi h10 (by decide) hi]
theorem gdM_Sc {u : MM} (h : I6 u) {c s : Int32} (hc : vp_in c (NN (R6 u 2))) : ∀ i, Sc u (gdM u c s i)
  | 0 => gs_Sc h hc
  | i + 1 => by
    have ih := gdM_Sc (s := s) h hc i
    have l := ih.lv h.2
    have hv := ih.i6 h
    exact ih.tr (gs_Sc hv (by rw [← l.2.2.1]; exact hc))
theorem gr_lv {R S : Nat → Int32} (l : Lv R S) (hO : Ok R) {c s : Nat} (p : Int32) (hs : s < NN (R 1)) : grdN s (se S s 2) 100 (ost S c 1 p) = grdN s (se R s 2) 100 (ost R c 1 p) := by
  rw [← l.2.2.2.1 s hs 2 (by decide)]
  exact grdN_lv 100 (ost_lv l hO.M.1 (by decide) p) (Ok1 hO) (by rw [hd_ost (by decide)]; exact hs)
theorem vX6_guard (w : WW) : VX6_guard w := by
  intro c s u h
  have h0 := h.1
  have ha : atOk u := Or.inl h0
  have e0 : u.1 1100 = R6 u 0 := rfl
  simp only [eX6_guard_0, eX6_guard_1, eX6_guard_2, eX6_guard_5, eX6_guard_8, eX6_guard_9, eX6_guard_10, eX6_guard_13, eX6_guard_16, eX6_guard_17, eX6_guard_19, eX6_guard_22, eX6_guard_23, eX6_guard_24, eX6_guard_25, eX6_guard_28, eX6_guard_31, eX6_guard_32, eX6_guard_33, eX6_guard_36, eX6_guard_39, eX6_guard_40, eX6_guard_41, eX6_guard_42, eX6_guard_45, eX6_guard_48, eX6_guard_49, eX6_guard_51, eX6_guard_54, eX6_guard_57, eX6_guard_58, eX6_guard_60, eX6_guard_63, eX6_guard_64, eX6_guard_65, eX6_guard_66, eX6_guard_67, eX6_guard_70, eX6_guard_71, eX6_guard_72, eX6_guard_73, eX6_guard_74, eX6_guard_75, eX6_guard_78, eX6_guard_80, eX6_guard_81, eX6_guard_85, eX6_guard_87, eX6_guard_90, eX6_guard_91, eX6_guard_92, eX6_guard_94, eX6_guard_95, eX6_guard_98, eX6_guard_100, eX6_guard_102, eX6_guard_104, eX6_guard_107, eX6_guard_109, eX6_guard_112, eX6_guard_113, eX6_guard_114, eX6_guard_116, eX6_guard_118, eX6_guard_121, eX6_guard_123, eX6_guard_126, eX6_guard_128, eX6_guard_130, eX6_guard_133, eX6_guard_136, eX6_guard_137, kl_i, kl_r, kl_n, kl_l, true_and, and_true, true_implies, false_implies, not_true_eq_false, not_false_eq_true, i10, Classical.not_not, pOne, mX6_sets, mX6_setsChair, pX6_sets, pX6_setsChair, pX6_chair, pX6_man, pX6_its, RW_pv, pv_pv, B6_pv, atOk_pv, N_0, N_1, N_2, N_3, N_4, N_5, N_6, v7_0, v7_1, v7_2, v7_3, v7_4, v7_5, v7_6, v3_0, v3_1, v3_2, ch0, ch1, ch2, man0, man1, man2, man3, man4, man5, man6, its0, its1, its2, pX6_isOne, rX6_isOne, pX6_isSeat, rX6_isSeat, pX6_isPage, rX6_isPage, pX6_stands, rX6_stands, pX6_isLate, rX6_isLate, bi_0, pf0, pf1, pf2, pf3, pf4, pf5, pf6, mf0, mf1, mf2, mf3, mf4, mf5, mf6, rX6_finds, RW6 h0, ha, e0, rX6_guard, mX6_guard, Option.some.injEq, Value.int.injEq]
  refine ⟨fun c1 => ml0 (by rw [oGuard, if_pos (fun z => c1 z.1)]), fun c1 => ⟨fun c2 => ?_, fun c2 => ml0 (by rw [oGuard, if_pos (fun z => c2 z.2)])⟩⟩
  have hc := (isOn_vi h.2).mp c1
  have hcN := vi_lt hc
  have hc10 : vp_in c 10 := vi_mono hc h.2.K.1
  have hs := (isSt_vi h.2).mp c2
  have hs6 : vp_in s 6 := vi_mono hs h.2.M.1
  have hsN : NN s < NN (R6 u 1) := vi_lt hs
  have b4 : ¬ grdOk (R6 u) c s → oGuard (R6 u) c s = .inl 4 := fun z => by rw [oGuard, if_neg (fun z => z ⟨c1, c2⟩), if_pos z]
  refine ⟨hc10, fun d1 => ml4 (b4 (fun z => d1 z.1)), fun d1 => ⟨hc10, fun d2 => ml4 (b4 (fun z => d2 z.2.1)), fun d2 => ⟨hs6, fun d3 => ml4 (b4 (fun z => z.2.2.1 d3)), fun d3 => ⟨fun d4 => ?_, fun d4 => ml4 (b4 (fun z => z.2.2.2 d4))⟩⟩⟩⟩
  have eo : oGuard (R6 u) c s = .inr ((grdB (R6 u) (NN c) (NN s) 100).1, R6 u) := by rw [oGuard, if_neg (fun z => z ⟨c1, c2⟩), if_neg (fun z => z ⟨d1, d2, d3, d4⟩)]
  refine ⟨hc10, ?_⟩
  rw [eo, an_r, show ml (.inr ((grdB (R6 u) (NN c) (NN s) 100).1, R6 u)) u (gdM u c s 100) = gdM u c s 100 from rfl]
  refine ⟨⟨h, hc, hs⟩, ?_⟩
  have key : ∀ (m i : Nat) (j : Option Value), i + m = 100 → GX6_guard w (fun r u' => r = some (.int (grdB (R6 u) (NN c) (NN s) 100).1) ∧ u' = gdM u c s 100) 83 [some (.ref (mA w)), some (.int c), some (.int s), some (.int (grdB (R6 u) (NN c) (NN s) i).1), some (.int (grdB (R6 u) (NN c) (NN s) i).2), some (.int (nI i)), j] [] (gdM u c s i) := by
    intro m
    induction m with
    | zero =>
      intro i j hi
      have e3 : i = 100 := by omega
      subst e3
      rw [eX6_guard_83]
      simp only [eX6_guard_0, eX6_guard_1, eX6_guard_2, eX6_guard_5, eX6_guard_8, eX6_guard_9, eX6_guard_10, eX6_guard_13, eX6_guard_16, eX6_guard_17, eX6_guard_19, eX6_guard_22, eX6_guard_23, eX6_guard_24, eX6_guard_25, eX6_guard_28, eX6_guard_31, eX6_guard_32, eX6_guard_33, eX6_guard_36, eX6_guard_39, eX6_guard_40, eX6_guard_41, eX6_guard_42, eX6_guard_45, eX6_guard_48, eX6_guard_49, eX6_guard_51, eX6_guard_54, eX6_guard_57, eX6_guard_58, eX6_guard_60, eX6_guard_63, eX6_guard_64, eX6_guard_65, eX6_guard_66, eX6_guard_67, eX6_guard_70, eX6_guard_71, eX6_guard_72, eX6_guard_73, eX6_guard_74, eX6_guard_75, eX6_guard_78, eX6_guard_80, eX6_guard_81, eX6_guard_85, eX6_guard_87, eX6_guard_90, eX6_guard_91, eX6_guard_92, eX6_guard_94, eX6_guard_95, eX6_guard_98, eX6_guard_100, eX6_guard_102, eX6_guard_104, eX6_guard_107, eX6_guard_109, eX6_guard_112, eX6_guard_113, eX6_guard_114, eX6_guard_116, eX6_guard_118, eX6_guard_121, eX6_guard_123, eX6_guard_126, eX6_guard_128, eX6_guard_130, eX6_guard_133, eX6_guard_136, eX6_guard_137, kl_i, kl_r, kl_n, kl_l, true_and, and_true, true_implies, false_implies, not_true_eq_false, not_false_eq_true, i10, Classical.not_not, h100]
    | succ m ih =>
      intro i j hi
      have hlt := le100 i (by omega)
      have hS := gdM_Sc (s := s) h hc i
      have hv := hS.i6 h
      have l := hS.lv h.2
      have hp : pX6_guards c (nI i) s (gdM u c s i) := ⟨hv, by rw [← l.2.2.1]; exact hc, by rw [← l.2.1]; exact hs⟩
      have ec : rX6_guards c (nI i) s (gdM u c s i) = nI (grdN (NN s) (se (R6 u) (NN s) 2) 100 (ost (R6 u) (NN c) 1 (nI i))) := by rw [rX6_guards, gr_lv l h.2 _ hsN]
      have go : ∀ (x : Int32 × Int32) (j : Option Value), x = grdB (R6 u) (NN c) (NN s) (i + 1) → GX6_guard w (fun r u' => r = some (.int (grdB (R6 u) (NN c) (NN s) 100).1) ∧ u' = gdM u c s 100) 83 [some (.ref (mA w)), some (.int c), some (.int s), some (.int x.1), some (.int x.2), some (.int (nI i + 1)), j] [] (mX6_guards c (nI i) s (gdM u c s i)) := fun x j hx => by rw [hx, nI_1]; exact ih (i + 1) j (by omega)
      rw [eX6_guard_83]
      by_cases q : (grdB (R6 u) (NN c) (NN s) i).2 < nI (grdN (NN s) (se (R6 u) (NN s) 2) 100 (ost (R6 u) (NN c) 1 (nI i)))
      · have q2 := Int32.not_le.mpr q
        simp only [eX6_guard_0, eX6_guard_1, eX6_guard_2, eX6_guard_5, eX6_guard_8, eX6_guard_9, eX6_guard_10, eX6_guard_13, eX6_guard_16, eX6_guard_17, eX6_guard_19, eX6_guard_22, eX6_guard_23, eX6_guard_24, eX6_guard_25, eX6_guard_28, eX6_guard_31, eX6_guard_32, eX6_guard_33, eX6_guard_36, eX6_guard_39, eX6_guard_40, eX6_guard_41, eX6_guard_42, eX6_guard_45, eX6_guard_48, eX6_guard_49, eX6_guard_51, eX6_guard_54, eX6_guard_57, eX6_guard_58, eX6_guard_60, eX6_guard_63, eX6_guard_64, eX6_guard_65, eX6_guard_66, eX6_guard_67, eX6_guard_70, eX6_guard_71, eX6_guard_72, eX6_guard_73, eX6_guard_74, eX6_guard_75, eX6_guard_78, eX6_guard_80, eX6_guard_81, eX6_guard_85, eX6_guard_87, eX6_guard_90, eX6_guard_91, eX6_guard_92, eX6_guard_94, eX6_guard_95, eX6_guard_98, eX6_guard_100, eX6_guard_102, eX6_guard_104, eX6_guard_107, eX6_guard_109, eX6_guard_112, eX6_guard_113, eX6_guard_114, eX6_guard_116, eX6_guard_118, eX6_guard_121, eX6_guard_123, eX6_guard_126, eX6_guard_128, eX6_guard_130, eX6_guard_133, eX6_guard_136, eX6_guard_137, kl_i, kl_r, kl_n, kl_l, true_and, and_true, true_implies, false_implies, not_true_eq_false, not_false_eq_true, i10, Classical.not_not, hlt, hp, ec, q2]
        exact go (nI i, nI (grdN (NN s) (se (R6 u) (NN s) 2) 100 (ost (R6 u) (NN c) 1 (nI i)))) _ (by rw [grdB, if_pos q])
      · have q2 := Int32.not_lt.mp q
        simp only [eX6_guard_0, eX6_guard_1, eX6_guard_2, eX6_guard_5, eX6_guard_8, eX6_guard_9, eX6_guard_10, eX6_guard_13, eX6_guard_16, eX6_guard_17, eX6_guard_19, eX6_guard_22, eX6_guard_23, eX6_guard_24, eX6_guard_25, eX6_guard_28, eX6_guard_31, eX6_guard_32, eX6_guard_33, eX6_guard_36, eX6_guard_39, eX6_guard_40, eX6_guard_41, eX6_guard_42, eX6_guard_45, eX6_guard_48, eX6_guard_49, eX6_guard_51, eX6_guard_54, eX6_guard_57, eX6_guard_58, eX6_guard_60, eX6_guard_63, eX6_guard_64, eX6_guard_65, eX6_guard_66, eX6_guard_67, eX6_guard_70, eX6_guard_71, eX6_guard_72, eX6_guard_73, eX6_guard_74, eX6_guard_75, eX6_guard_78, eX6_guard_80, eX6_guard_81, eX6_guard_85, eX6_guard_87, eX6_guard_90, eX6_guard_91, eX6_guard_92, eX6_guard_94, eX6_guard_95, eX6_guard_98, eX6_guard_100, eX6_guard_102, eX6_guard_104, eX6_guard_107, eX6_guard_109, eX6_guard_112, eX6_guard_113, eX6_guard_114, eX6_guard_116, eX6_guard_118, eX6_guard_121, eX6_guard_123, eX6_guard_126, eX6_guard_128, eX6_guard_130, eX6_guard_133, eX6_guard_136, eX6_guard_137, kl_i, kl_r, kl_n, kl_l, true_and, and_true, true_implies, false_implies, not_true_eq_false, not_false_eq_true, i10, Classical.not_not, hlt, hp, ec, q2]
        exact go (grdB (R6 u) (NN c) (NN s) i) _ (by rw [grdB, if_neg q])
  exact key 100 0 _ (by omega)
theorem wcX6_180 : ∀ x ∈ wV1 RX6 180 yX6_guards MX6_guards, x ∈ Gt := by decide +kernel
theorem nmX6_guards : nmOk yX6_guards 3 = true := by decide +kernel
set_option maxRecDepth 20000 in
theorem KX6_guard_ok (w : WW) : KOk w MX6_guard (KX6_guard w) := KOk_mk flX6_ok ciX6_ok clX6_ok (fun _ _ h => by cases h) (fun _ _ h => by cases h) (List.forall_mem_cons.mpr ⟨itV (n := 54) (by decide) (COk_V (n := 2) (ci := 6) (ctX6_man w) wcX6_54 nmX6_man (by decide) (by decide) rfl (prX6_man w)), List.forall_mem_cons.mpr ⟨itV (n := 64) (by decide) (COk_V (n := 1) (ci := 6) (ctX6_stands w) wcX6_64 nmX6_stands (by decide) (by decide) rfl (prX6_stands w)), List.forall_mem_cons.mpr ⟨itV (n := 68) (by decide) (COk_V (n := 1) (ci := 6) (ctX6_isPage w) wcX6_68 nmX6_isPage (by decide) (by decide) rfl (prX6_isPage w)), List.forall_mem_cons.mpr ⟨itV (n := 71) (by decide) (COk_V (n := 2) (ci := 6) (ctX6_chair w) wcX6_71 nmX6_chair (by decide) (by decide) rfl (prX6_chair w)), List.forall_mem_cons.mpr ⟨itV (n := 87) (by decide) (COk_V (n := 1) (ci := 6) (ctX6_finds w) wcX6_87 nmX6_finds (by decide) (by decide) rfl (prX6_finds w)), List.forall_mem_cons.mpr ⟨itV (n := 99) (by decide) (COk_V (n := 1) (ci := 6) (ctX6_isSeat w) wcX6_99 nmX6_isSeat (by decide) (by decide) rfl (prX6_isSeat w)), List.forall_mem_cons.mpr ⟨itV (n := 115) (by decide) (COk_V (n := 1) (ci := 6) (ctX6_isOne w) wcX6_115 nmX6_isOne (by decide) (by decide) rfl (prX6_isOne w)), List.forall_mem_cons.mpr ⟨itV (n := 148) (by decide) (COk_V (n := 1) (ci := 6) (ctX6_isLate w) wcX6_148 nmX6_isLate (by decide) (by decide) rfl (prX6_isLate w)), List.forall_mem_cons.mpr ⟨itV (n := 180) (by decide) (COk_V (n := 3) (ci := 6) (ctX6_guards w) wcX6_180 nmX6_guards (by decide) (by decide) rfl (prX6_guards w)), List.forall_mem_nil _⟩⟩⟩⟩⟩⟩⟩⟩⟩)
theorem ctX6_guard (w : WW) : CT w yX6_guard MX6_guard (csX6_guard w).2.1 (csX6_guard w).2.2 := by
  refine CT_of (by decide) rfl TX6_guard_ok TX6_guard_v (KX6_guard_ok w) (fun as u h => ?_)
  obtain ⟨a0, a1, a2, rfl, h⟩ := sgRII h
  obtain ⟨rfl, hh⟩ := h
  refine ⟨Nat.le_of_ble_eq_true rfl, ?_⟩
  have key := vX6_guard w a1 a2 u hh
  exact key
theorem prX6_guard (w : WW) : ∀ as u, (csX6_guard w).2.1 as u → ∃ a r, as = .ref a :: r ∧ r.length = 2 ∧ okO w a 6 := by
  intro as u h
  obtain ⟨a0, a1, a2, rfl, h⟩ := sgRII h
  exact ⟨_, _, rfl, rfl, okO_m h⟩
theorem tw_ar : ∀ M, M < 7 → ∀ i, i < 36 → 0 < M → nI i / nI M = nI (i / M) ∧ nI i - nI (i / M) * nI M = nI (i % M) ∧ nI i % nI M = nI (i % M) := by decide +kernel
theorem tw_sq : ∀ M, M < 7 → nI M * nI M = nI (M * M) ∧ M * M ≤ 36 ∧ (0 < M → ¬ nI M = 0) := by decide +kernel
theorem tw1_hi {R : Nat → Int32} (hO : Ok R) {a b i : Nat} (ha : a < NN (R 1)) (hb : b < NN (R 1)) (hi : 91 ≤ i) : tw1 R a b i = R i := by
  unfold tw1; split
  · rfl
  · rename_i z
    split
    · exact risesP_hi2 hO ha z hi
    · rename_i y
      rw [risesP_hi2 (risesP_Ok2 hO ha) (by rw [risesP_hd (by decide)]; exact hb) y hi, risesP_hi2 hO ha z hi]
theorem twM_Sc {u : MM} (h : I6 u) (hM : 0 < NN (R6 u 1)) : ∀ n, n ≤ NN (R6 u 1) * NN (R6 u 1) → Sc u (twM u n)
  | 0, _ => Sc.rf u
  | n + 1, hn => by
    have ih := twM_Sc h hM n (by omega)
    have hv := ih.i6 h
    have l := (ih.lv h.2).tr (lnV hv.2)
    refine ih.tr (sc_Sc hv.1 (fun i hi => tw1_hi (l.Ok h.2) ?_ ?_ hi))
    · rw [← l.2.1]; exact Nat.div_lt_of_lt_mul (by omega)
    · rw [← l.2.1]; exact Nat.mod_lt _ hM
theorem vX6_twice (w : WW) : VX6_twice w := by
  intro c s u h
  have h0 := h.1
  have ha : atOk u := Or.inl h0
  obtain ⟨M, hM, eM, eN⟩ := i6M h
  simp only [eX6_twice_0, eX6_twice_1, eX6_twice_2, eX6_twice_5, eX6_twice_8, eX6_twice_9, eX6_twice_10, eX6_twice_13, eX6_twice_16, eX6_twice_17, eX6_twice_19, eX6_twice_22, eX6_twice_23, eX6_twice_24, eX6_twice_26, eX6_twice_27, eX6_twice_30, eX6_twice_31, eX6_twice_32, eX6_twice_33, eX6_twice_36, eX6_twice_37, eX6_twice_38, eX6_twice_39, eX6_twice_42, eX6_twice_43, eX6_twice_44, eX6_twice_47, eX6_twice_48, eX6_twice_49, eX6_twice_50, eX6_twice_52, eX6_twice_53, eX6_twice_54, eX6_twice_57, eX6_twice_58, eX6_twice_59, eX6_twice_60, eX6_twice_62, eX6_twice_63, eX6_twice_66, eX6_twice_67, eX6_twice_69, eX6_twice_70, eX6_twice_73, eX6_twice_76, eX6_twice_77, eX6_twice_80, eX6_twice_81, eX6_twice_83, eX6_twice_85, eX6_twice_88, eX6_twice_89, eX6_twice_91, eX6_twice_94, eX6_twice_96, eX6_twice_99, eX6_twice_100, eX6_twice_102, eX6_twice_103, eX6_twice_106, eX6_twice_109, eX6_twice_110, eX6_twice_113, eX6_twice_114, eX6_twice_116, eX6_twice_118, eX6_twice_121, eX6_twice_122, eX6_twice_124, eX6_twice_127, eX6_twice_129, eX6_twice_132, eX6_twice_133, eX6_twice_134, eX6_twice_135, eX6_twice_138, eX6_twice_139, eX6_twice_142, eX6_twice_143, eX6_twice_146, eX6_twice_147, eX6_twice_149, eX6_twice_150, eX6_twice_151, eX6_twice_154, eX6_twice_156, eX6_twice_159, eX6_twice_161, eX6_twice_163, eX6_twice_164, eX6_twice_166, eX6_twice_167, eX6_twice_168, eX6_twice_171, eX6_twice_174, eX6_twice_175, eX6_twice_177, eX6_twice_180, kl_i, kl_r, kl_n, kl_l, true_and, and_true, true_implies, false_implies, not_true_eq_false, not_false_eq_true, i10, Classical.not_not, pOne, mX6_sets, mX6_setsChair, pX6_sets, pX6_setsChair, pX6_chair, pX6_man, pX6_its, RW_pv, pv_pv, B6_pv, atOk_pv, N_0, N_1, N_2, N_3, N_4, N_5, N_6, v7_0, v7_1, v7_2, v7_3, v7_4, v7_5, v7_6, v3_0, v3_1, v3_2, ch0, ch1, ch2, man0, man1, man2, man3, man4, man5, man6, its0, its1, its2, pX6_isOne, rX6_isOne, pX6_isSeat, rX6_isSeat, bi_0, pf0, pf1, pf2, pf3, pf4, pf5, pf6, mf0, mf1, mf2, mf3, mf4, mf5, mf6, rX6_finds, RW6 h0, ha, rX6_twice, mX6_twice, Option.some.injEq, Value.int.injEq]
  refine ⟨fun c1 => ml0 (by rw [oTwice, if_pos (fun z => c1 z.1)]), fun c1 => ⟨fun c2 => ?_, fun c2 => ml0 (by rw [oTwice, if_pos (fun z => c2 z.2)])⟩⟩
  have hs := (isSt_vi h.2).mp c2
  have hs6 : vp_in s 6 := vi_mono hs h.2.M.1
  have hsN : NN s < NN (R6 u 1) := vi_lt hs
  have hM0 : 0 < M := by omega
  obtain ⟨sq, sq2, sq3⟩ := tw_sq M (by omega)
  have sq3 := sq3 hM0
  rw [eN]
  generalize hT : twN (R6 u) c (NN s) 0 (M * M) = T
  have eo : oTwice (R6 u) c s = twA (R6 u) M T := by rw [oTwice, if_neg (fun z => z ⟨c1, c2⟩), eN, hT]; cases T <;> rfl
  have key : ∀ (m i : Nat) (j4 j5 j6 j7 : Option Value), i + m = M * M → twN (R6 u) c (NN s) i m = T → GX6_twice w (fun r u' => r = some (.int (an (oTwice (R6 u) c s))) ∧ u' = ml (oTwice (R6 u) c s) u (twM u (twK (M * M) T))) 25 [some (.ref (mA w)), some (.int c), some (.int s), some (.int (nI i)), j4, j5, j6, j7] [] (twM u i) := by
    intro m
    induction m with
    | zero =>
      intro i j4 j5 j6 j7 hi e
      have e3 : i = M * M := by omega
      subst e3
      have hle : nI (M * M) ≤ nI (M * M) := Int32.le_refl _
      have hS := twM_Sc h (by omega) (M * M) (by rw [eN]; omega)
      have e1 : (twM u (M * M)).1 (1100 + 1) = nI M := (hS.2 1101 (by decide)).trans eM
      rw [twN] at e
      subst e
      rw [eX6_twice_25]
      simp only [eX6_twice_0, eX6_twice_1, eX6_twice_2, eX6_twice_5, eX6_twice_8, eX6_twice_9, eX6_twice_10, eX6_twice_13, eX6_twice_16, eX6_twice_17, eX6_twice_19, eX6_twice_22, eX6_twice_23, eX6_twice_24, eX6_twice_26, eX6_twice_27, eX6_twice_30, eX6_twice_31, eX6_twice_32, eX6_twice_33, eX6_twice_36, eX6_twice_37, eX6_twice_38, eX6_twice_39, eX6_twice_42, eX6_twice_43, eX6_twice_44, eX6_twice_47, eX6_twice_48, eX6_twice_49, eX6_twice_50, eX6_twice_52, eX6_twice_53, eX6_twice_54, eX6_twice_57, eX6_twice_58, eX6_twice_59, eX6_twice_60, eX6_twice_62, eX6_twice_63, eX6_twice_66, eX6_twice_67, eX6_twice_69, eX6_twice_70, eX6_twice_73, eX6_twice_76, eX6_twice_77, eX6_twice_80, eX6_twice_81, eX6_twice_83, eX6_twice_85, eX6_twice_88, eX6_twice_89, eX6_twice_91, eX6_twice_94, eX6_twice_96, eX6_twice_99, eX6_twice_100, eX6_twice_102, eX6_twice_103, eX6_twice_106, eX6_twice_109, eX6_twice_110, eX6_twice_113, eX6_twice_114, eX6_twice_116, eX6_twice_118, eX6_twice_121, eX6_twice_122, eX6_twice_124, eX6_twice_127, eX6_twice_129, eX6_twice_132, eX6_twice_133, eX6_twice_134, eX6_twice_135, eX6_twice_138, eX6_twice_139, eX6_twice_142, eX6_twice_143, eX6_twice_146, eX6_twice_147, eX6_twice_149, eX6_twice_150, eX6_twice_151, eX6_twice_154, eX6_twice_156, eX6_twice_159, eX6_twice_161, eX6_twice_163, eX6_twice_164, eX6_twice_166, eX6_twice_167, eX6_twice_168, eX6_twice_171, eX6_twice_174, eX6_twice_175, eX6_twice_177, eX6_twice_180, kl_i, kl_r, kl_n, kl_l, true_and, and_true, true_implies, false_implies, not_true_eq_false, not_false_eq_true, i10, Classical.not_not, ok_m0, rf_m0, ai_mr0, rd_mr0, v182_1, N_1, e1, sq, hle, pf0, pf1, pf2, pf3, pf4, pf5, pf6, mf0, mf1, mf2, mf3, mf4, mf5, mf6, rX6_finds, Option.some.injEq, Value.int.injEq]
      exact ml3 eo
    | succ m ih =>
      intro i j4 j5 j6 j7 hi e
      have hlt : ¬ nI (M * M) ≤ nI i := nI_ge (by omega) (by omega)
      obtain ⟨a1, a2, a3⟩ := tw_ar M (by omega) i (by omega) hM0
      have hS := twM_Sc h (by omega) i (by rw [eN]; omega)
      have hv6 := hS.i6 h
      have e1 : (twM u i).1 (1100 + 1) = nI M := (hS.2 1101 (by decide)).trans eM
      have l := (hS.lv h.2).tr (lnV hv6.2)
      have hO1 : Ok (ln (twM u i)) := l.Ok h.2
      have hA : i / M < NN (R6 u 1) := by rw [eN]; exact Nat.div_lt_of_lt_mul (by omega)
      have hB : i % M < NN (R6 u 1) := by rw [eN]; exact Nat.mod_lt _ hM0
      have vA : vp_in (nI (i / M)) 6 := vi_nI (by omega)
      have vB : vp_in (nI (i % M)) 6 := vi_nI (by omega)
      have nA : NN (nI (i / M)) = i / M := NN_nI (by omega)
      have nB : NN (nI (i % M)) = i % M := NN_nI (by omega)
      have q1 : se (ln (twM u i)) (i / M) 2 = se (R6 u) (i / M) 2 := (l.2.2.2.1 _ hA 2 (by decide)).symm
      have lA := risesP_lv2 l h.2 hA
      have oA := risesP_Ok2 h.2 hA
      have hdA : ∀ R : Nat → Int32, risesP R (nI (i / M)) 1 = R 1 := fun R => risesP_hd (by decide)
      have q2 : se (risesP (ln (twM u i)) (nI (i / M))) (i % M) 2 = se (risesP (R6 u) (nI (i / M))) (i % M) 2 := (lA.2.2.2.1 _ (by rw [hdA]; exact hB) 2 (by decide)).symm
      have lB := risesP_lv2 (s := i % M) lA oA (by rw [hdA]; exact hB)
      have q3 : se (risesP (risesP (ln (twM u i)) (nI (i / M))) (nI (i % M))) (NN s) 2 = se (risesP (risesP (R6 u) (nI (i / M))) (nI (i % M))) (NN s) 2 := (lB.2.2.2.1 _ (by rw [risesP_hd (by decide), hdA]; exact hsN) 2 (by decide)).symm
      have em : twM u (i + 1) = sc (twM u i) (tw1 (ln (twM u i)) (i / M) (i % M)) := by rw [twM, eN]
      have go : ∀ (y : MM) (j4 j5 j6 j7 : Option Value), ¬ tw2 (R6 u) c (NN s) (i / M) (i % M) → y = twM u (i + 1) → GX6_twice w (fun r u' => r = some (.int (an (oTwice (R6 u) c s))) ∧ u' = ml (oTwice (R6 u) c s) u (twM u (twK (M * M) T))) 25 [some (.ref (mA w)), some (.int c), some (.int s), some (.int (nI i + 1)), j4, j5, j6, j7] [] y := fun y j4 j5 j6 j7 hx hy => by
        rw [hy, nI_1]; refine ih (i + 1) j4 j5 j6 j7 (by omega) ?_
        rw [twN, eN, if_neg hx] at e
        exact e
      rw [eX6_twice_25]
      by_cases z : se (R6 u) (i / M) 2 < 0
      · simp only [eX6_twice_0, eX6_twice_1, eX6_twice_2, eX6_twice_5, eX6_twice_8, eX6_twice_9, eX6_twice_10, eX6_twice_13, eX6_twice_16, eX6_twice_17, eX6_twice_19, eX6_twice_22, eX6_twice_23, eX6_twice_24, eX6_twice_26, eX6_twice_27, eX6_twice_30, eX6_twice_31, eX6_twice_32, eX6_twice_33, eX6_twice_36, eX6_twice_37, eX6_twice_38, eX6_twice_39, eX6_twice_42, eX6_twice_43, eX6_twice_44, eX6_twice_47, eX6_twice_48, eX6_twice_49, eX6_twice_50, eX6_twice_52, eX6_twice_53, eX6_twice_54, eX6_twice_57, eX6_twice_58, eX6_twice_59, eX6_twice_60, eX6_twice_62, eX6_twice_63, eX6_twice_66, eX6_twice_67, eX6_twice_69, eX6_twice_70, eX6_twice_73, eX6_twice_76, eX6_twice_77, eX6_twice_80, eX6_twice_81, eX6_twice_83, eX6_twice_85, eX6_twice_88, eX6_twice_89, eX6_twice_91, eX6_twice_94, eX6_twice_96, eX6_twice_99, eX6_twice_100, eX6_twice_102, eX6_twice_103, eX6_twice_106, eX6_twice_109, eX6_twice_110, eX6_twice_113, eX6_twice_114, eX6_twice_116, eX6_twice_118, eX6_twice_121, eX6_twice_122, eX6_twice_124, eX6_twice_127, eX6_twice_129, eX6_twice_132, eX6_twice_133, eX6_twice_134, eX6_twice_135, eX6_twice_138, eX6_twice_139, eX6_twice_142, eX6_twice_143, eX6_twice_146, eX6_twice_147, eX6_twice_149, eX6_twice_150, eX6_twice_151, eX6_twice_154, eX6_twice_156, eX6_twice_159, eX6_twice_161, eX6_twice_163, eX6_twice_164, eX6_twice_166, eX6_twice_167, eX6_twice_168, eX6_twice_171, eX6_twice_174, eX6_twice_175, eX6_twice_177, eX6_twice_180, kl_i, kl_r, kl_n, kl_l, true_and, and_true, true_implies, false_implies, not_true_eq_false, not_false_eq_true, i10, Classical.not_not, pOne, mX6_sets, mX6_setsChair, pX6_sets, pX6_setsChair, pX6_chair, pX6_man, pX6_its, RW_pv, pv_pv, B6_pv, atOk_pv, N_0, N_1, N_2, N_3, N_4, N_5, N_6, v7_0, v7_1, v7_2, v7_3, v7_4, v7_5, v7_6, v3_0, v3_1, v3_2, ch0, ch1, ch2, man0, man1, man2, man3, man4, man5, man6, its0, its1, its2, ok_m0, rf_m0, ai_mr0, rd_mr0, v182_1, e1, sq, sq3, hlt, a1, a2, a3, pX6_lends, atL, vA, nA, q1, z, ok_m1, ix_m1]
        refine go _ _ _ _ _ (fun y => y.1 z) ?_
        rw [em, tw1, q1, if_pos z]; exact congrArg (fun x => uI x 1000 0) (pv_vw _ _).symm
      · have hh : vp_in (se (R6 u) (i / M) 2) 10 := vi_mono ((h.2.2.2.1 _ hA).resolve_left z) h.2.K.1
        have hcr : crtOk (ln (twM u i)) := hO1.crt
        by_cases y : se (risesP (R6 u) (nI (i / M))) (i % M) 2 < 0
        · simp only [eX6_twice_0, eX6_twice_1, eX6_twice_2, eX6_twice_5, eX6_twice_8, eX6_twice_9, eX6_twice_10, eX6_twice_13, eX6_twice_16, eX6_twice_17, eX6_twice_19, eX6_twice_22, eX6_twice_23, eX6_twice_24, eX6_twice_26, eX6_twice_27, eX6_twice_30, eX6_twice_31, eX6_twice_32, eX6_twice_33, eX6_twice_36, eX6_twice_37, eX6_twice_38, eX6_twice_39, eX6_twice_42, eX6_twice_43, eX6_twice_44, eX6_twice_47, eX6_twice_48, eX6_twice_49, eX6_twice_50, eX6_twice_52, eX6_twice_53, eX6_twice_54, eX6_twice_57, eX6_twice_58, eX6_twice_59, eX6_twice_60, eX6_twice_62, eX6_twice_63, eX6_twice_66, eX6_twice_67, eX6_twice_69, eX6_twice_70, eX6_twice_73, eX6_twice_76, eX6_twice_77, eX6_twice_80, eX6_twice_81, eX6_twice_83, eX6_twice_85, eX6_twice_88, eX6_twice_89, eX6_twice_91, eX6_twice_94, eX6_twice_96, eX6_twice_99, eX6_twice_100, eX6_twice_102, eX6_twice_103, eX6_twice_106, eX6_twice_109, eX6_twice_110, eX6_twice_113, eX6_twice_114, eX6_twice_116, eX6_twice_118, eX6_twice_121, eX6_twice_122, eX6_twice_124, eX6_twice_127, eX6_twice_129, eX6_twice_132, eX6_twice_133, eX6_twice_134, eX6_twice_135, eX6_twice_138, eX6_twice_139, eX6_twice_142, eX6_twice_143, eX6_twice_146, eX6_twice_147, eX6_twice_149, eX6_twice_150, eX6_twice_151, eX6_twice_154, eX6_twice_156, eX6_twice_159, eX6_twice_161, eX6_twice_163, eX6_twice_164, eX6_twice_166, eX6_twice_167, eX6_twice_168, eX6_twice_171, eX6_twice_174, eX6_twice_175, eX6_twice_177, eX6_twice_180, kl_i, kl_r, kl_n, kl_l, true_and, and_true, true_implies, false_implies, not_true_eq_false, not_false_eq_true, i10, Classical.not_not, pOne, mX6_sets, mX6_setsChair, pX6_sets, pX6_setsChair, pX6_chair, pX6_man, pX6_its, RW_pv, pv_pv, B6_pv, atOk_pv, N_0, N_1, N_2, N_3, N_4, N_5, N_6, v7_0, v7_1, v7_2, v7_3, v7_4, v7_5, v7_6, v3_0, v3_1, v3_2, ch0, ch1, ch2, man0, man1, man2, man3, man4, man5, man6, its0, its1, its2, ok_m0, rf_m0, ai_mr0, rd_mr0, v182_1, e1, sq, sq3, hlt, a1, a2, a3, pX6_lends, atL, vA, nA, q1, z, ok_m1, ix_m1, pX6_rises, mX6_rises, hh, hcr, vB, nB, q2, y]
          refine go _ _ _ _ _ (fun x => x.2.1 y) ?_
          rw [em, tw1, q1, if_neg z, q2, if_pos y]; rfl
        · have hh2 : vp_in (se (risesP (R6 u) (nI (i / M))) (i % M) 2) 10 := vi_mono ((oA.2.2.1 _ (by rw [hdA]; exact hB)).resolve_left y) oA.K.1
          have hcr2 : crtOk (risesP (ln (twM u i)) (nI (i / M))) := (lA.Ok oA).crt
          have emf : uI (pv (mX6_lends (twM u i)) (B6 (mX6_lends (twM u i))) (risesP (risesP (ln (twM u i)) (nI (i / M))) (nI (i % M)))) 1000 0 = twM u (i + 1) := by rw [em, tw1, q1, if_neg z, q2, if_neg y]; rfl
          simp only [eX6_twice_0, eX6_twice_1, eX6_twice_2, eX6_twice_5, eX6_twice_8, eX6_twice_9, eX6_twice_10, eX6_twice_13, eX6_twice_16, eX6_twice_17, eX6_twice_19, eX6_twice_22, eX6_twice_23, eX6_twice_24, eX6_twice_26, eX6_twice_27, eX6_twice_30, eX6_twice_31, eX6_twice_32, eX6_twice_33, eX6_twice_36, eX6_twice_37, eX6_twice_38, eX6_twice_39, eX6_twice_42, eX6_twice_43, eX6_twice_44, eX6_twice_47, eX6_twice_48, eX6_twice_49, eX6_twice_50, eX6_twice_52, eX6_twice_53, eX6_twice_54, eX6_twice_57, eX6_twice_58, eX6_twice_59, eX6_twice_60, eX6_twice_62, eX6_twice_63, eX6_twice_66, eX6_twice_67, eX6_twice_69, eX6_twice_70, eX6_twice_73, eX6_twice_76, eX6_twice_77, eX6_twice_80, eX6_twice_81, eX6_twice_83, eX6_twice_85, eX6_twice_88, eX6_twice_89, eX6_twice_91, eX6_twice_94, eX6_twice_96, eX6_twice_99, eX6_twice_100, eX6_twice_102, eX6_twice_103, eX6_twice_106, eX6_twice_109, eX6_twice_110, eX6_twice_113, eX6_twice_114, eX6_twice_116, eX6_twice_118, eX6_twice_121, eX6_twice_122, eX6_twice_124, eX6_twice_127, eX6_twice_129, eX6_twice_132, eX6_twice_133, eX6_twice_134, eX6_twice_135, eX6_twice_138, eX6_twice_139, eX6_twice_142, eX6_twice_143, eX6_twice_146, eX6_twice_147, eX6_twice_149, eX6_twice_150, eX6_twice_151, eX6_twice_154, eX6_twice_156, eX6_twice_159, eX6_twice_161, eX6_twice_163, eX6_twice_164, eX6_twice_166, eX6_twice_167, eX6_twice_168, eX6_twice_171, eX6_twice_174, eX6_twice_175, eX6_twice_177, eX6_twice_180, kl_i, kl_r, kl_n, kl_l, true_and, and_true, true_implies, false_implies, not_true_eq_false, not_false_eq_true, i10, Classical.not_not, pOne, mX6_sets, mX6_setsChair, pX6_sets, pX6_setsChair, pX6_chair, pX6_man, pX6_its, RW_pv, pv_pv, B6_pv, atOk_pv, N_0, N_1, N_2, N_3, N_4, N_5, N_6, v7_0, v7_1, v7_2, v7_3, v7_4, v7_5, v7_6, v3_0, v3_1, v3_2, ch0, ch1, ch2, man0, man1, man2, man3, man4, man5, man6, its0, its1, its2, ok_m0, rf_m0, ai_mr0, rd_mr0, v182_1, e1, sq, sq3, hlt, a1, a2, a3, pX6_lends, atL, vA, nA, q1, z, ok_m1, ix_m1, pX6_rises, mX6_rises, hh, hcr, vB, nB, q2, y, hh2, hcr2, hs6, q3, emf, Option.some.injEq, Value.int.injEq]
          refine ⟨fun x => go _ _ _ _ _ (fun t => x t.2.2) rfl, fun x => ?_⟩
          rw [twN, eN, if_pos ⟨z, y, x⟩] at e
          subst e
          exact mlr eo
  exact key (M * M) 0 _ _ _ _ (by omega) hT
set_option maxRecDepth 20000 in
theorem KX6_twice_ok (w : WW) : KOk w MX6_twice (KX6_twice w) := KOk_mk flX6_ok ciX6_ok clX6_ok (fun _ _ h => by cases h) (fun _ _ h => by cases h) (List.forall_mem_cons.mpr ⟨itV (n := 71) (by decide) (COk_V (n := 2) (ci := 6) (ctX6_chair w) wcX6_71 nmX6_chair (by decide) (by decide) rfl (prX6_chair w)), List.forall_mem_cons.mpr ⟨itV (n := 87) (by decide) (COk_V (n := 1) (ci := 6) (ctX6_finds w) wcX6_87 nmX6_finds (by decide) (by decide) rfl (prX6_finds w)), List.forall_mem_cons.mpr ⟨itV (n := 99) (by decide) (COk_V (n := 1) (ci := 6) (ctX6_isSeat w) wcX6_99 nmX6_isSeat (by decide) (by decide) rfl (prX6_isSeat w)), List.forall_mem_cons.mpr ⟨itV (n := 115) (by decide) (COk_V (n := 1) (ci := 6) (ctX6_isOne w) wcX6_115 nmX6_isOne (by decide) (by decide) rfl (prX6_isOne w)), List.forall_mem_cons.mpr ⟨itV (n := 142) (by decide) (COk_V (n := 1) (ci := 6) (ctX6_rises w) wcX6_142 nmX6_rises (by decide) (by decide) rfl (prX6_rises w)), List.forall_mem_cons.mpr ⟨itV (n := 157) (by decide) (COk_V (n := 0) (ci := 6) (ctX6_lends w) wcX6_157 nmX6_lends (by decide) (by decide) rfl (prX6_lends w)), List.forall_mem_nil _⟩⟩⟩⟩⟩⟩)
theorem ctX6_twice (w : WW) : CT w yX6_twice MX6_twice (csX6_twice w).2.1 (csX6_twice w).2.2 := by
  refine CT_of (by decide) rfl TX6_twice_ok TX6_twice_v (KX6_twice_ok w) (fun as u h => ?_)
  obtain ⟨a0, a1, a2, rfl, h⟩ := sgRII h
  obtain ⟨rfl, hh⟩ := h
  refine ⟨Nat.le_of_ble_eq_true rfl, ?_⟩
  have key := vX6_twice w a1 a2 u hh
  exact key
theorem prX6_twice (w : WW) : ∀ as u, (csX6_twice w).2.1 as u → ∃ a r, as = .ref a :: r ∧ r.length = 2 ∧ okO w a 6 := by
  intro as u h
  obtain ⟨a0, a1, a2, rfl, h⟩ := sgRII h
  exact ⟨_, _, rfl, rfl, okO_m h⟩
theorem hl_step {u : MM} (hO : Ok (R6 u)) {i : Nat} (hi : i < NN (R6 u 1)) : uI (hl u i) (1310 + i) (se (R6 u) i 2) = hl u (i + 1) := by
  apply Prod.ext
  · funext j
    simp only [hl, uI, upd]
    by_cases q : j = 1310 + i
    · rw [if_pos q, if_pos (by omega), q, show 1310 + i - 1310 = i by omega]
    · rw [if_neg q]
      by_cases q2 : 1310 ≤ j ∧ j < 1310 + i
      · rw [if_pos q2, if_pos (by omega)]
      · rw [if_neg q2, if_neg (by omega)]
  · rfl
theorem hl_0 (u : MM) : hl u 0 = u := by
  apply Prod.ext
  · funext j; simp only [hl]; rw [if_neg (by omega)]
  · rfl
theorem hl_lo (u : MM) (n : Nat) {j : Nat} (h : j < 1310) : (hl u n).1 j = u.1 j := by simp only [hl]; rw [if_neg (by omega)]
theorem hl_lv {u : MM} (h : Ok (R6 u)) (n : Nat) : Lv (R6 u) (R6 (hl u n)) := Lv_of h.M.1 h.K.1 (fun _ _ => (hl_lo u n (by omega)).symm)
theorem vX6_seconds (w : WW) : VX6_seconds w := by
  intro n u h
  have h0 := h.1
  have ha : atOk u := Or.inl h0
  have e0 : u.1 1100 = R6 u 0 := rfl
  obtain ⟨M, hM, eM, eN⟩ := i6M h
  simp only [eX6_seconds_0, eX6_seconds_1, eX6_seconds_2, eX6_seconds_5, eX6_seconds_8, eX6_seconds_11, eX6_seconds_12, eX6_seconds_14, eX6_seconds_17, eX6_seconds_18, eX6_seconds_19, eX6_seconds_20, eX6_seconds_23, eX6_seconds_26, eX6_seconds_27, eX6_seconds_29, eX6_seconds_32, eX6_seconds_33, eX6_seconds_34, eX6_seconds_36, eX6_seconds_37, eX6_seconds_40, eX6_seconds_41, eX6_seconds_42, eX6_seconds_45, eX6_seconds_46, eX6_seconds_49, eX6_seconds_50, eX6_seconds_51, eX6_seconds_52, eX6_seconds_53, eX6_seconds_56, eX6_seconds_57, eX6_seconds_60, eX6_seconds_63, eX6_seconds_64, eX6_seconds_65, eX6_seconds_68, eX6_seconds_69, eX6_seconds_70, eX6_seconds_71, eX6_seconds_73, eX6_seconds_74, eX6_seconds_77, eX6_seconds_78, eX6_seconds_79, eX6_seconds_82, eX6_seconds_83, eX6_seconds_84, eX6_seconds_87, eX6_seconds_88, eX6_seconds_89, eX6_seconds_90, eX6_seconds_91, eX6_seconds_92, eX6_seconds_95, eX6_seconds_98, eX6_seconds_99, eX6_seconds_102, eX6_seconds_103, eX6_seconds_104, eX6_seconds_105, eX6_seconds_108, eX6_seconds_111, eX6_seconds_112, kl_i, kl_r, kl_n, kl_l, true_and, and_true, true_implies, false_implies, not_true_eq_false, not_false_eq_true, i10, Classical.not_not, pOne, mX6_sets, mX6_setsChair, pX6_sets, pX6_setsChair, pX6_chair, pX6_man, pX6_its, RW_pv, pv_pv, B6_pv, atOk_pv, N_0, N_1, N_2, N_3, N_4, N_5, N_6, v7_0, v7_1, v7_2, v7_3, v7_4, v7_5, v7_6, v3_0, v3_1, v3_2, ch0, ch1, ch2, man0, man1, man2, man3, man4, man5, man6, its0, its1, its2, pX6_in, rX6_in, pX6_isLate, rX6_isLate, bi_0, pf0, pf1, pf2, pf3, pf4, pf5, pf6, mf0, mf1, mf2, mf3, mf4, mf5, mf6, rX6_finds, RW6 h0, ha, e0, rX6_seconds, mX6_seconds, Option.some.injEq, Value.int.injEq]
  refine ⟨fun c1 => ⟨fun c2 => ?_, fun c2 => ?_⟩, fun c1 => ?_⟩
  rotate_left
  · rw [oSeconds, if_neg (fun z => z c1), if_pos c2]; exact ⟨fk4.symm, rfl⟩
  · rw [oSeconds, if_pos c1]; exact ⟨fk0.symm, rfl⟩
  have eo : oSeconds (R6 u) n = .inr (chg (R6 u) (goP (NN n) (R6 u)) M, goP (NN n) (R6 u)) := by rw [oSeconds, if_neg (fun z => z c1), if_neg c2, eN]
  rw [eo, an_r, eN]
  have lM := hl_lv h.2 M
  have hOM : Ok (R6 (hl u M)) := lM.Ok h.2
  have hl0 : ∀ i, (hl u i).1 1000 = 0 := fun i => (hl_lo u i (by decide)).trans h0
  have hg1 : goP (NN n) (R6 (hl u M)) 1 = nI M := by rw [(goP_12 _).1, ← lM.2.1]; exact eM
  have key2 : ∀ (m i : Nat), i + m = M → GX6_seconds w (fun r u' => r = some (.int (chg (R6 u) (goP (NN n) (R6 u)) M)) ∧ u' = pv (hl u M) 1100 (goP (NN n) (R6 (hl u M)))) 72 [some (.ref (mA w)), some (.int n), some (.int (chg (R6 u) (goP (NN n) (R6 u)) i)), some (.int (nI i))] [] (pv (hl u M) 1100 (goP (NN n) (R6 (hl u M)))) := by
    intro m
    induction m with
    | zero =>
      intro i hi
      have e3 : i = M := by omega
      subst e3
      have hle : nI i ≤ nI i := Int32.le_refl _
      rw [eX6_seconds_72]
      simp only [eX6_seconds_0, eX6_seconds_1, eX6_seconds_2, eX6_seconds_5, eX6_seconds_8, eX6_seconds_11, eX6_seconds_12, eX6_seconds_14, eX6_seconds_17, eX6_seconds_18, eX6_seconds_19, eX6_seconds_20, eX6_seconds_23, eX6_seconds_26, eX6_seconds_27, eX6_seconds_29, eX6_seconds_32, eX6_seconds_33, eX6_seconds_34, eX6_seconds_36, eX6_seconds_37, eX6_seconds_40, eX6_seconds_41, eX6_seconds_42, eX6_seconds_45, eX6_seconds_46, eX6_seconds_49, eX6_seconds_50, eX6_seconds_51, eX6_seconds_52, eX6_seconds_53, eX6_seconds_56, eX6_seconds_57, eX6_seconds_60, eX6_seconds_63, eX6_seconds_64, eX6_seconds_65, eX6_seconds_68, eX6_seconds_69, eX6_seconds_70, eX6_seconds_71, eX6_seconds_73, eX6_seconds_74, eX6_seconds_77, eX6_seconds_78, eX6_seconds_79, eX6_seconds_82, eX6_seconds_83, eX6_seconds_84, eX6_seconds_87, eX6_seconds_88, eX6_seconds_89, eX6_seconds_90, eX6_seconds_91, eX6_seconds_92, eX6_seconds_95, eX6_seconds_98, eX6_seconds_99, eX6_seconds_102, eX6_seconds_103, eX6_seconds_104, eX6_seconds_105, eX6_seconds_108, eX6_seconds_111, eX6_seconds_112, kl_i, kl_r, kl_n, kl_l, true_and, and_true, true_implies, false_implies, not_true_eq_false, not_false_eq_true, i10, Classical.not_not, ok_m0, rf_m0, ai_mr0, rd_mr0, v182_1, N_1, pv_hi, hg1, hle]
    | succ m ih =>
      intro i hi
      have hlt : ¬ nI M ≤ nI i := nI_ge (by omega) (by omega)
      have hv : vp_in (nI i) 6 := vi_nI (by omega)
      have hNi : NN (nI i) = i := NN_nI (by omega)
      have z0 : (pv (hl u M) 1100 (goP (NN n) (R6 (hl u M)))).1 1000 = 0 := (pv_lo _ _ _ (by decide)).trans (hl0 M)
      have aV : atOk (pv (hl u M) 1100 (goP (NN n) (R6 (hl u M)))) := Or.inl z0
      have rV : RW (pv (hl u M) 1100 (goP (NN n) (R6 (hl u M)))) = goP (NN n) (R6 (hl u M)) := by rw [RW, B6_0 z0, vw_pv]
      have e5 : (pv (hl u M) 1100 (goP (NN n) (R6 (hl u M)))).1 (1310 + i) = se (R6 u) i 2 := by
        rw [show 1310 + i = 1100 + (210 + i) by omega, pv_hi, goP_hi hOM (by omega)]
        show (hl u M).1 (1100 + (210 + i)) = _
        simp only [hl]
        rw [if_pos (by omega), show 1100 + (210 + i) - 1310 = i by omega]
      have e6 : se (goP (NN n) (R6 (hl u M))) i 2 = se (goP (NN n) (R6 u)) i 2 := (goSe lM h.2 (NN n) (by rw [eN]; omega)).symm
      have go : ∀ x : Int32, x = chg (R6 u) (goP (NN n) (R6 u)) (i + 1) → GX6_seconds w (fun r u' => r = some (.int (chg (R6 u) (goP (NN n) (R6 u)) M)) ∧ u' = pv (hl u M) 1100 (goP (NN n) (R6 (hl u M)))) 72 [some (.ref (mA w)), some (.int n), some (.int x), some (.int (nI i + 1))] [] (pv (hl u M) 1100 (goP (NN n) (R6 (hl u M)))) := fun x hx => by rw [hx, nI_1]; exact ih (i + 1) (by omega)
      rw [eX6_seconds_72]
      simp only [eX6_seconds_0, eX6_seconds_1, eX6_seconds_2, eX6_seconds_5, eX6_seconds_8, eX6_seconds_11, eX6_seconds_12, eX6_seconds_14, eX6_seconds_17, eX6_seconds_18, eX6_seconds_19, eX6_seconds_20, eX6_seconds_23, eX6_seconds_26, eX6_seconds_27, eX6_seconds_29, eX6_seconds_32, eX6_seconds_33, eX6_seconds_34, eX6_seconds_36, eX6_seconds_37, eX6_seconds_40, eX6_seconds_41, eX6_seconds_42, eX6_seconds_45, eX6_seconds_46, eX6_seconds_49, eX6_seconds_50, eX6_seconds_51, eX6_seconds_52, eX6_seconds_53, eX6_seconds_56, eX6_seconds_57, eX6_seconds_60, eX6_seconds_63, eX6_seconds_64, eX6_seconds_65, eX6_seconds_68, eX6_seconds_69, eX6_seconds_70, eX6_seconds_71, eX6_seconds_73, eX6_seconds_74, eX6_seconds_77, eX6_seconds_78, eX6_seconds_79, eX6_seconds_82, eX6_seconds_83, eX6_seconds_84, eX6_seconds_87, eX6_seconds_88, eX6_seconds_89, eX6_seconds_90, eX6_seconds_91, eX6_seconds_92, eX6_seconds_95, eX6_seconds_98, eX6_seconds_99, eX6_seconds_102, eX6_seconds_103, eX6_seconds_104, eX6_seconds_105, eX6_seconds_108, eX6_seconds_111, eX6_seconds_112, kl_i, kl_r, kl_n, kl_l, true_and, and_true, true_implies, false_implies, not_true_eq_false, not_false_eq_true, i10, Classical.not_not, ok_m0, rf_m0, ai_mr0, rd_mr0, v182_1, pOne, mX6_sets, mX6_setsChair, pX6_sets, pX6_setsChair, pX6_chair, pX6_man, pX6_its, RW_pv, pv_pv, B6_pv, atOk_pv, N_0, N_1, N_2, N_3, N_4, N_5, N_6, v7_0, v7_1, v7_2, v7_3, v7_4, v7_5, v7_6, v3_0, v3_1, v3_2, ch0, ch1, ch2, man0, man1, man2, man3, man4, man5, man6, its0, its1, its2, pv_hi, hg1, hlt, ok_m3, rf_m3, ai_mr2, rd_mr2, hv, hNi, aV, rV, e5, e6]
      refine ⟨fun d => go _ ?_, fun d => go _ ?_⟩
      · rw [chg, if_neg d]
      · rw [chg, if_pos d]
  have key1 : ∀ (m i : Nat), i + m = M → GX6_seconds w (fun r u' => r = some (.int (chg (R6 u) (goP (NN n) (R6 u)) M)) ∧ u' = pv (hl u M) 1100 (goP (NN n) (R6 (hl u M)))) 35 [some (.ref (mA w)), some (.int n), some (.int (nI i)), none] [] (hl u i) := by
    intro m
    induction m with
    | zero =>
      intro i hi
      have e3 : i = M := by omega
      subst e3
      have hle : nI i ≤ nI i := Int32.le_refl _
      have aV : atOk (hl u i) := Or.inl (hl0 i)
      have e1 : (hl u i).1 (1100 + 1) = nI i := (hl_lo u i (by decide)).trans eM
      rw [eX6_seconds_35]
      simp only [eX6_seconds_0, eX6_seconds_1, eX6_seconds_2, eX6_seconds_5, eX6_seconds_8, eX6_seconds_11, eX6_seconds_12, eX6_seconds_14, eX6_seconds_17, eX6_seconds_18, eX6_seconds_19, eX6_seconds_20, eX6_seconds_23, eX6_seconds_26, eX6_seconds_27, eX6_seconds_29, eX6_seconds_32, eX6_seconds_33, eX6_seconds_34, eX6_seconds_36, eX6_seconds_37, eX6_seconds_40, eX6_seconds_41, eX6_seconds_42, eX6_seconds_45, eX6_seconds_46, eX6_seconds_49, eX6_seconds_50, eX6_seconds_51, eX6_seconds_52, eX6_seconds_53, eX6_seconds_56, eX6_seconds_57, eX6_seconds_60, eX6_seconds_63, eX6_seconds_64, eX6_seconds_65, eX6_seconds_68, eX6_seconds_69, eX6_seconds_70, eX6_seconds_71, eX6_seconds_73, eX6_seconds_74, eX6_seconds_77, eX6_seconds_78, eX6_seconds_79, eX6_seconds_82, eX6_seconds_83, eX6_seconds_84, eX6_seconds_87, eX6_seconds_88, eX6_seconds_89, eX6_seconds_90, eX6_seconds_91, eX6_seconds_92, eX6_seconds_95, eX6_seconds_98, eX6_seconds_99, eX6_seconds_102, eX6_seconds_103, eX6_seconds_104, eX6_seconds_105, eX6_seconds_108, eX6_seconds_111, eX6_seconds_112, kl_i, kl_r, kl_n, kl_l, true_and, and_true, true_implies, false_implies, not_true_eq_false, not_false_eq_true, i10, Classical.not_not, ok_m0, rf_m0, ai_mr0, rd_mr0, v182_1, N_1, e1, hle, pX6_go, mX6_go, aV, RW6 (hl0 i), hOM, B6_0 (hl0 i)]
      exact key2 i 0 (by omega)
    | succ m ih =>
      intro i hi
      have hlt : ¬ nI M ≤ nI i := nI_ge (by omega) (by omega)
      have hv : vp_in (nI i) 6 := vi_nI (by omega)
      have hNi : NN (nI i) = i := NN_nI (by omega)
      have aV : atOk (hl u i) := Or.inl (hl0 i)
      have e1 : (hl u i).1 (1100 + 1) = nI M := (hl_lo u i (by decide)).trans eM
      have e2 : se (R6 (hl u i)) i 2 = se (R6 u) i 2 := hl_lo u i (by omega)
      rw [eX6_seconds_35]
      simp only [eX6_seconds_0, eX6_seconds_1, eX6_seconds_2, eX6_seconds_5, eX6_seconds_8, eX6_seconds_11, eX6_seconds_12, eX6_seconds_14, eX6_seconds_17, eX6_seconds_18, eX6_seconds_19, eX6_seconds_20, eX6_seconds_23, eX6_seconds_26, eX6_seconds_27, eX6_seconds_29, eX6_seconds_32, eX6_seconds_33, eX6_seconds_34, eX6_seconds_36, eX6_seconds_37, eX6_seconds_40, eX6_seconds_41, eX6_seconds_42, eX6_seconds_45, eX6_seconds_46, eX6_seconds_49, eX6_seconds_50, eX6_seconds_51, eX6_seconds_52, eX6_seconds_53, eX6_seconds_56, eX6_seconds_57, eX6_seconds_60, eX6_seconds_63, eX6_seconds_64, eX6_seconds_65, eX6_seconds_68, eX6_seconds_69, eX6_seconds_70, eX6_seconds_71, eX6_seconds_73, eX6_seconds_74, eX6_seconds_77, eX6_seconds_78, eX6_seconds_79, eX6_seconds_82, eX6_seconds_83, eX6_seconds_84, eX6_seconds_87, eX6_seconds_88, eX6_seconds_89, eX6_seconds_90, eX6_seconds_91, eX6_seconds_92, eX6_seconds_95, eX6_seconds_98, eX6_seconds_99, eX6_seconds_102, eX6_seconds_103, eX6_seconds_104, eX6_seconds_105, eX6_seconds_108, eX6_seconds_111, eX6_seconds_112, kl_i, kl_r, kl_n, kl_l, true_and, and_true, true_implies, false_implies, not_true_eq_false, not_false_eq_true, i10, Classical.not_not, ok_m0, rf_m0, ai_mr0, rd_mr0, v182_1, pOne, mX6_sets, mX6_setsChair, pX6_sets, pX6_setsChair, pX6_chair, pX6_man, pX6_its, RW_pv, pv_pv, B6_pv, atOk_pv, N_0, N_1, N_2, N_3, N_4, N_5, N_6, v7_0, v7_1, v7_2, v7_3, v7_4, v7_5, v7_6, v3_0, v3_1, v3_2, ch0, ch1, ch2, man0, man1, man2, man3, man4, man5, man6, its0, its1, its2, e1, hlt, ok_m3, rf_m3, as_mr2, xa_mr2, hv, hNi, aV, RW6 (hl0 i), e2, hl_step h.2 (show i < NN (R6 u 1) by rw [eN]; omega)]
      rw [nI_1]
      exact ih (i + 1) (by omega)
  have := key1 M 0 (by omega)
  rw [hl_0] at this
  exact this
set_option maxRecDepth 20000 in
theorem KX6_seconds_ok (w : WW) : KOk w MX6_seconds (KX6_seconds w) := KOk_mk flX6_ok ciX6_ok clX6_ok (fun _ _ h => by cases h) (fun _ _ h => by cases h) (List.forall_mem_cons.mpr ⟨itV (n := 71) (by decide) (COk_V (n := 2) (ci := 6) (ctX6_chair w) wcX6_71 nmX6_chair (by decide) (by decide) rfl (prX6_chair w)), List.forall_mem_cons.mpr ⟨itV (n := 87) (by decide) (COk_V (n := 1) (ci := 6) (ctX6_finds w) wcX6_87 nmX6_finds (by decide) (by decide) rfl (prX6_finds w)), List.forall_mem_cons.mpr ⟨itV (n := 148) (by decide) (COk_V (n := 1) (ci := 6) (ctX6_isLate w) wcX6_148 nmX6_isLate (by decide) (by decide) rfl (prX6_isLate w)), List.forall_mem_cons.mpr ⟨itV (n := 151) (by decide) (COk_V (n := 1) (ci := 6) (ctX6_go w) wcX6_151 nmX6_go (by decide) (by decide) rfl (prX6_go w)), List.forall_mem_cons.mpr ⟨itS (n := 50) (COk_S (n := 3) (ctX6_in w) wcX6_65586 nmX6_in (by decide)), List.forall_mem_nil _⟩⟩⟩⟩⟩)
theorem ctX6_seconds (w : WW) : CT w yX6_seconds MX6_seconds (csX6_seconds w).2.1 (csX6_seconds w).2.2 := by
  refine CT_of (by decide) rfl TX6_seconds_ok TX6_seconds_v (KX6_seconds_ok w) (fun as u h => ?_)
  obtain ⟨a0, a1, rfl, h⟩ := sgRI h
  obtain ⟨rfl, hh⟩ := h
  refine ⟨Nat.le_of_ble_eq_true rfl, ?_⟩
  have key := vX6_seconds w a1 u hh
  exact key
theorem prX6_seconds (w : WW) : ∀ as u, (csX6_seconds w).2.1 as u → ∃ a r, as = .ref a :: r ∧ r.length = 1 ∧ okO w a 6 := by
  intro as u h
  obtain ⟨a0, a1, rfl, h⟩ := sgRI h
  exact ⟨_, _, rfl, rfl, okO_m h⟩
