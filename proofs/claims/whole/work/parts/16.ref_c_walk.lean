/-! ===== the reference: a second, and what is lent ===== -/
theorem lX6_walks {w : WW} {c t : Int32} (hc : vp_in c 10) {Q : Option Value → MM → Prop} :
    ∀ (n : Nat) (u : MM) (j4 j5 j6 : Option Value), n ≤ 2 → atOk u → crtOk (RW u) → Q none (pv u (B6 u) (wk (NN c) t n (RW u))) → GX6_walks w Q 18 [some (.ref (mA w)), some (.int c), some (.int t), some (.int (nI n)), j4, j5, j6] [] u := by
  have hc0 : c = nI (NN c) := vi_eq hc
  intro n
  induction n with
  | zero =>
    intro u j4 j5 j6 hn ha hk hQ
    rw [eX6_walks_18]
    simp only [eX6_walks_0, eX6_walks_1, eX6_walks_2, eX6_walks_3, eX6_walks_4, eX6_walks_7, eX6_walks_8, eX6_walks_11, eX6_walks_12, eX6_walks_13, eX6_walks_14, eX6_walks_17, eX6_walks_19, eX6_walks_22, eX6_walks_23, eX6_walks_24, eX6_walks_25, eX6_walks_28, eX6_walks_30, eX6_walks_32, eX6_walks_34, eX6_walks_36, eX6_walks_37, eX6_walks_38, eX6_walks_40, eX6_walks_41, eX6_walks_44, eX6_walks_45, eX6_walks_47, eX6_walks_49, eX6_walks_50, eX6_walks_51, eX6_walks_53, eX6_walks_54, eX6_walks_57, eX6_walks_58, eX6_walks_60, eX6_walks_62, eX6_walks_63, eX6_walks_66, eX6_walks_67, eX6_walks_69, eX6_walks_70, eX6_walks_73, eX6_walks_76, eX6_walks_77, eX6_walks_80, eX6_walks_81, eX6_walks_83, eX6_walks_85, eX6_walks_88, eX6_walks_89, eX6_walks_90, eX6_walks_91, eX6_walks_94, eX6_walks_95, eX6_walks_96, eX6_walks_97, eX6_walks_98, eX6_walks_99, eX6_walks_101, eX6_walks_104, eX6_walks_106, eX6_walks_109, eX6_walks_111, eX6_walks_114, eX6_walks_117, kl_i, kl_r, kl_n, kl_l, true_and, and_true, true_implies, false_implies, not_true_eq_false, not_false_eq_true, i10, Classical.not_not]
    refine ⟨fun _ => ?_, fun z => absurd (by decide) z⟩
    simpa only [wk, pv_vw] using hQ
  | succ n ih =>
    intro u j4 j5 j6 hn ha hk hQ
    have hpos : ¬ nI (n + 1) ≤ 0 := nI_nle (by omega) (by omega)
    have hst : rX6_nearer (on (RW u) (NN c) 1 / 10) (t / 10) u = nearer (on (RW u) (NN c) 1 / 10) (t / 10) := rfl
    have e0 : ∀ (j4 j5 j6 : Option Value) (u : MM), Q none u → GX6_walks w Q 18 [some (.ref (mA w)), some (.int c), some (.int t), some (.int 0), j4, j5, j6] [] u := fun j4 j5 j6 u hQ => by
      rw [eX6_walks_18]
      simp only [eX6_walks_0, eX6_walks_1, eX6_walks_2, eX6_walks_3, eX6_walks_4, eX6_walks_7, eX6_walks_8, eX6_walks_11, eX6_walks_12, eX6_walks_13, eX6_walks_14, eX6_walks_17, eX6_walks_19, eX6_walks_22, eX6_walks_23, eX6_walks_24, eX6_walks_25, eX6_walks_28, eX6_walks_30, eX6_walks_32, eX6_walks_34, eX6_walks_36, eX6_walks_37, eX6_walks_38, eX6_walks_40, eX6_walks_41, eX6_walks_44, eX6_walks_45, eX6_walks_47, eX6_walks_49, eX6_walks_50, eX6_walks_51, eX6_walks_53, eX6_walks_54, eX6_walks_57, eX6_walks_58, eX6_walks_60, eX6_walks_62, eX6_walks_63, eX6_walks_66, eX6_walks_67, eX6_walks_69, eX6_walks_70, eX6_walks_73, eX6_walks_76, eX6_walks_77, eX6_walks_80, eX6_walks_81, eX6_walks_83, eX6_walks_85, eX6_walks_88, eX6_walks_89, eX6_walks_90, eX6_walks_91, eX6_walks_94, eX6_walks_95, eX6_walks_96, eX6_walks_97, eX6_walks_98, eX6_walks_99, eX6_walks_101, eX6_walks_104, eX6_walks_106, eX6_walks_109, eX6_walks_111, eX6_walks_114, eX6_walks_117, kl_i, kl_r, kl_n, kl_l, true_and, and_true, true_implies, false_implies, not_true_eq_false, not_false_eq_true, i10, Classical.not_not]
      exact ⟨fun _ => hQ, fun z => absurd (by decide) z⟩
    have same : ost (RW u) (NN c) 1 (on (RW u) (NN c) 1) = RW u := ost_same rfl
    rw [eX6_walks_18]
    simp only [eX6_walks_0, eX6_walks_1, eX6_walks_2, eX6_walks_3, eX6_walks_4, eX6_walks_7, eX6_walks_8, eX6_walks_11, eX6_walks_12, eX6_walks_13, eX6_walks_14, eX6_walks_17, eX6_walks_19, eX6_walks_22, eX6_walks_23, eX6_walks_24, eX6_walks_25, eX6_walks_28, eX6_walks_30, eX6_walks_32, eX6_walks_34, eX6_walks_36, eX6_walks_37, eX6_walks_38, eX6_walks_40, eX6_walks_41, eX6_walks_44, eX6_walks_45, eX6_walks_47, eX6_walks_49, eX6_walks_50, eX6_walks_51, eX6_walks_53, eX6_walks_54, eX6_walks_57, eX6_walks_58, eX6_walks_60, eX6_walks_62, eX6_walks_63, eX6_walks_66, eX6_walks_67, eX6_walks_69, eX6_walks_70, eX6_walks_73, eX6_walks_76, eX6_walks_77, eX6_walks_80, eX6_walks_81, eX6_walks_83, eX6_walks_85, eX6_walks_88, eX6_walks_89, eX6_walks_90, eX6_walks_91, eX6_walks_94, eX6_walks_95, eX6_walks_96, eX6_walks_97, eX6_walks_98, eX6_walks_99, eX6_walks_101, eX6_walks_104, eX6_walks_106, eX6_walks_109, eX6_walks_111, eX6_walks_114, eX6_walks_117, kl_i, kl_r, kl_n, kl_l, true_and, and_true, true_implies, false_implies, not_true_eq_false, not_false_eq_true, i10, Classical.not_not, pOne, mX6_sets, mX6_setsChair, pX6_sets, pX6_setsChair, pX6_chair, pX6_man, pX6_its, RW_pv, pv_pv, B6_pv, atOk_pv, N_0, N_1, N_2, N_3, N_4, N_5, N_6, v7_0, v7_1, v7_2, v7_3, v7_4, v7_5, v7_6, v3_0, v3_1, v3_2, ch0, ch1, ch2, man0, man1, man2, man3, man4, man5, man6, its0, its1, its2, ha, hc, hpos, ne10, pX6_nearer, rX6_nearer, pX6_isBarred, hk, rX6_isBarred, bi_0, same, pv_vw]
    have hkO : crtOk (ost (RW u) (NN c) 1 (stepTo (on (RW u) (NN c) 1) t)) := by obtain ⟨K, hK, eK⟩ := hk; exact ⟨K, hK, by rw [hd2_ost]; exact eK⟩
    refine ⟨fun z => ?_, fun z => ⟨fun z2 => ?_, fun z2 => ?_⟩⟩
    · refine e0 _ _ _ _ ?_
      rw [wk, if_neg (fun q => q.1 z), pv_vw] at hQ
      exact hQ
    · refine e0 _ _ _ _ ?_
      rw [wk, if_neg, pv_vw] at hQ
      · exact hQ
      · intro q
        have := q.2
        rw [← hc0] at this
        simp only [stepTo, rem32] at this
        rw [this] at z2
        cases z2
    · rw [nI_pred]
      refine ih _ _ _ _ (by omega) ((atOk_pv _ _).mpr ha) ?_ ?_
      · rw [RW_pv]; exact hkO
      · rw [RW_pv, B6_pv, pv_pv]
        rw [wk, if_pos] at hQ
        · exact hQ
        · refine ⟨z, ?_⟩
          rw [← hc0]
          simp only [stepTo, rem32]
          exact Bool.eq_false_iff.mpr z2
theorem goe_le (k s : Int32) : ∃ n, n ≤ 2 ∧ goe k s = nI n := by
  unfold goe
  split
  · split
    · exact ⟨1, by decide, rfl⟩
    · exact ⟨0, by decide, rfl⟩
  · split
    · exact ⟨2, by decide, rfl⟩
    · split
      · split
        · exact ⟨0, by decide, rfl⟩
        · exact ⟨1, by decide, rfl⟩
      · exact ⟨1, by decide, rfl⟩
theorem vX6_walks (w : WW) : VX6_walks w := by
  intro c u h
  obtain ⟨ha, hc, hw, hk⟩ := h
  have hp : pOne c u := ⟨ha, hc⟩
  obtain ⟨n, hn, e⟩ := goe_le (on (RW u) (NN c) 0) (RW u 0)
  simp only [eX6_walks_0, eX6_walks_1, eX6_walks_2, eX6_walks_3, eX6_walks_4, eX6_walks_7, eX6_walks_8, eX6_walks_11, eX6_walks_12, eX6_walks_13, eX6_walks_14, eX6_walks_17, eX6_walks_19, eX6_walks_22, eX6_walks_23, eX6_walks_24, eX6_walks_25, eX6_walks_28, eX6_walks_30, eX6_walks_32, eX6_walks_34, eX6_walks_36, eX6_walks_37, eX6_walks_38, eX6_walks_40, eX6_walks_41, eX6_walks_44, eX6_walks_45, eX6_walks_47, eX6_walks_49, eX6_walks_50, eX6_walks_51, eX6_walks_53, eX6_walks_54, eX6_walks_57, eX6_walks_58, eX6_walks_60, eX6_walks_62, eX6_walks_63, eX6_walks_66, eX6_walks_67, eX6_walks_69, eX6_walks_70, eX6_walks_73, eX6_walks_76, eX6_walks_77, eX6_walks_80, eX6_walks_81, eX6_walks_83, eX6_walks_85, eX6_walks_88, eX6_walks_89, eX6_walks_90, eX6_walks_91, eX6_walks_94, eX6_walks_95, eX6_walks_96, eX6_walks_97, eX6_walks_98, eX6_walks_99, eX6_walks_101, eX6_walks_104, eX6_walks_106, eX6_walks_109, eX6_walks_111, eX6_walks_114, eX6_walks_117, kl_i, kl_r, kl_n, kl_l, true_and, and_true, true_implies, false_implies, not_true_eq_false, not_false_eq_true, i10, Classical.not_not, pOne, mX6_sets, mX6_setsChair, pX6_sets, pX6_setsChair, pX6_chair, pX6_man, pX6_its, RW_pv, pv_pv, B6_pv, atOk_pv, N_0, N_1, N_2, N_3, N_4, N_5, N_6, v7_0, v7_1, v7_2, v7_3, v7_4, v7_5, v7_6, v3_0, v3_1, v3_2, ch0, ch1, ch2, man0, man1, man2, man3, man4, man5, man6, its0, its1, its2, ha, hc, hw, pX6_goes, hp, rX6_goes, e]
  refine lX6_walks hc n u _ _ _ hn ha hk ⟨rfl, ?_⟩
  rw [mX6_walks, walkP, e, NN_nI (by omega)]
theorem wcX6_121 : ∀ x ∈ wV1 RX6 121 yX6_goes MX6_goes, x ∈ Gt := by decide +kernel
theorem nmX6_goes : nmOk yX6_goes 1 = true := by decide +kernel
theorem wcX6_135 : ∀ x ∈ wV1 RX6 135 yX6_isBarred MX6_isBarred, x ∈ Gt := by decide +kernel
theorem nmX6_isBarred : nmOk yX6_isBarred 2 = true := by decide +kernel
theorem wcX6_65668 : ∀ x ∈ wS1 RX6 132 yX6_nearer MX6_nearer, x ∈ Gt := by decide +kernel
theorem nmX6_nearer : nmOk yX6_nearer 2 = true := by decide +kernel
set_option maxRecDepth 20000 in
theorem KX6_walks_ok (w : WW) : KOk w MX6_walks (KX6_walks w) := KOk_mk flX6_ok ciX6_ok clX6_ok (fun _ _ h => by cases h) (fun _ _ h => by cases h) (List.forall_mem_cons.mpr ⟨itV (n := 54) (by decide) (COk_V (n := 2) (ci := 6) (ctX6_man w) wcX6_54 nmX6_man (by decide) (by decide) rfl (prX6_man w)), List.forall_mem_cons.mpr ⟨itV (n := 71) (by decide) (COk_V (n := 2) (ci := 6) (ctX6_chair w) wcX6_71 nmX6_chair (by decide) (by decide) rfl (prX6_chair w)), List.forall_mem_cons.mpr ⟨itV (n := 105) (by decide) (COk_V (n := 3) (ci := 6) (ctX6_sets w) wcX6_105 nmX6_sets (by decide) (by decide) rfl (prX6_sets w)), List.forall_mem_cons.mpr ⟨itV (n := 121) (by decide) (COk_V (n := 1) (ci := 6) (ctX6_goes w) wcX6_121 nmX6_goes (by decide) (by decide) rfl (prX6_goes w)), List.forall_mem_cons.mpr ⟨itV (n := 135) (by decide) (COk_V (n := 2) (ci := 6) (ctX6_isBarred w) wcX6_135 nmX6_isBarred (by decide) (by decide) rfl (prX6_isBarred w)), List.forall_mem_cons.mpr ⟨itS (n := 132) (COk_S (n := 2) (ctX6_nearer w) wcX6_65668 nmX6_nearer (by decide)), List.forall_mem_nil _⟩⟩⟩⟩⟩⟩)
theorem ctX6_walks (w : WW) : CT w yX6_walks MX6_walks (csX6_walks w).2.1 (csX6_walks w).2.2 := by
  refine CT_of (by decide) rfl TX6_walks_ok TX6_walks_v (KX6_walks_ok w) (fun as u h => ?_)
  obtain ⟨a0, a1, rfl, h⟩ := sgRI h
  obtain ⟨rfl, hh⟩ := h
  refine ⟨Nat.le_of_ble_eq_true rfl, ?_⟩
  have key := vX6_walks w a1 u hh
  exact key
theorem prX6_walks (w : WW) : ∀ as u, (csX6_walks w).2.1 as u → ∃ a r, as = .ref a :: r ∧ r.length = 1 ∧ okO w a 6 := by
  intro as u h
  obtain ⟨a0, a1, rfl, h⟩ := sgRI h
  exact ⟨_, _, rfl, rfl, okO_m h⟩
theorem Ok.one {R : Nat → Int32} (h : Ok R) {K c : Nat} (hK : K ≤ 10) (e : R 2 = nI K) (hc : c < K) : (on R c 3 < 0 ∨ vp_in (on R c 3) 6) ∧ (on R c 5 < 0 ∨ vp_in (on R c 5) 6) := by
  have := h.2.2.2 c (by rw [e, NN_nI (by omega)]; exact hc)
  exact ⟨this.1.imp id (fun z => vi_mono z h.M.1), this.2.imp id (fun z => vi_mono z h.M.1)⟩
theorem Ok.seat {R : Nat → Int32} (h : Ok R) {M s : Nat} (hM : M ≤ 6) (e : R 1 = nI M) (hs : s < M) : se R s 2 < 0 ∨ vp_in (se R s 2) 10 :=
  (h.2.2.1 s (by rw [e, NN_nI (by omega)]; exact hs)).imp id (fun z => vi_mono z h.K.1)
-- a second: those who go
section SEC
variable {w : WW} {u : MM} {Q : Option Value → MM → Prop} {M K : Nat}
theorem lX6_sec1 (ha : atOk u) (hO : Ok (RW u)) (hK : K ≤ 10) (eK : RW u 2 = nI K) (hx : ∀ j1 : Option Value, GX6_secondGoes w Q 39 [some (.ref (mA w)), j1, none] [] (pv u (B6 u) (wa (RW u) K))) :
    ∀ (n i : Nat), i + n = K → GX6_secondGoes w Q 2 [some (.ref (mA w)), some (.int (nI i)), none] [] (pv u (B6 u) (wa (RW u) i)) := by
  intro n
  induction n with
  | zero =>
    intro i hi
    have e2 : i = K := by omega
    subst e2
    rw [eX6_secondGoes_2]
    simp only [eX6_secondGoes_0, eX6_secondGoes_1, eX6_secondGoes_3, eX6_secondGoes_4, eX6_secondGoes_5, eX6_secondGoes_8, eX6_secondGoes_11, eX6_secondGoes_12, eX6_secondGoes_13, eX6_secondGoes_16, eX6_secondGoes_19, eX6_secondGoes_20, eX6_secondGoes_21, eX6_secondGoes_22, eX6_secondGoes_25, eX6_secondGoes_28, eX6_secondGoes_29, eX6_secondGoes_30, eX6_secondGoes_33, eX6_secondGoes_36, eX6_secondGoes_40, eX6_secondGoes_42, eX6_secondGoes_43, eX6_secondGoes_44, eX6_secondGoes_47, eX6_secondGoes_50, eX6_secondGoes_51, eX6_secondGoes_52, eX6_secondGoes_53, eX6_secondGoes_56, eX6_secondGoes_57, eX6_secondGoes_58, eX6_secondGoes_61, eX6_secondGoes_62, eX6_secondGoes_63, eX6_secondGoes_64, eX6_secondGoes_65, eX6_secondGoes_66, eX6_secondGoes_69, eX6_secondGoes_72, eX6_secondGoes_75, eX6_secondGoes_76, eX6_secondGoes_77, eX6_secondGoes_79, eX6_secondGoes_82, eX6_secondGoes_83, eX6_secondGoes_84, eX6_secondGoes_87, eX6_secondGoes_90, eX6_secondGoes_91, eX6_secondGoes_92, eX6_secondGoes_95, eX6_secondGoes_98, eX6_secondGoes_101, eX6_secondGoes_102, eX6_secondGoes_104, eX6_secondGoes_105, eX6_secondGoes_106, eX6_secondGoes_109, eX6_secondGoes_112, eX6_secondGoes_113, eX6_secondGoes_114, eX6_secondGoes_117, eX6_secondGoes_120, eX6_secondGoes_121, eX6_secondGoes_122, eX6_secondGoes_124, eX6_secondGoes_125, eX6_secondGoes_126, eX6_secondGoes_128, eX6_secondGoes_131, eX6_secondGoes_132, eX6_secondGoes_133, eX6_secondGoes_136, eX6_secondGoes_137, eX6_secondGoes_138, eX6_secondGoes_139, eX6_secondGoes_140, eX6_secondGoes_141, eX6_secondGoes_142, eX6_secondGoes_145, eX6_secondGoes_146, eX6_secondGoes_147, eX6_secondGoes_148, eX6_secondGoes_149, eX6_secondGoes_152, eX6_secondGoes_153, eX6_secondGoes_156, eX6_secondGoes_157, eX6_secondGoes_160, eX6_secondGoes_163, eX6_secondGoes_166, eX6_secondGoes_167, eX6_secondGoes_170, eX6_secondGoes_171, eX6_secondGoes_174, eX6_secondGoes_175, eX6_secondGoes_176, eX6_secondGoes_177, eX6_secondGoes_178, eX6_secondGoes_179, eX6_secondGoes_180, eX6_secondGoes_181, kl_i, kl_r, kl_n, kl_l, true_and, and_true, true_implies, false_implies, not_true_eq_false, not_false_eq_true, i10, Classical.not_not, pOne, mX6_sets, mX6_setsChair, pX6_sets, pX6_setsChair, pX6_chair, pX6_man, pX6_its, RW_pv, pv_pv, B6_pv, atOk_pv, N_0, N_1, N_2, N_3, N_4, N_5, N_6, v7_0, v7_1, v7_2, v7_3, v7_4, v7_5, v7_6, v3_0, v3_1, v3_2, ch0, ch1, ch2, man0, man1, man2, man3, man4, man5, man6, its0, its1, its2, ha, wa_hd (RW u) (show 2 < 21 by decide), eK]
    exact ⟨fun _ => hx _, fun z => absurd (nI_le (Nat.le_refl i) (by omega)) z⟩
  | succ n ih =>
    intro i hi
    have hlt : ¬ nI K ≤ nI i := nI_ge (by omega) (by omega)
    have hv : vp_in (nI i) 10 := vi_nI (by omega)
    have hN : NN (nI i) = i := NN_nI (by omega)
    have ha2 : atOk (pv u (B6 u) (wa (RW u) i)) := (atOk_pv _ _).mpr ha
    have hp : pOne (nI i) (pv u (B6 u) (wa (RW u) i)) := ⟨ha2, hv⟩
    have hO2 := wa_Ok hO i
    have go : wa (RW u) (i + 1) = wa (RW u) i → GX6_secondGoes w Q 2 [some (.ref (mA w)), some (.int (nI i + 1)), none] [] (pv u (B6 u) (wa (RW u) i)) := fun e => by rw [nI_1, ← e]; exact ih (i + 1) (by omega)
    rw [eX6_secondGoes_2]
    simp only [eX6_secondGoes_0, eX6_secondGoes_1, eX6_secondGoes_3, eX6_secondGoes_4, eX6_secondGoes_5, eX6_secondGoes_8, eX6_secondGoes_11, eX6_secondGoes_12, eX6_secondGoes_13, eX6_secondGoes_16, eX6_secondGoes_19, eX6_secondGoes_20, eX6_secondGoes_21, eX6_secondGoes_22, eX6_secondGoes_25, eX6_secondGoes_28, eX6_secondGoes_29, eX6_secondGoes_30, eX6_secondGoes_33, eX6_secondGoes_36, eX6_secondGoes_40, eX6_secondGoes_42, eX6_secondGoes_43, eX6_secondGoes_44, eX6_secondGoes_47, eX6_secondGoes_50, eX6_secondGoes_51, eX6_secondGoes_52, eX6_secondGoes_53, eX6_secondGoes_56, eX6_secondGoes_57, eX6_secondGoes_58, eX6_secondGoes_61, eX6_secondGoes_62, eX6_secondGoes_63, eX6_secondGoes_64, eX6_secondGoes_65, eX6_secondGoes_66, eX6_secondGoes_69, eX6_secondGoes_72, eX6_secondGoes_75, eX6_secondGoes_76, eX6_secondGoes_77, eX6_secondGoes_79, eX6_secondGoes_82, eX6_secondGoes_83, eX6_secondGoes_84, eX6_secondGoes_87, eX6_secondGoes_90, eX6_secondGoes_91, eX6_secondGoes_92, eX6_secondGoes_95, eX6_secondGoes_98, eX6_secondGoes_101, eX6_secondGoes_102, eX6_secondGoes_104, eX6_secondGoes_105, eX6_secondGoes_106, eX6_secondGoes_109, eX6_secondGoes_112, eX6_secondGoes_113, eX6_secondGoes_114, eX6_secondGoes_117, eX6_secondGoes_120, eX6_secondGoes_121, eX6_secondGoes_122, eX6_secondGoes_124, eX6_secondGoes_125, eX6_secondGoes_126, eX6_secondGoes_128, eX6_secondGoes_131, eX6_secondGoes_132, eX6_secondGoes_133, eX6_secondGoes_136, eX6_secondGoes_137, eX6_secondGoes_138, eX6_secondGoes_139, eX6_secondGoes_140, eX6_secondGoes_141, eX6_secondGoes_142, eX6_secondGoes_145, eX6_secondGoes_146, eX6_secondGoes_147, eX6_secondGoes_148, eX6_secondGoes_149, eX6_secondGoes_152, eX6_secondGoes_153, eX6_secondGoes_156, eX6_secondGoes_157, eX6_secondGoes_160, eX6_secondGoes_163, eX6_secondGoes_166, eX6_secondGoes_167, eX6_secondGoes_170, eX6_secondGoes_171, eX6_secondGoes_174, eX6_secondGoes_175, eX6_secondGoes_176, eX6_secondGoes_177, eX6_secondGoes_178, eX6_secondGoes_179, eX6_secondGoes_180, eX6_secondGoes_181, kl_i, kl_r, kl_n, kl_l, true_and, and_true, true_implies, false_implies, not_true_eq_false, not_false_eq_true, i10, Classical.not_not, pOne, mX6_sets, mX6_setsChair, pX6_sets, pX6_setsChair, pX6_chair, pX6_man, pX6_its, RW_pv, pv_pv, B6_pv, atOk_pv, N_0, N_1, N_2, N_3, N_4, N_5, N_6, v7_0, v7_1, v7_2, v7_3, v7_4, v7_5, v7_6, v3_0, v3_1, v3_2, ch0, ch1, ch2, man0, man1, man2, man3, man4, man5, man6, its0, its1, its2, ha, hv, wa_hd (RW u) (show 2 < 21 by decide), eK, hlt, hN, hp, pX6_stands, rX6_stands, bi_0, pX6_walks, mX6_walks, hO2.crt]
    refine ⟨fun z => go ?_, fun z => ⟨fun z2 => go ?_, fun z2 => ⟨?_, ?_⟩⟩⟩
    · rw [wa, if_neg (fun q => z q.1)]
    · rw [wa, if_neg (fun q => q.2 z2)]
    · exact (hO2.one hK ((wa_hd (RW u) (show 2 < 21 by decide) i).trans eK) (by omega)).1.resolve_left z2
    · have : wa (RW u) (i + 1) = walkP (wa (RW u) i) i := by rw [wa, if_pos ⟨z, z2⟩]
      rw [nI_1, ← this]
      exact ih (i + 1) (by omega)
theorem lX6_sec2 (ha : atOk u) (hO : Ok (RW u)) (hM : M ≤ 6) (eM : RW u 1 = nI M) (hx : ∀ j1 j2 : Option Value, GX6_secondGoes w Q 101 [some (.ref (mA w)), j1, j2] [] (pv u (B6 u) (ss (RW u) M))) :
    ∀ (n i : Nat) (j2 : Option Value), i + n = M → GX6_secondGoes w Q 41 [some (.ref (mA w)), some (.int (nI i)), j2] [] (pv u (B6 u) (ss (RW u) i)) := by
  intro n
  induction n with
  | zero =>
    intro i j2 hi
    have e2 : i = M := by omega
    subst e2
    rw [eX6_secondGoes_41]
    simp only [eX6_secondGoes_0, eX6_secondGoes_1, eX6_secondGoes_3, eX6_secondGoes_4, eX6_secondGoes_5, eX6_secondGoes_8, eX6_secondGoes_11, eX6_secondGoes_12, eX6_secondGoes_13, eX6_secondGoes_16, eX6_secondGoes_19, eX6_secondGoes_20, eX6_secondGoes_21, eX6_secondGoes_22, eX6_secondGoes_25, eX6_secondGoes_28, eX6_secondGoes_29, eX6_secondGoes_30, eX6_secondGoes_33, eX6_secondGoes_36, eX6_secondGoes_39, eX6_secondGoes_40, eX6_secondGoes_42, eX6_secondGoes_43, eX6_secondGoes_44, eX6_secondGoes_47, eX6_secondGoes_50, eX6_secondGoes_51, eX6_secondGoes_52, eX6_secondGoes_53, eX6_secondGoes_56, eX6_secondGoes_57, eX6_secondGoes_58, eX6_secondGoes_61, eX6_secondGoes_62, eX6_secondGoes_63, eX6_secondGoes_64, eX6_secondGoes_65, eX6_secondGoes_66, eX6_secondGoes_69, eX6_secondGoes_72, eX6_secondGoes_75, eX6_secondGoes_76, eX6_secondGoes_77, eX6_secondGoes_79, eX6_secondGoes_82, eX6_secondGoes_83, eX6_secondGoes_84, eX6_secondGoes_87, eX6_secondGoes_90, eX6_secondGoes_91, eX6_secondGoes_92, eX6_secondGoes_95, eX6_secondGoes_98, eX6_secondGoes_102, eX6_secondGoes_104, eX6_secondGoes_105, eX6_secondGoes_106, eX6_secondGoes_109, eX6_secondGoes_112, eX6_secondGoes_113, eX6_secondGoes_114, eX6_secondGoes_117, eX6_secondGoes_120, eX6_secondGoes_121, eX6_secondGoes_122, eX6_secondGoes_124, eX6_secondGoes_125, eX6_secondGoes_126, eX6_secondGoes_128, eX6_secondGoes_131, eX6_secondGoes_132, eX6_secondGoes_133, eX6_secondGoes_136, eX6_secondGoes_137, eX6_secondGoes_138, eX6_secondGoes_139, eX6_secondGoes_140, eX6_secondGoes_141, eX6_secondGoes_142, eX6_secondGoes_145, eX6_secondGoes_146, eX6_secondGoes_147, eX6_secondGoes_148, eX6_secondGoes_149, eX6_secondGoes_152, eX6_secondGoes_153, eX6_secondGoes_156, eX6_secondGoes_157, eX6_secondGoes_160, eX6_secondGoes_163, eX6_secondGoes_166, eX6_secondGoes_167, eX6_secondGoes_170, eX6_secondGoes_171, eX6_secondGoes_174, eX6_secondGoes_175, eX6_secondGoes_176, eX6_secondGoes_177, eX6_secondGoes_178, eX6_secondGoes_179, eX6_secondGoes_180, eX6_secondGoes_181, kl_i, kl_r, kl_n, kl_l, true_and, and_true, true_implies, false_implies, not_true_eq_false, not_false_eq_true, i10, Classical.not_not, pOne, mX6_sets, mX6_setsChair, pX6_sets, pX6_setsChair, pX6_chair, pX6_man, pX6_its, RW_pv, pv_pv, B6_pv, atOk_pv, N_0, N_1, N_2, N_3, N_4, N_5, N_6, v7_0, v7_1, v7_2, v7_3, v7_4, v7_5, v7_6, v3_0, v3_1, v3_2, ch0, ch1, ch2, man0, man1, man2, man3, man4, man5, man6, its0, its1, its2, ha, ss_hd (RW u) (show 1 < 3 by decide), eM]
    exact ⟨fun _ => hx _ _, fun z => absurd (nI_le (Nat.le_refl i) (by omega)) z⟩
  | succ n ih =>
    intro i j2 hi
    have hlt : ¬ nI M ≤ nI i := nI_ge (by omega) (by omega)
    have hv : vp_in (nI i) 6 := vi_nI (by omega)
    have hN : NN (nI i) = i := NN_nI (by omega)
    have hO2 := ss_Ok hO i (by rw [eM, NN_nI (by omega)]; omega)
    obtain ⟨K, hK, eK⟩ := hO2.crt
    have hnx : ∀ but, nx (ss (RW u) i) (se (ss (RW u) i) i 0) but (NN (ss (RW u) i 2)) < 0 ∨ vp_in (nx (ss (RW u) i) (se (ss (RW u) i) i 0) but (NN (ss (RW u) i 2))) 10 := fun but => nx_vi _ _ _ (by rw [eK, NN_nI (by omega)]; exact hK)
    have hst := hO2.seat hM ((ss_hd (RW u) (show 1 < 3 by decide) i).trans eM) (show i < M by omega)
    have go : ∀ (j2 : Option Value) (R : Nat → Int32), R = seat1 (ss (RW u) i) i → GX6_secondGoes w Q 41 [some (.ref (mA w)), some (.int (nI i + 1)), j2] [] (pv u (B6 u) R) := fun j2 R e => by rw [nI_1, e]; exact ih (i + 1) j2 (by omega)
    rw [eX6_secondGoes_41]
    by_cases c : se (ss (RW u) i) i 2 < 0
    · have c2 : ¬ 0 ≤ se (ss (RW u) i) i 2 := Int32.not_le.mpr c
      simp only [eX6_secondGoes_0, eX6_secondGoes_1, eX6_secondGoes_3, eX6_secondGoes_4, eX6_secondGoes_5, eX6_secondGoes_8, eX6_secondGoes_11, eX6_secondGoes_12, eX6_secondGoes_13, eX6_secondGoes_16, eX6_secondGoes_19, eX6_secondGoes_20, eX6_secondGoes_21, eX6_secondGoes_22, eX6_secondGoes_25, eX6_secondGoes_28, eX6_secondGoes_29, eX6_secondGoes_30, eX6_secondGoes_33, eX6_secondGoes_36, eX6_secondGoes_39, eX6_secondGoes_40, eX6_secondGoes_42, eX6_secondGoes_43, eX6_secondGoes_44, eX6_secondGoes_47, eX6_secondGoes_50, eX6_secondGoes_51, eX6_secondGoes_52, eX6_secondGoes_53, eX6_secondGoes_56, eX6_secondGoes_57, eX6_secondGoes_58, eX6_secondGoes_61, eX6_secondGoes_62, eX6_secondGoes_63, eX6_secondGoes_64, eX6_secondGoes_65, eX6_secondGoes_66, eX6_secondGoes_69, eX6_secondGoes_72, eX6_secondGoes_75, eX6_secondGoes_76, eX6_secondGoes_77, eX6_secondGoes_79, eX6_secondGoes_82, eX6_secondGoes_83, eX6_secondGoes_84, eX6_secondGoes_87, eX6_secondGoes_90, eX6_secondGoes_91, eX6_secondGoes_92, eX6_secondGoes_95, eX6_secondGoes_98, eX6_secondGoes_102, eX6_secondGoes_104, eX6_secondGoes_105, eX6_secondGoes_106, eX6_secondGoes_109, eX6_secondGoes_112, eX6_secondGoes_113, eX6_secondGoes_114, eX6_secondGoes_117, eX6_secondGoes_120, eX6_secondGoes_121, eX6_secondGoes_122, eX6_secondGoes_124, eX6_secondGoes_125, eX6_secondGoes_126, eX6_secondGoes_128, eX6_secondGoes_131, eX6_secondGoes_132, eX6_secondGoes_133, eX6_secondGoes_136, eX6_secondGoes_137, eX6_secondGoes_138, eX6_secondGoes_139, eX6_secondGoes_140, eX6_secondGoes_141, eX6_secondGoes_142, eX6_secondGoes_145, eX6_secondGoes_146, eX6_secondGoes_147, eX6_secondGoes_148, eX6_secondGoes_149, eX6_secondGoes_152, eX6_secondGoes_153, eX6_secondGoes_156, eX6_secondGoes_157, eX6_secondGoes_160, eX6_secondGoes_163, eX6_secondGoes_166, eX6_secondGoes_167, eX6_secondGoes_170, eX6_secondGoes_171, eX6_secondGoes_174, eX6_secondGoes_175, eX6_secondGoes_176, eX6_secondGoes_177, eX6_secondGoes_178, eX6_secondGoes_179, eX6_secondGoes_180, eX6_secondGoes_181, kl_i, kl_r, kl_n, kl_l, true_and, and_true, true_implies, false_implies, not_true_eq_false, not_false_eq_true, i10, Classical.not_not, pOne, mX6_sets, mX6_setsChair, pX6_sets, pX6_setsChair, pX6_chair, pX6_man, pX6_its, RW_pv, pv_pv, B6_pv, atOk_pv, N_0, N_1, N_2, N_3, N_4, N_5, N_6, v7_0, v7_1, v7_2, v7_3, v7_4, v7_5, v7_6, v3_0, v3_1, v3_2, ch0, ch1, ch2, man0, man1, man2, man3, man4, man5, man6, its0, its1, its2, ha, hv, ss_hd (RW u) (show 1 < 3 by decide), eM, hlt, hN, c2, pX6_nextBut, rX6_nextBut, hO2.crt, pX6_falls, mX6_falls, hnx]
      exact go _ _ (by rw [seat1, if_pos c])
    · have c2 : 0 ≤ se (ss (RW u) i) i 2 := Int32.not_lt.mp c
      have hst := hst.resolve_left c
      simp only [eX6_secondGoes_0, eX6_secondGoes_1, eX6_secondGoes_3, eX6_secondGoes_4, eX6_secondGoes_5, eX6_secondGoes_8, eX6_secondGoes_11, eX6_secondGoes_12, eX6_secondGoes_13, eX6_secondGoes_16, eX6_secondGoes_19, eX6_secondGoes_20, eX6_secondGoes_21, eX6_secondGoes_22, eX6_secondGoes_25, eX6_secondGoes_28, eX6_secondGoes_29, eX6_secondGoes_30, eX6_secondGoes_33, eX6_secondGoes_36, eX6_secondGoes_39, eX6_secondGoes_40, eX6_secondGoes_42, eX6_secondGoes_43, eX6_secondGoes_44, eX6_secondGoes_47, eX6_secondGoes_50, eX6_secondGoes_51, eX6_secondGoes_52, eX6_secondGoes_53, eX6_secondGoes_56, eX6_secondGoes_57, eX6_secondGoes_58, eX6_secondGoes_61, eX6_secondGoes_62, eX6_secondGoes_63, eX6_secondGoes_64, eX6_secondGoes_65, eX6_secondGoes_66, eX6_secondGoes_69, eX6_secondGoes_72, eX6_secondGoes_75, eX6_secondGoes_76, eX6_secondGoes_77, eX6_secondGoes_79, eX6_secondGoes_82, eX6_secondGoes_83, eX6_secondGoes_84, eX6_secondGoes_87, eX6_secondGoes_90, eX6_secondGoes_91, eX6_secondGoes_92, eX6_secondGoes_95, eX6_secondGoes_98, eX6_secondGoes_102, eX6_secondGoes_104, eX6_secondGoes_105, eX6_secondGoes_106, eX6_secondGoes_109, eX6_secondGoes_112, eX6_secondGoes_113, eX6_secondGoes_114, eX6_secondGoes_117, eX6_secondGoes_120, eX6_secondGoes_121, eX6_secondGoes_122, eX6_secondGoes_124, eX6_secondGoes_125, eX6_secondGoes_126, eX6_secondGoes_128, eX6_secondGoes_131, eX6_secondGoes_132, eX6_secondGoes_133, eX6_secondGoes_136, eX6_secondGoes_137, eX6_secondGoes_138, eX6_secondGoes_139, eX6_secondGoes_140, eX6_secondGoes_141, eX6_secondGoes_142, eX6_secondGoes_145, eX6_secondGoes_146, eX6_secondGoes_147, eX6_secondGoes_148, eX6_secondGoes_149, eX6_secondGoes_152, eX6_secondGoes_153, eX6_secondGoes_156, eX6_secondGoes_157, eX6_secondGoes_160, eX6_secondGoes_163, eX6_secondGoes_166, eX6_secondGoes_167, eX6_secondGoes_170, eX6_secondGoes_171, eX6_secondGoes_174, eX6_secondGoes_175, eX6_secondGoes_176, eX6_secondGoes_177, eX6_secondGoes_178, eX6_secondGoes_179, eX6_secondGoes_180, eX6_secondGoes_181, kl_i, kl_r, kl_n, kl_l, true_and, and_true, true_implies, false_implies, not_true_eq_false, not_false_eq_true, i10, Classical.not_not, pOne, mX6_sets, mX6_setsChair, pX6_sets, pX6_setsChair, pX6_chair, pX6_man, pX6_its, RW_pv, pv_pv, B6_pv, atOk_pv, N_0, N_1, N_2, N_3, N_4, N_5, N_6, v7_0, v7_1, v7_2, v7_3, v7_4, v7_5, v7_6, v3_0, v3_1, v3_2, ch0, ch1, ch2, man0, man1, man2, man3, man4, man5, man6, its0, its1, its2, ha, hv, ss_hd (RW u) (show 1 < 3 by decide), eM, hlt, hN, c2, hst, pX6_stays, rX6_stays, pX6_rises, mX6_rises, hO2.crt]
      refine ⟨fun z => go _ _ ?_, fun z => go _ _ ?_⟩
      · rw [seat1, if_neg c, if_neg (Int32.not_le.mpr z)]
      · rw [seat1, if_neg c, if_pos (Int32.not_lt.mp z)]
theorem lX6_sec3 (ha : atOk u) (hO : Ok (RW u)) (hK : K ≤ 10) (eK : RW u 2 = nI K) (hx : ∀ j1 j2 : Option Value, GX6_secondGoes w Q 166 [some (.ref (mA w)), j1, j2] [] (pv u (B6 u) (pa (RW u) K))) :
    ∀ (n i : Nat) (j2 : Option Value), i + n = K → GX6_secondGoes w Q 103 [some (.ref (mA w)), some (.int (nI i)), j2] [] (pv u (B6 u) (pa (RW u) i)) := by
  intro n
  induction n with
  | zero =>
    intro i j2 hi
    have e2 : i = K := by omega
    subst e2
    rw [eX6_secondGoes_103]
    simp only [eX6_secondGoes_0, eX6_secondGoes_1, eX6_secondGoes_3, eX6_secondGoes_4, eX6_secondGoes_5, eX6_secondGoes_8, eX6_secondGoes_11, eX6_secondGoes_12, eX6_secondGoes_13, eX6_secondGoes_16, eX6_secondGoes_19, eX6_secondGoes_20, eX6_secondGoes_21, eX6_secondGoes_22, eX6_secondGoes_25, eX6_secondGoes_28, eX6_secondGoes_29, eX6_secondGoes_30, eX6_secondGoes_33, eX6_secondGoes_36, eX6_secondGoes_39, eX6_secondGoes_40, eX6_secondGoes_42, eX6_secondGoes_43, eX6_secondGoes_44, eX6_secondGoes_47, eX6_secondGoes_50, eX6_secondGoes_51, eX6_secondGoes_52, eX6_secondGoes_53, eX6_secondGoes_56, eX6_secondGoes_57, eX6_secondGoes_58, eX6_secondGoes_61, eX6_secondGoes_62, eX6_secondGoes_63, eX6_secondGoes_64, eX6_secondGoes_65, eX6_secondGoes_66, eX6_secondGoes_69, eX6_secondGoes_72, eX6_secondGoes_75, eX6_secondGoes_76, eX6_secondGoes_77, eX6_secondGoes_79, eX6_secondGoes_82, eX6_secondGoes_83, eX6_secondGoes_84, eX6_secondGoes_87, eX6_secondGoes_90, eX6_secondGoes_91, eX6_secondGoes_92, eX6_secondGoes_95, eX6_secondGoes_98, eX6_secondGoes_101, eX6_secondGoes_102, eX6_secondGoes_104, eX6_secondGoes_105, eX6_secondGoes_106, eX6_secondGoes_109, eX6_secondGoes_112, eX6_secondGoes_113, eX6_secondGoes_114, eX6_secondGoes_117, eX6_secondGoes_120, eX6_secondGoes_121, eX6_secondGoes_122, eX6_secondGoes_124, eX6_secondGoes_125, eX6_secondGoes_126, eX6_secondGoes_128, eX6_secondGoes_131, eX6_secondGoes_132, eX6_secondGoes_133, eX6_secondGoes_136, eX6_secondGoes_137, eX6_secondGoes_138, eX6_secondGoes_139, eX6_secondGoes_140, eX6_secondGoes_141, eX6_secondGoes_142, eX6_secondGoes_145, eX6_secondGoes_146, eX6_secondGoes_147, eX6_secondGoes_148, eX6_secondGoes_149, eX6_secondGoes_152, eX6_secondGoes_153, eX6_secondGoes_156, eX6_secondGoes_157, eX6_secondGoes_160, eX6_secondGoes_163, eX6_secondGoes_167, eX6_secondGoes_170, eX6_secondGoes_171, eX6_secondGoes_174, eX6_secondGoes_175, eX6_secondGoes_176, eX6_secondGoes_177, eX6_secondGoes_178, eX6_secondGoes_179, eX6_secondGoes_180, eX6_secondGoes_181, kl_i, kl_r, kl_n, kl_l, true_and, and_true, true_implies, false_implies, not_true_eq_false, not_false_eq_true, i10, Classical.not_not, pOne, mX6_sets, mX6_setsChair, pX6_sets, pX6_setsChair, pX6_chair, pX6_man, pX6_its, RW_pv, pv_pv, B6_pv, atOk_pv, N_0, N_1, N_2, N_3, N_4, N_5, N_6, v7_0, v7_1, v7_2, v7_3, v7_4, v7_5, v7_6, v3_0, v3_1, v3_2, ch0, ch1, ch2, man0, man1, man2, man3, man4, man5, man6, its0, its1, its2, ha, pa_hd (RW u) (show 2 < 21 by decide), eK]
    exact ⟨fun _ => hx _ _, fun z => absurd (nI_le (Nat.le_refl i) (by omega)) z⟩
  | succ n ih =>
    intro i j2 hi
    have hlt : ¬ nI K ≤ nI i := nI_ge (by omega) (by omega)
    have hv : vp_in (nI i) 10 := vi_nI (by omega)
    have hN : NN (nI i) = i := NN_nI (by omega)
    have hO2 := pa_Ok hO i
    have hst := (hO2.one hK ((pa_hd (RW u) (show 2 < 21 by decide) i).trans eK) (show i < K by omega)).2
    have go : ∀ (R : Nat → Int32), R = pay1 (pa (RW u) i) i → GX6_secondGoes w Q 103 [some (.ref (mA w)), some (.int (nI i + 1)), j2] [] (pv u (B6 u) R) := fun R e => by rw [nI_1, e]; exact ih (i + 1) j2 (by omega)
    rw [eX6_secondGoes_103]
    by_cases c : on (pa (RW u) i) i 5 < 0
    · simp only [eX6_secondGoes_0, eX6_secondGoes_1, eX6_secondGoes_3, eX6_secondGoes_4, eX6_secondGoes_5, eX6_secondGoes_8, eX6_secondGoes_11, eX6_secondGoes_12, eX6_secondGoes_13, eX6_secondGoes_16, eX6_secondGoes_19, eX6_secondGoes_20, eX6_secondGoes_21, eX6_secondGoes_22, eX6_secondGoes_25, eX6_secondGoes_28, eX6_secondGoes_29, eX6_secondGoes_30, eX6_secondGoes_33, eX6_secondGoes_36, eX6_secondGoes_39, eX6_secondGoes_40, eX6_secondGoes_42, eX6_secondGoes_43, eX6_secondGoes_44, eX6_secondGoes_47, eX6_secondGoes_50, eX6_secondGoes_51, eX6_secondGoes_52, eX6_secondGoes_53, eX6_secondGoes_56, eX6_secondGoes_57, eX6_secondGoes_58, eX6_secondGoes_61, eX6_secondGoes_62, eX6_secondGoes_63, eX6_secondGoes_64, eX6_secondGoes_65, eX6_secondGoes_66, eX6_secondGoes_69, eX6_secondGoes_72, eX6_secondGoes_75, eX6_secondGoes_76, eX6_secondGoes_77, eX6_secondGoes_79, eX6_secondGoes_82, eX6_secondGoes_83, eX6_secondGoes_84, eX6_secondGoes_87, eX6_secondGoes_90, eX6_secondGoes_91, eX6_secondGoes_92, eX6_secondGoes_95, eX6_secondGoes_98, eX6_secondGoes_101, eX6_secondGoes_102, eX6_secondGoes_104, eX6_secondGoes_105, eX6_secondGoes_106, eX6_secondGoes_109, eX6_secondGoes_112, eX6_secondGoes_113, eX6_secondGoes_114, eX6_secondGoes_117, eX6_secondGoes_120, eX6_secondGoes_121, eX6_secondGoes_122, eX6_secondGoes_124, eX6_secondGoes_125, eX6_secondGoes_126, eX6_secondGoes_128, eX6_secondGoes_131, eX6_secondGoes_132, eX6_secondGoes_133, eX6_secondGoes_136, eX6_secondGoes_137, eX6_secondGoes_138, eX6_secondGoes_139, eX6_secondGoes_140, eX6_secondGoes_141, eX6_secondGoes_142, eX6_secondGoes_145, eX6_secondGoes_146, eX6_secondGoes_147, eX6_secondGoes_148, eX6_secondGoes_149, eX6_secondGoes_152, eX6_secondGoes_153, eX6_secondGoes_156, eX6_secondGoes_157, eX6_secondGoes_160, eX6_secondGoes_163, eX6_secondGoes_167, eX6_secondGoes_170, eX6_secondGoes_171, eX6_secondGoes_174, eX6_secondGoes_175, eX6_secondGoes_176, eX6_secondGoes_177, eX6_secondGoes_178, eX6_secondGoes_179, eX6_secondGoes_180, eX6_secondGoes_181, kl_i, kl_r, kl_n, kl_l, true_and, and_true, true_implies, false_implies, not_true_eq_false, not_false_eq_true, i10, Classical.not_not, pOne, mX6_sets, mX6_setsChair, pX6_sets, pX6_setsChair, pX6_chair, pX6_man, pX6_its, RW_pv, pv_pv, B6_pv, atOk_pv, N_0, N_1, N_2, N_3, N_4, N_5, N_6, v7_0, v7_1, v7_2, v7_3, v7_4, v7_5, v7_6, v3_0, v3_1, v3_2, ch0, ch1, ch2, man0, man1, man2, man3, man4, man5, man6, its0, its1, its2, ha, hv, pa_hd (RW u) (show 2 < 21 by decide), eK, hlt, hN, pX6_stands, rX6_stands, bi_0, c]
      exact go _ (by rw [pay1, if_pos c])
    · have hst := hst.resolve_left c
      have o1 : ∀ v, on (ost (pa (RW u) i) i 6 v) i 4 = on (pa (RW u) i) i 4 := fun v => on_ost_ne (by decide) (by decide) (by decide)
      have o2 : ∀ v, on (ost (pa (RW u) i) i 6 v) i 5 = on (pa (RW u) i) i 5 := fun v => on_ost_ne (by decide) (by decide) (by decide)
      simp only [eX6_secondGoes_0, eX6_secondGoes_1, eX6_secondGoes_3, eX6_secondGoes_4, eX6_secondGoes_5, eX6_secondGoes_8, eX6_secondGoes_11, eX6_secondGoes_12, eX6_secondGoes_13, eX6_secondGoes_16, eX6_secondGoes_19, eX6_secondGoes_20, eX6_secondGoes_21, eX6_secondGoes_22, eX6_secondGoes_25, eX6_secondGoes_28, eX6_secondGoes_29, eX6_secondGoes_30, eX6_secondGoes_33, eX6_secondGoes_36, eX6_secondGoes_39, eX6_secondGoes_40, eX6_secondGoes_42, eX6_secondGoes_43, eX6_secondGoes_44, eX6_secondGoes_47, eX6_secondGoes_50, eX6_secondGoes_51, eX6_secondGoes_52, eX6_secondGoes_53, eX6_secondGoes_56, eX6_secondGoes_57, eX6_secondGoes_58, eX6_secondGoes_61, eX6_secondGoes_62, eX6_secondGoes_63, eX6_secondGoes_64, eX6_secondGoes_65, eX6_secondGoes_66, eX6_secondGoes_69, eX6_secondGoes_72, eX6_secondGoes_75, eX6_secondGoes_76, eX6_secondGoes_77, eX6_secondGoes_79, eX6_secondGoes_82, eX6_secondGoes_83, eX6_secondGoes_84, eX6_secondGoes_87, eX6_secondGoes_90, eX6_secondGoes_91, eX6_secondGoes_92, eX6_secondGoes_95, eX6_secondGoes_98, eX6_secondGoes_101, eX6_secondGoes_102, eX6_secondGoes_104, eX6_secondGoes_105, eX6_secondGoes_106, eX6_secondGoes_109, eX6_secondGoes_112, eX6_secondGoes_113, eX6_secondGoes_114, eX6_secondGoes_117, eX6_secondGoes_120, eX6_secondGoes_121, eX6_secondGoes_122, eX6_secondGoes_124, eX6_secondGoes_125, eX6_secondGoes_126, eX6_secondGoes_128, eX6_secondGoes_131, eX6_secondGoes_132, eX6_secondGoes_133, eX6_secondGoes_136, eX6_secondGoes_137, eX6_secondGoes_138, eX6_secondGoes_139, eX6_secondGoes_140, eX6_secondGoes_141, eX6_secondGoes_142, eX6_secondGoes_145, eX6_secondGoes_146, eX6_secondGoes_147, eX6_secondGoes_148, eX6_secondGoes_149, eX6_secondGoes_152, eX6_secondGoes_153, eX6_secondGoes_156, eX6_secondGoes_157, eX6_secondGoes_160, eX6_secondGoes_163, eX6_secondGoes_167, eX6_secondGoes_170, eX6_secondGoes_171, eX6_secondGoes_174, eX6_secondGoes_175, eX6_secondGoes_176, eX6_secondGoes_177, eX6_secondGoes_178, eX6_secondGoes_179, eX6_secondGoes_180, eX6_secondGoes_181, kl_i, kl_r, kl_n, kl_l, true_and, and_true, true_implies, false_implies, not_true_eq_false, not_false_eq_true, i10, Classical.not_not, pOne, mX6_sets, mX6_setsChair, pX6_sets, pX6_setsChair, pX6_chair, pX6_man, pX6_its, RW_pv, pv_pv, B6_pv, atOk_pv, N_0, N_1, N_2, N_3, N_4, N_5, N_6, v7_0, v7_1, v7_2, v7_3, v7_4, v7_5, v7_6, v3_0, v3_1, v3_2, ch0, ch1, ch2, man0, man1, man2, man3, man4, man5, man6, its0, its1, its2, ha, hv, pa_hd (RW u) (show 2 < 21 by decide), eK, hlt, hN, pX6_stands, rX6_stands, bi_0, c, o1, o2, hst, se_ost1 (vi_lt hst)]
      exact go _ (by rw [pay1, if_neg c])
end SEC
theorem vX6_secondGoes (w : WW) : VX6_secondGoes w := by
  intro u h
  obtain ⟨ha, hO⟩ := h
  obtain ⟨M, hM, eM⟩ := hO.1
  obtain ⟨K, hK, eK⟩ := hO.2.1
  have hO1 := wa_Ok hO K
  have hO2 := ss_Ok hO1 M (by rw [wa_hd _ (by decide), eM, NN_nI (by omega)]; exact Nat.le_refl _)
  simp only [eX6_secondGoes_0, eX6_secondGoes_1, eX6_secondGoes_3, eX6_secondGoes_4, eX6_secondGoes_5, eX6_secondGoes_8, eX6_secondGoes_11, eX6_secondGoes_12, eX6_secondGoes_13, eX6_secondGoes_16, eX6_secondGoes_19, eX6_secondGoes_20, eX6_secondGoes_21, eX6_secondGoes_22, eX6_secondGoes_25, eX6_secondGoes_28, eX6_secondGoes_29, eX6_secondGoes_30, eX6_secondGoes_33, eX6_secondGoes_36, eX6_secondGoes_40, eX6_secondGoes_42, eX6_secondGoes_43, eX6_secondGoes_44, eX6_secondGoes_47, eX6_secondGoes_50, eX6_secondGoes_51, eX6_secondGoes_52, eX6_secondGoes_53, eX6_secondGoes_56, eX6_secondGoes_57, eX6_secondGoes_58, eX6_secondGoes_61, eX6_secondGoes_62, eX6_secondGoes_63, eX6_secondGoes_64, eX6_secondGoes_65, eX6_secondGoes_66, eX6_secondGoes_69, eX6_secondGoes_72, eX6_secondGoes_75, eX6_secondGoes_76, eX6_secondGoes_77, eX6_secondGoes_79, eX6_secondGoes_82, eX6_secondGoes_83, eX6_secondGoes_84, eX6_secondGoes_87, eX6_secondGoes_90, eX6_secondGoes_91, eX6_secondGoes_92, eX6_secondGoes_95, eX6_secondGoes_98, eX6_secondGoes_102, eX6_secondGoes_104, eX6_secondGoes_105, eX6_secondGoes_106, eX6_secondGoes_109, eX6_secondGoes_112, eX6_secondGoes_113, eX6_secondGoes_114, eX6_secondGoes_117, eX6_secondGoes_120, eX6_secondGoes_121, eX6_secondGoes_122, eX6_secondGoes_124, eX6_secondGoes_125, eX6_secondGoes_126, eX6_secondGoes_128, eX6_secondGoes_131, eX6_secondGoes_132, eX6_secondGoes_133, eX6_secondGoes_136, eX6_secondGoes_137, eX6_secondGoes_138, eX6_secondGoes_139, eX6_secondGoes_140, eX6_secondGoes_141, eX6_secondGoes_142, eX6_secondGoes_145, eX6_secondGoes_146, eX6_secondGoes_147, eX6_secondGoes_148, eX6_secondGoes_149, eX6_secondGoes_152, eX6_secondGoes_153, eX6_secondGoes_156, eX6_secondGoes_157, eX6_secondGoes_160, eX6_secondGoes_163, eX6_secondGoes_167, eX6_secondGoes_170, eX6_secondGoes_171, eX6_secondGoes_174, eX6_secondGoes_175, eX6_secondGoes_176, eX6_secondGoes_177, eX6_secondGoes_178, eX6_secondGoes_179, eX6_secondGoes_180, eX6_secondGoes_181, kl_i, kl_r, kl_n, kl_l, true_and, and_true, true_implies, false_implies, not_true_eq_false, not_false_eq_true, i10, Classical.not_not]
  have key := lX6_sec1 (w := w) (u := u) (Q := fun r u' => r = none ∧ u' = mX6_secondGoes u) ha hO hK eK (fun j1 => ?_) K 0 (by omega)
  · simpa only [wa, pv_vw, nI_0] using key
  · rw [eX6_secondGoes_39]
    simp only [eX6_secondGoes_0, eX6_secondGoes_1, eX6_secondGoes_3, eX6_secondGoes_4, eX6_secondGoes_5, eX6_secondGoes_8, eX6_secondGoes_11, eX6_secondGoes_12, eX6_secondGoes_13, eX6_secondGoes_16, eX6_secondGoes_19, eX6_secondGoes_20, eX6_secondGoes_21, eX6_secondGoes_22, eX6_secondGoes_25, eX6_secondGoes_28, eX6_secondGoes_29, eX6_secondGoes_30, eX6_secondGoes_33, eX6_secondGoes_36, eX6_secondGoes_40, eX6_secondGoes_42, eX6_secondGoes_43, eX6_secondGoes_44, eX6_secondGoes_47, eX6_secondGoes_50, eX6_secondGoes_51, eX6_secondGoes_52, eX6_secondGoes_53, eX6_secondGoes_56, eX6_secondGoes_57, eX6_secondGoes_58, eX6_secondGoes_61, eX6_secondGoes_62, eX6_secondGoes_63, eX6_secondGoes_64, eX6_secondGoes_65, eX6_secondGoes_66, eX6_secondGoes_69, eX6_secondGoes_72, eX6_secondGoes_75, eX6_secondGoes_76, eX6_secondGoes_77, eX6_secondGoes_79, eX6_secondGoes_82, eX6_secondGoes_83, eX6_secondGoes_84, eX6_secondGoes_87, eX6_secondGoes_90, eX6_secondGoes_91, eX6_secondGoes_92, eX6_secondGoes_95, eX6_secondGoes_98, eX6_secondGoes_102, eX6_secondGoes_104, eX6_secondGoes_105, eX6_secondGoes_106, eX6_secondGoes_109, eX6_secondGoes_112, eX6_secondGoes_113, eX6_secondGoes_114, eX6_secondGoes_117, eX6_secondGoes_120, eX6_secondGoes_121, eX6_secondGoes_122, eX6_secondGoes_124, eX6_secondGoes_125, eX6_secondGoes_126, eX6_secondGoes_128, eX6_secondGoes_131, eX6_secondGoes_132, eX6_secondGoes_133, eX6_secondGoes_136, eX6_secondGoes_137, eX6_secondGoes_138, eX6_secondGoes_139, eX6_secondGoes_140, eX6_secondGoes_141, eX6_secondGoes_142, eX6_secondGoes_145, eX6_secondGoes_146, eX6_secondGoes_147, eX6_secondGoes_148, eX6_secondGoes_149, eX6_secondGoes_152, eX6_secondGoes_153, eX6_secondGoes_156, eX6_secondGoes_157, eX6_secondGoes_160, eX6_secondGoes_163, eX6_secondGoes_167, eX6_secondGoes_170, eX6_secondGoes_171, eX6_secondGoes_174, eX6_secondGoes_175, eX6_secondGoes_176, eX6_secondGoes_177, eX6_secondGoes_178, eX6_secondGoes_179, eX6_secondGoes_180, eX6_secondGoes_181, kl_i, kl_r, kl_n, kl_l, true_and, and_true, true_implies, false_implies, not_true_eq_false, not_false_eq_true, i10, Classical.not_not]
    have key := lX6_sec2 (w := w) (u := pv u (B6 u) (wa (RW u) K)) (Q := fun r u' => r = none ∧ u' = mX6_secondGoes u) (M := M) ((atOk_pv _ _).mpr ha) (by rw [RW_pv]; exact hO1) hM (by rw [RW_pv, wa_hd _ (by decide)]; exact eM) (fun j1 j2 => ?_) M 0 none (by omega)
    · simpa only [RW_pv, B6_pv, pv_pv, ss, nI_0] using key
    · rw [RW_pv, B6_pv, pv_pv, eX6_secondGoes_101]
      simp only [eX6_secondGoes_0, eX6_secondGoes_1, eX6_secondGoes_3, eX6_secondGoes_4, eX6_secondGoes_5, eX6_secondGoes_8, eX6_secondGoes_11, eX6_secondGoes_12, eX6_secondGoes_13, eX6_secondGoes_16, eX6_secondGoes_19, eX6_secondGoes_20, eX6_secondGoes_21, eX6_secondGoes_22, eX6_secondGoes_25, eX6_secondGoes_28, eX6_secondGoes_29, eX6_secondGoes_30, eX6_secondGoes_33, eX6_secondGoes_36, eX6_secondGoes_40, eX6_secondGoes_42, eX6_secondGoes_43, eX6_secondGoes_44, eX6_secondGoes_47, eX6_secondGoes_50, eX6_secondGoes_51, eX6_secondGoes_52, eX6_secondGoes_53, eX6_secondGoes_56, eX6_secondGoes_57, eX6_secondGoes_58, eX6_secondGoes_61, eX6_secondGoes_62, eX6_secondGoes_63, eX6_secondGoes_64, eX6_secondGoes_65, eX6_secondGoes_66, eX6_secondGoes_69, eX6_secondGoes_72, eX6_secondGoes_75, eX6_secondGoes_76, eX6_secondGoes_77, eX6_secondGoes_79, eX6_secondGoes_82, eX6_secondGoes_83, eX6_secondGoes_84, eX6_secondGoes_87, eX6_secondGoes_90, eX6_secondGoes_91, eX6_secondGoes_92, eX6_secondGoes_95, eX6_secondGoes_98, eX6_secondGoes_102, eX6_secondGoes_104, eX6_secondGoes_105, eX6_secondGoes_106, eX6_secondGoes_109, eX6_secondGoes_112, eX6_secondGoes_113, eX6_secondGoes_114, eX6_secondGoes_117, eX6_secondGoes_120, eX6_secondGoes_121, eX6_secondGoes_122, eX6_secondGoes_124, eX6_secondGoes_125, eX6_secondGoes_126, eX6_secondGoes_128, eX6_secondGoes_131, eX6_secondGoes_132, eX6_secondGoes_133, eX6_secondGoes_136, eX6_secondGoes_137, eX6_secondGoes_138, eX6_secondGoes_139, eX6_secondGoes_140, eX6_secondGoes_141, eX6_secondGoes_142, eX6_secondGoes_145, eX6_secondGoes_146, eX6_secondGoes_147, eX6_secondGoes_148, eX6_secondGoes_149, eX6_secondGoes_152, eX6_secondGoes_153, eX6_secondGoes_156, eX6_secondGoes_157, eX6_secondGoes_160, eX6_secondGoes_163, eX6_secondGoes_167, eX6_secondGoes_170, eX6_secondGoes_171, eX6_secondGoes_174, eX6_secondGoes_175, eX6_secondGoes_176, eX6_secondGoes_177, eX6_secondGoes_178, eX6_secondGoes_179, eX6_secondGoes_180, eX6_secondGoes_181, kl_i, kl_r, kl_n, kl_l, true_and, and_true, true_implies, false_implies, not_true_eq_false, not_false_eq_true, i10, Classical.not_not]
      have key := lX6_sec3 (w := w) (u := pv u (B6 u) (ss (wa (RW u) K) M)) (Q := fun r u' => r = none ∧ u' = mX6_secondGoes u) (K := K) ((atOk_pv _ _).mpr ha) (by rw [RW_pv]; exact hO2) hK (by rw [RW_pv, ss_hd _ (by decide), wa_hd _ (by decide)]; exact eK) (fun j1 j2 => ?_) K 0 j2 (by omega)
      · simpa only [RW_pv, B6_pv, pv_pv, pa, nI_0] using key
      · rw [RW_pv, B6_pv, pv_pv, eX6_secondGoes_166]
        have hz : vp_in (u.1 1000 + 0) 182 := (ix_its (k := 0) ha v3_0).1
        have hz2 : 1100 + NN (u.1 1000 + 0) = B6 u := by have := (ix_its (k := 0) ha v3_0).2; rw [this, N_0]; rfl
        simp only [eX6_secondGoes_0, eX6_secondGoes_1, eX6_secondGoes_3, eX6_secondGoes_4, eX6_secondGoes_5, eX6_secondGoes_8, eX6_secondGoes_11, eX6_secondGoes_12, eX6_secondGoes_13, eX6_secondGoes_16, eX6_secondGoes_19, eX6_secondGoes_20, eX6_secondGoes_21, eX6_secondGoes_22, eX6_secondGoes_25, eX6_secondGoes_28, eX6_secondGoes_29, eX6_secondGoes_30, eX6_secondGoes_33, eX6_secondGoes_36, eX6_secondGoes_40, eX6_secondGoes_42, eX6_secondGoes_43, eX6_secondGoes_44, eX6_secondGoes_47, eX6_secondGoes_50, eX6_secondGoes_51, eX6_secondGoes_52, eX6_secondGoes_53, eX6_secondGoes_56, eX6_secondGoes_57, eX6_secondGoes_58, eX6_secondGoes_61, eX6_secondGoes_62, eX6_secondGoes_63, eX6_secondGoes_64, eX6_secondGoes_65, eX6_secondGoes_66, eX6_secondGoes_69, eX6_secondGoes_72, eX6_secondGoes_75, eX6_secondGoes_76, eX6_secondGoes_77, eX6_secondGoes_79, eX6_secondGoes_82, eX6_secondGoes_83, eX6_secondGoes_84, eX6_secondGoes_87, eX6_secondGoes_90, eX6_secondGoes_91, eX6_secondGoes_92, eX6_secondGoes_95, eX6_secondGoes_98, eX6_secondGoes_102, eX6_secondGoes_104, eX6_secondGoes_105, eX6_secondGoes_106, eX6_secondGoes_109, eX6_secondGoes_112, eX6_secondGoes_113, eX6_secondGoes_114, eX6_secondGoes_117, eX6_secondGoes_120, eX6_secondGoes_121, eX6_secondGoes_122, eX6_secondGoes_124, eX6_secondGoes_125, eX6_secondGoes_126, eX6_secondGoes_128, eX6_secondGoes_131, eX6_secondGoes_132, eX6_secondGoes_133, eX6_secondGoes_136, eX6_secondGoes_137, eX6_secondGoes_138, eX6_secondGoes_139, eX6_secondGoes_140, eX6_secondGoes_141, eX6_secondGoes_142, eX6_secondGoes_145, eX6_secondGoes_146, eX6_secondGoes_147, eX6_secondGoes_148, eX6_secondGoes_149, eX6_secondGoes_152, eX6_secondGoes_153, eX6_secondGoes_156, eX6_secondGoes_157, eX6_secondGoes_160, eX6_secondGoes_163, eX6_secondGoes_167, eX6_secondGoes_170, eX6_secondGoes_171, eX6_secondGoes_174, eX6_secondGoes_175, eX6_secondGoes_176, eX6_secondGoes_177, eX6_secondGoes_178, eX6_secondGoes_179, eX6_secondGoes_180, eX6_secondGoes_181, kl_i, kl_r, kl_n, kl_l, true_and, and_true, true_implies, false_implies, not_true_eq_false, not_false_eq_true, i10, Classical.not_not, ok_m0, rf_m0, ok_m1, ix_m1, ai_mr0, as_mr0, xa_mr0, rd_mr0, at_pv, hz, hz2]
        have e1 : ∀ R : Nat → Int32, uI (pv u (B6 u) R) (B6 u) ((pv u (B6 u) R).1 (B6 u) + 1) = pv u (B6 u) (upd R 0 (R 0 + 1)) := fun R => by
          have a := pv_hi u (B6 u) R 0
          have b := uI_pv u (B6 u) 0 R (R 0 + 1)
          rw [Nat.add_zero] at a b
          rw [a, b]
        rw [e1, mX6_secondGoes, secP, eM, eK, NN_nI (by omega), NN_nI (by omega), pa_hd _ (by decide), ss_hd _ (by decide), wa_hd _ (by decide)]
theorem wcX6_118 : ∀ x ∈ wV1 RX6 118 yX6_stays MX6_stays, x ∈ Gt := by decide +kernel
theorem nmX6_stays : nmOk yX6_stays 1 = true := by decide +kernel
theorem wcX6_138 : ∀ x ∈ wV1 RX6 138 yX6_walks MX6_walks, x ∈ Gt := by decide +kernel
theorem nmX6_walks : nmOk yX6_walks 1 = true := by decide +kernel
theorem wcX6_142 : ∀ x ∈ wV1 RX6 142 yX6_rises MX6_rises, x ∈ Gt := by decide +kernel
theorem nmX6_rises : nmOk yX6_rises 1 = true := by decide +kernel
set_option maxRecDepth 20000 in
theorem KX6_secondGoes_ok (w : WW) : KOk w MX6_secondGoes (KX6_secondGoes w) := KOk_mk flX6_ok ciX6_ok clX6_ok (fun _ _ h => by cases h) (fun _ _ h => by cases h) (List.forall_mem_cons.mpr ⟨itV (n := 46) (by decide) (COk_V (n := 1) (ci := 6) (ctX6_its w) wcX6_46 nmX6_its (by decide) (by decide) rfl (prX6_its w)), List.forall_mem_cons.mpr ⟨itV (n := 54) (by decide) (COk_V (n := 2) (ci := 6) (ctX6_man w) wcX6_54 nmX6_man (by decide) (by decide) rfl (prX6_man w)), List.forall_mem_cons.mpr ⟨itV (n := 64) (by decide) (COk_V (n := 1) (ci := 6) (ctX6_stands w) wcX6_64 nmX6_stands (by decide) (by decide) rfl (prX6_stands w)), List.forall_mem_cons.mpr ⟨itV (n := 71) (by decide) (COk_V (n := 2) (ci := 6) (ctX6_chair w) wcX6_71 nmX6_chair (by decide) (by decide) rfl (prX6_chair w)), List.forall_mem_cons.mpr ⟨itV (n := 102) (by decide) (COk_V (n := 2) (ci := 6) (ctX6_nextBut w) wcX6_102 nmX6_nextBut (by decide) (by decide) rfl (prX6_nextBut w)), List.forall_mem_cons.mpr ⟨itV (n := 105) (by decide) (COk_V (n := 3) (ci := 6) (ctX6_sets w) wcX6_105 nmX6_sets (by decide) (by decide) rfl (prX6_sets w)), List.forall_mem_cons.mpr ⟨itV (n := 118) (by decide) (COk_V (n := 1) (ci := 6) (ctX6_stays w) wcX6_118 nmX6_stays (by decide) (by decide) rfl (prX6_stays w)), List.forall_mem_cons.mpr ⟨itV (n := 129) (by decide) (COk_V (n := 2) (ci := 6) (ctX6_falls w) wcX6_129 nmX6_falls (by decide) (by decide) rfl (prX6_falls w)), List.forall_mem_cons.mpr ⟨itV (n := 138) (by decide) (COk_V (n := 1) (ci := 6) (ctX6_walks w) wcX6_138 nmX6_walks (by decide) (by decide) rfl (prX6_walks w)), List.forall_mem_cons.mpr ⟨itV (n := 142) (by decide) (COk_V (n := 1) (ci := 6) (ctX6_rises w) wcX6_142 nmX6_rises (by decide) (by decide) rfl (prX6_rises w)), List.forall_mem_nil _⟩⟩⟩⟩⟩⟩⟩⟩⟩⟩)
theorem ctX6_secondGoes (w : WW) : CT w yX6_secondGoes MX6_secondGoes (csX6_secondGoes w).2.1 (csX6_secondGoes w).2.2 := by
  refine CT_of (by decide) rfl TX6_secondGoes_ok TX6_secondGoes_v (KX6_secondGoes_ok w) (fun as u h => ?_)
  obtain ⟨a0, rfl, h⟩ := sgR h
  obtain ⟨rfl, hh⟩ := h
  refine ⟨Nat.le_of_ble_eq_true rfl, ?_⟩
  have key := vX6_secondGoes w u hh
  exact key
theorem prX6_secondGoes (w : WW) : ∀ as u, (csX6_secondGoes w).2.1 as u → ∃ a r, as = .ref a :: r ∧ r.length = 0 ∧ okO w a 6 := by
  intro as u h
  obtain ⟨a0, rfl, h⟩ := sgR h
  exact ⟨_, _, rfl, rfl, okO_m h⟩
theorem goP_1 (n : Nat) (R : Nat → Int32) : goP (n + 1) R = secP (goP n R) := rfl
theorem NN_neg {n : Int32} (h : n < 0) : NN n = 0 := by
  have h1 := Int32.lt_iff_toInt_lt.mp h
  simp only [Int32.toInt_zero] at h1
  show n.toInt.toNat = 0
  omega
theorem cnt_le {n : Int32} {i : Nat} (h : NN n ≤ i) (hs : i < 2 ^ 31) : n ≤ nI i := by
  by_cases q : n < 0
  · exact Int32.le_trans (Int32.le_of_lt q) (nI_pos' hs)
  · obtain ⟨j, hj, rfl⟩ := nI_of q
    rw [NN_nI hj] at h
    exact nI_le h hs
theorem cnt_lt {n : Int32} {i : Nat} (h : i < NN n) : ¬ n ≤ nI i := by
  by_cases q : n < 0
  · rw [NN_neg q] at h; omega
  · obtain ⟨j, hj, rfl⟩ := nI_of q
    rw [NN_nI hj] at h
    exact nI_ge h hj
theorem NN_lt (n : Int32) : NN n < 2 ^ 31 := by
  by_cases q : n < 0
  · rw [NN_neg q]; decide
  · obtain ⟨j, hj, rfl⟩ := nI_of q
    rw [NN_nI hj]; exact hj
theorem vX6_go (w : WW) : VX6_go w := by
  intro n u h
  obtain ⟨ha, hO⟩ := h
  simp only [eX6_go_0, eX6_go_1, eX6_go_3, eX6_go_4, eX6_go_7, eX6_go_8, eX6_go_11, eX6_go_14, eX6_go_17, kl_i, kl_r, kl_n, kl_l, true_and, and_true, true_implies, false_implies, not_true_eq_false, not_false_eq_true, i10, Classical.not_not]
  have key : ∀ (m i : Nat), i + m = NN n → GX6_go w (fun r u' => r = none ∧ u' = mX6_go n u) 2 [some (.ref (mA w)), some (.int n), some (.int (nI i))] [] (pv u (B6 u) (goP i (RW u))) := by
    intro m
    induction m with
    | zero =>
      intro i hi
      rw [eX6_go_2]
      simp only [eX6_go_0, eX6_go_1, eX6_go_3, eX6_go_4, eX6_go_7, eX6_go_8, eX6_go_11, eX6_go_14, eX6_go_17, kl_i, kl_r, kl_n, kl_l, true_and, and_true, true_implies, false_implies, not_true_eq_false, not_false_eq_true, i10, Classical.not_not]
      have := NN_lt n
      refine ⟨fun _ => ?_, fun z => absurd (cnt_le (by omega) (by omega)) z⟩
      rw [mX6_go, ← hi, Nat.add_zero]
    | succ m ih =>
      intro i hi
      have hlt : ¬ n ≤ nI i := cnt_lt (by omega)
      rw [eX6_go_2]
      simp only [eX6_go_0, eX6_go_1, eX6_go_3, eX6_go_4, eX6_go_7, eX6_go_8, eX6_go_11, eX6_go_14, eX6_go_17, kl_i, kl_r, kl_n, kl_l, true_and, and_true, true_implies, false_implies, not_true_eq_false, not_false_eq_true, i10, Classical.not_not, pOne, mX6_sets, mX6_setsChair, pX6_sets, pX6_setsChair, pX6_chair, pX6_man, pX6_its, RW_pv, pv_pv, B6_pv, atOk_pv, N_0, N_1, N_2, N_3, N_4, N_5, N_6, v7_0, v7_1, v7_2, v7_3, v7_4, v7_5, v7_6, v3_0, v3_1, v3_2, ch0, ch1, ch2, man0, man1, man2, man3, man4, man5, man6, its0, its1, its2, hlt, pX6_secondGoes, ha, goP_Ok hO i, mX6_secondGoes, ← goP_1]
      rw [nI_1]
      exact ih (i + 1) (by omega)
  have := key (NN n) 0 (by omega)
  simpa only [goP, pv_vw, nI_0] using this
theorem wcX6_145 : ∀ x ∈ wV1 RX6 145 yX6_secondGoes MX6_secondGoes, x ∈ Gt := by decide +kernel
theorem nmX6_secondGoes : nmOk yX6_secondGoes 0 = true := by decide +kernel
set_option maxRecDepth 20000 in
theorem KX6_go_ok (w : WW) : KOk w MX6_go (KX6_go w) := KOk_mk flX6_ok ciX6_ok clX6_ok (fun _ _ h => by cases h) (fun _ _ h => by cases h) (List.forall_mem_cons.mpr ⟨itV (n := 145) (by decide) (COk_V (n := 0) (ci := 6) (ctX6_secondGoes w) wcX6_145 nmX6_secondGoes (by decide) (by decide) rfl (prX6_secondGoes w)), List.forall_mem_nil _⟩)
theorem ctX6_go (w : WW) : CT w yX6_go MX6_go (csX6_go w).2.1 (csX6_go w).2.2 := by
  refine CT_of (by decide) rfl TX6_go_ok TX6_go_v (KX6_go_ok w) (fun as u h => ?_)
  obtain ⟨a0, a1, rfl, h⟩ := sgRI h
  obtain ⟨rfl, hh⟩ := h
  refine ⟨Nat.le_of_ble_eq_true rfl, ?_⟩
  have key := vX6_go w a1 u hh
  exact key
theorem prX6_go (w : WW) : ∀ as u, (csX6_go w).2.1 as u → ∃ a r, as = .ref a :: r ∧ r.length = 1 ∧ okO w a 6 := by
  intro as u h
  obtain ⟨a0, a1, rfl, h⟩ := sgRI h
  exact ⟨_, _, rfl, rfl, okO_m h⟩
def cpL (u : MM) (i : Nat) : MM := (fun j => if 1191 ≤ j ∧ j < 1191 + i then u.1 (j - 91) else u.1 j, u.2)
theorem cpL_step (v : MM) {i : Nat} (hi : i < 91) : uI (cpL v i) (1100 + (91 + i)) ((cpL v i).1 (1100 + i)) = cpL v (i + 1) := by
  apply Prod.ext
  · funext j
    simp only [cpL, uI, upd]
    by_cases q : j = 1100 + (91 + i)
    · subst q
      rw [if_pos rfl, if_neg (by omega), if_pos (by omega), show 1100 + (91 + i) - 91 = 1100 + i by omega]
    · rw [if_neg q]
      by_cases q2 : 1191 ≤ j ∧ j < 1191 + i
      · rw [if_pos q2, if_pos (by omega)]
      · rw [if_neg q2, if_neg (by omega)]
  · rfl
theorem vX6_lends (w : WW) : VX6_lends w := by
  intro u h
  simp only [eX6_lends_0, eX6_lends_1, eX6_lends_2, eX6_lends_5, eX6_lends_6, eX6_lends_8, eX6_lends_10, eX6_lends_13, eX6_lends_14, eX6_lends_17, eX6_lends_19, eX6_lends_20, eX6_lends_21, eX6_lends_22, eX6_lends_25, eX6_lends_26, eX6_lends_27, eX6_lends_28, eX6_lends_31, eX6_lends_34, eX6_lends_35, eX6_lends_37, eX6_lends_40, kl_i, kl_r, kl_n, kl_l, true_and, and_true, true_implies, false_implies, not_true_eq_false, not_false_eq_true, i10, Classical.not_not, ok_m1, ix_m1]
  have key : ∀ (m i : Nat), i + m = 91 → GX6_lends w (fun r u' => r = none ∧ u' = mX6_lends u) 7 [some (.ref (mA w)), some (.int (nI i))] [] (cpL (uI u 1000 0) i) := by
    intro m
    induction m with
    | zero =>
      intro i hi
      have e : i = 91 := by omega
      subst e
      rw [eX6_lends_7]
      have hle : (91 : Int32) ≤ nI 91 := by decide
      simp only [eX6_lends_0, eX6_lends_1, eX6_lends_2, eX6_lends_5, eX6_lends_6, eX6_lends_8, eX6_lends_10, eX6_lends_13, eX6_lends_14, eX6_lends_17, eX6_lends_19, eX6_lends_20, eX6_lends_21, eX6_lends_22, eX6_lends_25, eX6_lends_26, eX6_lends_27, eX6_lends_28, eX6_lends_31, eX6_lends_34, eX6_lends_35, eX6_lends_37, eX6_lends_40, kl_i, kl_r, kl_n, kl_l, true_and, and_true, true_implies, false_implies, not_true_eq_false, not_false_eq_true, i10, Classical.not_not, hle, ok_m1, ix_m1]
      apply Prod.ext
      · funext j
        simp only [cpL, uI, upd, mX6_lends]
        split
        · rfl
        · split
          · rw [if_neg (by omega)]
          · rfl
      · rfl
    | succ m ih =>
      intro i hi
      rw [eX6_lends_7]
      have hlt : ¬ (91 : Int32) ≤ nI i := nI_ge (a := i) (b := 91) (by omega) (by omega)
      have e1 : (91 : Int32) + nI i = nI (91 + i) := nI_add 91 i
      have v1 : vp_in (nI (91 + i)) 182 := vi_nI (by omega)
      have v2 : vp_in (nI i) 182 := vi_nI (by omega)
      simp only [eX6_lends_0, eX6_lends_1, eX6_lends_2, eX6_lends_5, eX6_lends_6, eX6_lends_8, eX6_lends_10, eX6_lends_13, eX6_lends_14, eX6_lends_17, eX6_lends_19, eX6_lends_20, eX6_lends_21, eX6_lends_22, eX6_lends_25, eX6_lends_26, eX6_lends_27, eX6_lends_28, eX6_lends_31, eX6_lends_34, eX6_lends_35, eX6_lends_37, eX6_lends_40, kl_i, kl_r, kl_n, kl_l, true_and, and_true, true_implies, false_implies, not_true_eq_false, not_false_eq_true, i10, Classical.not_not, hlt, ok_m0, rf_m0, ai_mr0, as_mr0, xa_mr0, rd_mr0, e1, v1, v2, NN_nI (show 91 + i < 2 ^ 31 by omega), NN_nI (show i < 2 ^ 31 by omega)]
      rw [nI_1]
      have := cpL_step (uI u 1000 0) (show i < 91 by omega)
      rw [this]
      exact ih (i + 1) (by omega)
  have := key 91 0 (by omega)
  have e0 : cpL (uI u 1000 0) 0 = uI u 1000 0 := by
    apply Prod.ext
    · funext j
      simp only [cpL]
      rw [if_neg (by omega)]
    · rfl
  rw [e0] at this
  exact this
set_option maxRecDepth 20000 in
theorem KX6_lends_ok (w : WW) : KOk w MX6_lends (KX6_lends w) := KOk_mk flX6_ok ciX6_ok clX6_ok (fun _ _ h => by cases h) (fun _ _ h => by cases h) (List.forall_mem_nil _)
theorem ctX6_lends (w : WW) : CT w yX6_lends MX6_lends (csX6_lends w).2.1 (csX6_lends w).2.2 := by
  refine CT_of (by decide) rfl TX6_lends_ok TX6_lends_v (KX6_lends_ok w) (fun as u h => ?_)
  obtain ⟨a0, rfl, h⟩ := sgR h
  obtain ⟨rfl, hh⟩ := h
  refine ⟨Nat.le_of_ble_eq_true rfl, ?_⟩
  have key := vX6_lends w u hh
  exact key
theorem prX6_lends (w : WW) : ∀ as u, (csX6_lends w).2.1 as u → ∃ a r, as = .ref a :: r ∧ r.length = 0 ∧ okO w a 6 := by
  intro as u h
  obtain ⟨a0, rfl, h⟩ := sgR h
  exact ⟨_, _, rfl, rfl, okO_m h⟩
theorem vX6_worthOf (w : WW) : VX6_worthOf w := by
  intro c p u h
  obtain ⟨h0, hc, hk, M, hM, eM⟩ := h
  have e : (1100 : Nat) = B6 u := (B6_0 h0).symm
  have ha : atOk u := Or.inl h0
  simp only [eX6_worthOf_0, eX6_worthOf_1, eX6_worthOf_2, eX6_worthOf_3, eX6_worthOf_7, eX6_worthOf_8, eX6_worthOf_11, eX6_worthOf_12, eX6_worthOf_13, eX6_worthOf_16, eX6_worthOf_17, eX6_worthOf_18, eX6_worthOf_19, eX6_worthOf_20, eX6_worthOf_22, eX6_worthOf_25, eX6_worthOf_28, eX6_worthOf_29, eX6_worthOf_31, eX6_worthOf_32, eX6_worthOf_35, eX6_worthOf_38, eX6_worthOf_39, eX6_worthOf_40, eX6_worthOf_41, eX6_worthOf_44, eX6_worthOf_47, eX6_worthOf_48, kl_i, kl_r, kl_n, kl_l, true_and, and_true, true_implies, false_implies, not_true_eq_false, not_false_eq_true, i10, Classical.not_not]
  have key : ∀ (n i : Nat), i + n = M → GX6_worthOf w (fun r u' => r = some (.int (rX6_worthOf c p u)) ∧ u' = u) 5 [some (.ref (mA w)), some (.int c), some (.int p), some (.int (wo (RW u) (NN c) p i)), some (.int (nI i))] [] u := by
    intro n
    induction n with
    | zero =>
      intro i hi
      have e2 : i = M := by omega
      subst e2
      rw [eX6_worthOf_5]
      simp only [eX6_worthOf_0, eX6_worthOf_1, eX6_worthOf_2, eX6_worthOf_3, eX6_worthOf_7, eX6_worthOf_8, eX6_worthOf_11, eX6_worthOf_12, eX6_worthOf_13, eX6_worthOf_16, eX6_worthOf_17, eX6_worthOf_18, eX6_worthOf_19, eX6_worthOf_20, eX6_worthOf_22, eX6_worthOf_25, eX6_worthOf_28, eX6_worthOf_29, eX6_worthOf_31, eX6_worthOf_32, eX6_worthOf_35, eX6_worthOf_38, eX6_worthOf_39, eX6_worthOf_40, eX6_worthOf_41, eX6_worthOf_44, eX6_worthOf_47, eX6_worthOf_48, kl_i, kl_r, kl_n, kl_l, true_and, and_true, true_implies, false_implies, not_true_eq_false, not_false_eq_true, i10, Classical.not_not, ok_m0, rf_m0, ai_mr0, rd_mr0, pOne, mX6_sets, mX6_setsChair, pX6_sets, pX6_setsChair, pX6_chair, pX6_man, pX6_its, RW_pv, pv_pv, B6_pv, atOk_pv, N_0, N_1, N_2, N_3, N_4, N_5, N_6, v7_0, v7_1, v7_2, v7_3, v7_4, v7_5, v7_6, v3_0, v3_1, v3_2, ch0, ch1, ch2, man0, man1, man2, man3, man4, man5, man6, its0, its1, its2, v182_1, e, RW_at, eM]
      exact ⟨fun _ => by rw [rX6_worthOf, eM, NN_nI (by omega)], fun z => absurd (nI_le (Nat.le_refl i) (by omega)) z⟩
    | succ n ih =>
      intro i hi
      have hlt : ¬ nI M ≤ nI i := nI_ge (by omega) (by omega)
      have hv : vp_in (nI i) 6 := vi_nI (by omega)
      have hN : NN (nI i) = i := NN_nI (by omega)
      have go : ∀ x : Int32, x = wo (RW u) (NN c) p (i + 1) → GX6_worthOf w (fun r u' => r = some (.int (rX6_worthOf c p u)) ∧ u' = u) 5 [some (.ref (mA w)), some (.int c), some (.int p), some (.int x), some (.int (nI i + 1))] [] u := fun x hx => by rw [hx, nI_1]; exact ih (i + 1) (by omega)
      rw [eX6_worthOf_5]
      simp only [eX6_worthOf_0, eX6_worthOf_1, eX6_worthOf_2, eX6_worthOf_3, eX6_worthOf_7, eX6_worthOf_8, eX6_worthOf_11, eX6_worthOf_12, eX6_worthOf_13, eX6_worthOf_16, eX6_worthOf_17, eX6_worthOf_18, eX6_worthOf_19, eX6_worthOf_20, eX6_worthOf_22, eX6_worthOf_25, eX6_worthOf_28, eX6_worthOf_29, eX6_worthOf_31, eX6_worthOf_32, eX6_worthOf_35, eX6_worthOf_38, eX6_worthOf_39, eX6_worthOf_40, eX6_worthOf_41, eX6_worthOf_44, eX6_worthOf_47, eX6_worthOf_48, kl_i, kl_r, kl_n, kl_l, true_and, and_true, true_implies, false_implies, not_true_eq_false, not_false_eq_true, i10, Classical.not_not, ok_m0, rf_m0, ai_mr0, rd_mr0, pOne, mX6_sets, mX6_setsChair, pX6_sets, pX6_setsChair, pX6_chair, pX6_man, pX6_its, RW_pv, pv_pv, B6_pv, atOk_pv, N_0, N_1, N_2, N_3, N_4, N_5, N_6, v7_0, v7_1, v7_2, v7_3, v7_4, v7_5, v7_6, v3_0, v3_1, v3_2, ch0, ch1, ch2, man0, man1, man2, man3, man4, man5, man6, its0, its1, its2, v182_1, e, RW_at, eM, hlt, ha, hv, hN, pX6_wouldBe, hc, hk, rX6_wouldBe, bi_0]
      refine ⟨fun z => go _ ?_, fun z => go _ ?_⟩
      · rw [wo, if_neg z]
      · rw [wo, if_pos z]
  exact key M 0 (by omega)
theorem wcX6_164 : ∀ x ∈ wV1 RX6 164 yX6_wouldBe MX6_wouldBe, x ∈ Gt := by decide +kernel
theorem nmX6_wouldBe : nmOk yX6_wouldBe 3 = true := by decide +kernel
set_option maxRecDepth 20000 in
theorem KX6_worthOf_ok (w : WW) : KOk w MX6_worthOf (KX6_worthOf w) := KOk_mk flX6_ok ciX6_ok clX6_ok (fun _ _ h => by cases h) (fun _ _ h => by cases h) (List.forall_mem_cons.mpr ⟨itV (n := 71) (by decide) (COk_V (n := 2) (ci := 6) (ctX6_chair w) wcX6_71 nmX6_chair (by decide) (by decide) rfl (prX6_chair w)), List.forall_mem_cons.mpr ⟨itV (n := 164) (by decide) (COk_V (n := 3) (ci := 6) (ctX6_wouldBe w) wcX6_164 nmX6_wouldBe (by decide) (by decide) rfl (prX6_wouldBe w)), List.forall_mem_nil _⟩⟩)
theorem ctX6_worthOf (w : WW) : CT w yX6_worthOf MX6_worthOf (csX6_worthOf w).2.1 (csX6_worthOf w).2.2 := by
  refine CT_of (by decide) rfl TX6_worthOf_ok TX6_worthOf_v (KX6_worthOf_ok w) (fun as u h => ?_)
  obtain ⟨a0, a1, a2, rfl, h⟩ := sgRII h
  obtain ⟨rfl, hh⟩ := h
  refine ⟨Nat.le_of_ble_eq_true rfl, ?_⟩
  have key := vX6_worthOf w a1 a2 u hh
  exact key
theorem prX6_worthOf (w : WW) : ∀ as u, (csX6_worthOf w).2.1 as u → ∃ a r, as = .ref a :: r ∧ r.length = 2 ∧ okO w a 6 := by
  intro as u h
  obtain ⟨a0, a1, a2, rfl, h⟩ := sgRII h
  exact ⟨_, _, rfl, rfl, okO_m h⟩
