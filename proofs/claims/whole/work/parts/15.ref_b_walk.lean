/-! ===== the reference: the hall's own doings, walked ===== -/
theorem N_0 : NN 0 = 0 := by decide
theorem N_1 : NN 1 = 1 := by decide
theorem N_2 : NN 2 = 2 := by decide
theorem N_3 : NN 3 = 3 := by decide
theorem N_4 : NN 4 = 4 := by decide
theorem N_5 : NN 5 = 5 := by decide
theorem N_6 : NN 6 = 6 := by decide
theorem N_91 : NN 91 = 91 := by decide
theorem v182_0 : vp_in 0 182 := vi_nI (j := 0) (by decide)
theorem v182_1 : vp_in 1 182 := vi_nI (j := 1) (by decide)
theorem v182_2 : vp_in 2 182 := vi_nI (j := 2) (by decide)
theorem ne10 : ¬ (10 : Int32) = 0 := by decide
theorem RW_at (u : MM) (i : Nat) : u.1 (B6 u + i) = RW u i := rfl
theorem se_ost0 {R : Nat → Int32} {c k s : Nat} {v : Int32} (hs : s < 6) : se (ost R c k v) s 0 = se R s 0 := se_ost hs (by decide)
theorem se_ost1 {R : Nat → Int32} {c k s : Nat} {v : Int32} (hs : s < 6) : se (ost R c k v) s 1 = se R s 1 := se_ost hs (by decide)
theorem se_ost2 {R : Nat → Int32} {c k s : Nat} {v : Int32} (hs : s < 6) : se (ost R c k v) s 2 = se R s 2 := se_ost hs (by decide)
theorem se_sst20 {R : Nat → Int32} {s t : Nat} {v : Int32} : se (sst R s 2 v) t 0 = se R t 0 := by rw [se_sst (by decide) (by decide), if_neg (fun z => absurd z.2 (by decide))]
theorem hd1_ost {R : Nat → Int32} {c k : Nat} {v : Int32} : ost R c k v 1 = R 1 := hd_ost (by decide)
theorem hd2_ost {R : Nat → Int32} {c k : Nat} {v : Int32} : ost R c k v 2 = R 2 := hd_ost (by decide)
theorem hd0_ost {R : Nat → Int32} {c k : Nat} {v : Int32} : ost R c k v 0 = R 0 := hd_ost (by decide)
theorem hd1_sst {R : Nat → Int32} {c k : Nat} {v : Int32} : sst R c k v 1 = R 1 := hd_sst (by decide)
theorem hd2_sst {R : Nat → Int32} {c k : Nat} {v : Int32} : sst R c k v 2 = R 2 := hd_sst (by decide)
theorem vX6_addSeat (w : WW) : VX6_addSeat w := by
  intro p t u h
  obtain ⟨h0, hm⟩ := h
  have e : (1100 : Nat) = B6 u := (B6_0 h0).symm
  have ha : atOk u := Or.inl h0
  simp only [eX6_addSeat_0, eX6_addSeat_1, eX6_addSeat_4, eX6_addSeat_5, eX6_addSeat_6, eX6_addSeat_7, eX6_addSeat_8, eX6_addSeat_9, eX6_addSeat_10, eX6_addSeat_11, eX6_addSeat_14, eX6_addSeat_15, eX6_addSeat_16, eX6_addSeat_17, eX6_addSeat_18, eX6_addSeat_21, eX6_addSeat_22, eX6_addSeat_23, eX6_addSeat_24, eX6_addSeat_25, eX6_addSeat_28, eX6_addSeat_29, eX6_addSeat_32, eX6_addSeat_33, eX6_addSeat_34, eX6_addSeat_35, eX6_addSeat_36, eX6_addSeat_37, eX6_addSeat_38, kl_i, kl_r, kl_n, kl_l, true_and, and_true, true_implies, false_implies, not_true_eq_false, not_false_eq_true, i10, Classical.not_not, ok_m0, rf_m0, ai_mr0, as_mr0, xa_mr0, rd_mr0, pOne, mX6_sets, mX6_setsChair, pX6_sets, pX6_setsChair, pX6_chair, pX6_man, pX6_its, RW_pv, pv_pv, B6_pv, atOk_pv, N_0, N_1, N_2, N_3, N_4, N_5, N_6, v7_0, v7_1, v7_2, v7_3, v7_4, v7_5, v7_6, v3_0, v3_1, v3_2, ch0, ch1, ch2, man0, man1, man2, man3, man4, man5, man6, its0, its1, its2, v182_1, e, RW_at, ha, hm, pv_hi, uI_pv, hd1_sst]
  rfl
theorem wcX6_77 : ∀ x ∈ wV1 RX6 77 yX6_setsChair MX6_setsChair, x ∈ Gt := by decide +kernel
theorem nmX6_setsChair : nmOk yX6_setsChair 3 = true := by decide +kernel
set_option maxRecDepth 20000 in
theorem KX6_addSeat_ok (w : WW) : KOk w MX6_addSeat (KX6_addSeat w) := KOk_mk flX6_ok ciX6_ok clX6_ok (fun _ _ h => by cases h) (fun _ _ h => by cases h) (List.forall_mem_cons.mpr ⟨itV (n := 77) (by decide) (COk_V (n := 3) (ci := 6) (ctX6_setsChair w) wcX6_77 nmX6_setsChair (by decide) (by decide) rfl (prX6_setsChair w)), List.forall_mem_nil _⟩)
theorem ctX6_addSeat (w : WW) : CT w yX6_addSeat MX6_addSeat (csX6_addSeat w).2.1 (csX6_addSeat w).2.2 := by
  refine CT_of (by decide) rfl TX6_addSeat_ok TX6_addSeat_v (KX6_addSeat_ok w) (fun as u h => ?_)
  obtain ⟨a0, a1, a2, rfl, h⟩ := sgRII h
  obtain ⟨rfl, hh⟩ := h
  refine ⟨Nat.le_of_ble_eq_true rfl, ?_⟩
  have key := vX6_addSeat w a1 a2 u hh
  exact key
theorem prX6_addSeat (w : WW) : ∀ as u, (csX6_addSeat w).2.1 as u → ∃ a r, as = .ref a :: r ∧ r.length = 2 ∧ okO w a 6 := by
  intro as u h
  obtain ⟨a0, a1, a2, rfl, h⟩ := sgRII h
  exact ⟨_, _, rfl, rfl, okO_m h⟩
theorem lX6_hasSeat {w : WW} {p : Int32} {u : MM} (h : pX6_hasSeat p u) {M : Nat} (hM : M ≤ 6) (eM : RW u 1 = nI M) {Q : Option Value → MM → Prop} (hQ : Q (some (.int (bi (hs (RW u) p M = true)))) u) :
    ∀ (n i : Nat), i + n = M → GX6_hasSeat w Q 4 [some (.ref (mA w)), some (.int p), some (.int (bi (hs (RW u) p i = true))), some (.int (nI i))] [] u := by
  have e : (1100 : Nat) = B6 u := (B6_0 h.1).symm
  have ha : atOk u := Or.inl h.1
  intro n
  induction n with
  | zero =>
    intro i hi
    have e2 : i = M := by omega
    subst e2
    rw [eX6_hasSeat_4]
    simp only [eX6_hasSeat_0, eX6_hasSeat_1, eX6_hasSeat_2, eX6_hasSeat_3, eX6_hasSeat_5, eX6_hasSeat_6, eX6_hasSeat_9, eX6_hasSeat_10, eX6_hasSeat_11, eX6_hasSeat_14, eX6_hasSeat_15, eX6_hasSeat_18, eX6_hasSeat_19, eX6_hasSeat_20, eX6_hasSeat_21, eX6_hasSeat_24, eX6_hasSeat_25, eX6_hasSeat_28, eX6_hasSeat_29, eX6_hasSeat_32, eX6_hasSeat_33, eX6_hasSeat_34, eX6_hasSeat_37, eX6_hasSeat_40, eX6_hasSeat_41, kl_i, kl_r, kl_n, kl_l, true_and, and_true, true_implies, false_implies, not_true_eq_false, not_false_eq_true, i10, Classical.not_not, ok_m0, rf_m0, ai_mr0, rd_mr0, pOne, mX6_sets, mX6_setsChair, pX6_sets, pX6_setsChair, pX6_chair, pX6_man, pX6_its, RW_pv, pv_pv, B6_pv, atOk_pv, N_0, N_1, N_2, N_3, N_4, N_5, N_6, v7_0, v7_1, v7_2, v7_3, v7_4, v7_5, v7_6, v3_0, v3_1, v3_2, ch0, ch1, ch2, man0, man1, man2, man3, man4, man5, man6, its0, its1, its2, v182_1, e, RW_at, eM, nb_bi]
    exact ⟨fun _ => hQ, fun z => absurd (nI_le (Nat.le_refl i) (by omega)) z⟩
  | succ n ih =>
    intro i hi
    have hlt : ¬ nI M ≤ nI i := nI_ge (by omega) (by omega)
    have hv : vp_in (nI i) 6 := vi_nI (by omega)
    have hN : NN (nI i) = i := NN_nI (by omega)
    have go : ∀ x : Int32, x = bi (hs (RW u) p (i + 1) = true) → GX6_hasSeat w Q 4 [some (.ref (mA w)), some (.int p), some (.int x), some (.int (nI i + 1))] [] u := fun x hx => by rw [hx, nI_1]; exact ih (i + 1) (by omega)
    rw [eX6_hasSeat_4]
    simp only [eX6_hasSeat_0, eX6_hasSeat_1, eX6_hasSeat_2, eX6_hasSeat_3, eX6_hasSeat_5, eX6_hasSeat_6, eX6_hasSeat_9, eX6_hasSeat_10, eX6_hasSeat_11, eX6_hasSeat_14, eX6_hasSeat_15, eX6_hasSeat_18, eX6_hasSeat_19, eX6_hasSeat_20, eX6_hasSeat_21, eX6_hasSeat_24, eX6_hasSeat_25, eX6_hasSeat_28, eX6_hasSeat_29, eX6_hasSeat_32, eX6_hasSeat_33, eX6_hasSeat_34, eX6_hasSeat_37, eX6_hasSeat_40, eX6_hasSeat_41, kl_i, kl_r, kl_n, kl_l, true_and, and_true, true_implies, false_implies, not_true_eq_false, not_false_eq_true, i10, Classical.not_not, ok_m0, rf_m0, ai_mr0, rd_mr0, pOne, mX6_sets, mX6_setsChair, pX6_sets, pX6_setsChair, pX6_chair, pX6_man, pX6_its, RW_pv, pv_pv, B6_pv, atOk_pv, N_0, N_1, N_2, N_3, N_4, N_5, N_6, v7_0, v7_1, v7_2, v7_3, v7_4, v7_5, v7_6, v3_0, v3_1, v3_2, ch0, ch1, ch2, man0, man1, man2, man3, man4, man5, man6, its0, its1, its2, v182_1, e, RW_at, eM, hlt, ha, hv, hN, bi_0]
    refine ⟨fun c => go 1 ?_, fun c => ⟨fun c2 => go 0 ?_, fun c2 => go 1 ?_⟩⟩
    · rw [bi_t]; simp [hs, c]
    · rw [bi_f]; simp [hs, c, c2]
    · rw [bi_t]; simp [hs, c2]
theorem vX6_hasSeat (w : WW) : VX6_hasSeat w := by
  intro p u h
  obtain ⟨M, hM, eM⟩ := h.2
  simp only [eX6_hasSeat_0, eX6_hasSeat_1, eX6_hasSeat_2, eX6_hasSeat_3, eX6_hasSeat_5, eX6_hasSeat_6, eX6_hasSeat_9, eX6_hasSeat_10, eX6_hasSeat_11, eX6_hasSeat_14, eX6_hasSeat_15, eX6_hasSeat_18, eX6_hasSeat_19, eX6_hasSeat_20, eX6_hasSeat_21, eX6_hasSeat_24, eX6_hasSeat_25, eX6_hasSeat_28, eX6_hasSeat_29, eX6_hasSeat_32, eX6_hasSeat_33, eX6_hasSeat_34, eX6_hasSeat_37, eX6_hasSeat_40, eX6_hasSeat_41, kl_i, kl_r, kl_n, kl_l, true_and, and_true, true_implies, false_implies, not_true_eq_false, not_false_eq_true, i10, Classical.not_not]
  exact lX6_hasSeat h hM eM ⟨by rw [rX6_hasSeat, eM, NN_nI (by omega)], rfl⟩ M 0 (by omega)
set_option maxRecDepth 20000 in
theorem KX6_hasSeat_ok (w : WW) : KOk w MX6_hasSeat (KX6_hasSeat w) := KOk_mk flX6_ok ciX6_ok clX6_ok (fun _ _ h => by cases h) (fun _ _ h => by cases h) (List.forall_mem_cons.mpr ⟨itV (n := 71) (by decide) (COk_V (n := 2) (ci := 6) (ctX6_chair w) wcX6_71 nmX6_chair (by decide) (by decide) rfl (prX6_chair w)), List.forall_mem_nil _⟩)
theorem ctX6_hasSeat (w : WW) : CT w yX6_hasSeat MX6_hasSeat (csX6_hasSeat w).2.1 (csX6_hasSeat w).2.2 := by
  refine CT_of (by decide) rfl TX6_hasSeat_ok TX6_hasSeat_v (KX6_hasSeat_ok w) (fun as u h => ?_)
  obtain ⟨a0, a1, rfl, h⟩ := sgRI h
  obtain ⟨rfl, hh⟩ := h
  refine ⟨Nat.le_of_ble_eq_true rfl, ?_⟩
  have key := vX6_hasSeat w a1 u hh
  exact key
theorem prX6_hasSeat (w : WW) : ∀ as u, (csX6_hasSeat w).2.1 as u → ∃ a r, as = .ref a :: r ∧ r.length = 1 ∧ okO w a 6 := by
  intro as u h
  obtain ⟨a0, a1, rfl, h⟩ := sgRI h
  exact ⟨_, _, rfl, rfl, okO_m h⟩
theorem vX6_addOne (w : WW) : VX6_addOne w := by
  intro k p t wi u h
  obtain ⟨h0, hm⟩ := h
  have e : (1100 : Nat) = B6 u := (B6_0 h0).symm
  have ha : atOk u := Or.inl h0
  simp only [eX6_addOne_0, eX6_addOne_1, eX6_addOne_4, eX6_addOne_5, eX6_addOne_6, eX6_addOne_8, eX6_addOne_9, eX6_addOne_11, eX6_addOne_12, eX6_addOne_13, eX6_addOne_16, eX6_addOne_17, eX6_addOne_19, eX6_addOne_20, eX6_addOne_21, eX6_addOne_24, eX6_addOne_25, eX6_addOne_27, eX6_addOne_28, eX6_addOne_29, eX6_addOne_32, eX6_addOne_33, eX6_addOne_35, eX6_addOne_36, eX6_addOne_38, eX6_addOne_41, eX6_addOne_42, eX6_addOne_44, eX6_addOne_45, eX6_addOne_46, eX6_addOne_49, eX6_addOne_50, eX6_addOne_52, eX6_addOne_53, eX6_addOne_54, eX6_addOne_57, eX6_addOne_58, eX6_addOne_60, eX6_addOne_62, eX6_addOne_63, eX6_addOne_66, eX6_addOne_67, eX6_addOne_70, eX6_addOne_71, eX6_addOne_72, eX6_addOne_73, eX6_addOne_74, eX6_addOne_75, eX6_addOne_76, kl_i, kl_r, kl_n, kl_l, true_and, and_true, true_implies, false_implies, not_true_eq_false, not_false_eq_true, i10, Classical.not_not, ok_m0, rf_m0, ai_mr0, as_mr0, xa_mr0, rd_mr0, pOne, mX6_sets, mX6_setsChair, pX6_sets, pX6_setsChair, pX6_chair, pX6_man, pX6_its, RW_pv, pv_pv, B6_pv, atOk_pv, N_0, N_1, N_2, N_3, N_4, N_5, N_6, v7_0, v7_1, v7_2, v7_3, v7_4, v7_5, v7_6, v3_0, v3_1, v3_2, ch0, ch1, ch2, man0, man1, man2, man3, man4, man5, man6, its0, its1, its2, v182_2, e, RW_at, ha, hm, pv_hi, uI_pv, hd2_ost]
  rfl
theorem wcX6_105 : ∀ x ∈ wV1 RX6 105 yX6_sets MX6_sets, x ∈ Gt := by decide +kernel
theorem nmX6_sets : nmOk yX6_sets 3 = true := by decide +kernel
set_option maxRecDepth 20000 in
theorem KX6_addOne_ok (w : WW) : KOk w MX6_addOne (KX6_addOne w) := KOk_mk flX6_ok ciX6_ok clX6_ok (fun _ _ h => by cases h) (fun _ _ h => by cases h) (List.forall_mem_cons.mpr ⟨itV (n := 105) (by decide) (COk_V (n := 3) (ci := 6) (ctX6_sets w) wcX6_105 nmX6_sets (by decide) (by decide) rfl (prX6_sets w)), List.forall_mem_nil _⟩)
theorem ctX6_addOne (w : WW) : CT w yX6_addOne MX6_addOne (csX6_addOne w).2.1 (csX6_addOne w).2.2 := by
  refine CT_of (by decide) rfl TX6_addOne_ok TX6_addOne_v (KX6_addOne_ok w) (fun as u h => ?_)
  obtain ⟨a0, a1, a2, a3, a4, rfl, h⟩ := sgRIIII h
  obtain ⟨rfl, hh⟩ := h
  refine ⟨Nat.le_of_ble_eq_true rfl, ?_⟩
  have key := vX6_addOne w a1 a2 a3 a4 u hh
  exact key
theorem prX6_addOne (w : WW) : ∀ as u, (csX6_addOne w).2.1 as u → ∃ a r, as = .ref a :: r ∧ r.length = 4 ∧ okO w a 6 := by
  intro as u h
  obtain ⟨a0, a1, a2, a3, a4, rfl, h⟩ := sgRIIII h
  exact ⟨_, _, rfl, rfl, okO_m h⟩
theorem vX6_falls (w : WW) : VX6_falls w := by
  intro s to u h
  obtain ⟨ha, hs, ht⟩ := h
  have h6 := vi_lt hs
  by_cases c : to < 0
  · simp only [eX6_falls_0, eX6_falls_1, eX6_falls_2, eX6_falls_3, eX6_falls_4, eX6_falls_7, eX6_falls_8, eX6_falls_11, eX6_falls_12, eX6_falls_13, eX6_falls_14, eX6_falls_15, eX6_falls_18, eX6_falls_19, eX6_falls_20, eX6_falls_22, eX6_falls_23, eX6_falls_26, eX6_falls_27, eX6_falls_28, eX6_falls_29, eX6_falls_30, eX6_falls_31, eX6_falls_32, eX6_falls_35, eX6_falls_38, kl_i, kl_r, kl_n, kl_l, true_and, and_true, true_implies, false_implies, not_true_eq_false, not_false_eq_true, i10, Classical.not_not, pOne, mX6_sets, mX6_setsChair, pX6_sets, pX6_setsChair, pX6_chair, pX6_man, pX6_its, RW_pv, pv_pv, B6_pv, atOk_pv, N_0, N_1, N_2, N_3, N_4, N_5, N_6, v7_0, v7_1, v7_2, v7_3, v7_4, v7_5, v7_6, v3_0, v3_1, v3_2, ch0, ch1, ch2, man0, man1, man2, man3, man4, man5, man6, its0, its1, its2, ha, hs, c, mX6_falls, fallsP, if_true]
  · have ht := ht.resolve_left c
    simp only [eX6_falls_0, eX6_falls_1, eX6_falls_2, eX6_falls_3, eX6_falls_4, eX6_falls_7, eX6_falls_8, eX6_falls_11, eX6_falls_12, eX6_falls_13, eX6_falls_14, eX6_falls_15, eX6_falls_18, eX6_falls_19, eX6_falls_20, eX6_falls_22, eX6_falls_23, eX6_falls_26, eX6_falls_27, eX6_falls_28, eX6_falls_29, eX6_falls_30, eX6_falls_31, eX6_falls_32, eX6_falls_35, eX6_falls_38, kl_i, kl_r, kl_n, kl_l, true_and, and_true, true_implies, false_implies, not_true_eq_false, not_false_eq_true, i10, Classical.not_not, pOne, mX6_sets, mX6_setsChair, pX6_sets, pX6_setsChair, pX6_chair, pX6_man, pX6_its, RW_pv, pv_pv, B6_pv, atOk_pv, N_0, N_1, N_2, N_3, N_4, N_5, N_6, v7_0, v7_1, v7_2, v7_3, v7_4, v7_5, v7_6, v3_0, v3_1, v3_2, ch0, ch1, ch2, man0, man1, man2, man3, man4, man5, man6, its0, its1, its2, ha, hs, ht, c, mX6_falls, fallsP, if_false, se_ost0 h6, se_sst20]
set_option maxRecDepth 20000 in
theorem KX6_falls_ok (w : WW) : KOk w MX6_falls (KX6_falls w) := KOk_mk flX6_ok ciX6_ok clX6_ok (fun _ _ h => by cases h) (fun _ _ h => by cases h) (List.forall_mem_cons.mpr ⟨itV (n := 71) (by decide) (COk_V (n := 2) (ci := 6) (ctX6_chair w) wcX6_71 nmX6_chair (by decide) (by decide) rfl (prX6_chair w)), List.forall_mem_cons.mpr ⟨itV (n := 77) (by decide) (COk_V (n := 3) (ci := 6) (ctX6_setsChair w) wcX6_77 nmX6_setsChair (by decide) (by decide) rfl (prX6_setsChair w)), List.forall_mem_cons.mpr ⟨itV (n := 105) (by decide) (COk_V (n := 3) (ci := 6) (ctX6_sets w) wcX6_105 nmX6_sets (by decide) (by decide) rfl (prX6_sets w)), List.forall_mem_nil _⟩⟩⟩)
theorem ctX6_falls (w : WW) : CT w yX6_falls MX6_falls (csX6_falls w).2.1 (csX6_falls w).2.2 := by
  refine CT_of (by decide) rfl TX6_falls_ok TX6_falls_v (KX6_falls_ok w) (fun as u h => ?_)
  obtain ⟨a0, a1, a2, rfl, h⟩ := sgRII h
  obtain ⟨rfl, hh⟩ := h
  refine ⟨Nat.le_of_ble_eq_true rfl, ?_⟩
  have key := vX6_falls w a1 a2 u hh
  exact key
theorem prX6_falls (w : WW) : ∀ as u, (csX6_falls w).2.1 as u → ∃ a r, as = .ref a :: r ∧ r.length = 2 ∧ okO w a 6 := by
  intro as u h
  obtain ⟨a0, a1, a2, rfl, h⟩ := sgRII h
  exact ⟨_, _, rfl, rfl, okO_m h⟩
theorem vX6_rises (w : WW) : VX6_rises w := by
  intro s u h
  obtain ⟨ha, hs, ht, hc⟩ := h
  have h6 := vi_lt hs
  obtain ⟨K, hK, eK⟩ := hc
  have hc : ∀ R : Nat → Int32, R 2 = RW u 2 → crtOk R := fun R e => ⟨K, hK, e.trans eK⟩
  simp only [eX6_rises_0, eX6_rises_1, eX6_rises_2, eX6_rises_3, eX6_rises_6, eX6_rises_7, eX6_rises_8, eX6_rises_9, eX6_rises_10, eX6_rises_11, eX6_rises_14, eX6_rises_15, eX6_rises_16, eX6_rises_18, eX6_rises_19, eX6_rises_22, eX6_rises_23, eX6_rises_24, eX6_rises_25, eX6_rises_26, eX6_rises_27, eX6_rises_28, eX6_rises_31, eX6_rises_34, eX6_rises_35, eX6_rises_36, eX6_rises_37, eX6_rises_38, eX6_rises_39, eX6_rises_42, eX6_rises_45, kl_i, kl_r, kl_n, kl_l, true_and, and_true, true_implies, false_implies, not_true_eq_false, not_false_eq_true, i10, Classical.not_not, pOne, mX6_sets, mX6_setsChair, pX6_sets, pX6_setsChair, pX6_chair, pX6_man, pX6_its, RW_pv, pv_pv, B6_pv, atOk_pv, N_0, N_1, N_2, N_3, N_4, N_5, N_6, v7_0, v7_1, v7_2, v7_3, v7_4, v7_5, v7_6, v3_0, v3_1, v3_2, ch0, ch1, ch2, man0, man1, man2, man3, man4, man5, man6, its0, its1, its2, ha, hs, ht, mX6_rises, risesP, upP, se_ost0 h6, pX6_nextBut, pX6_falls, mX6_falls, rX6_nextBut, hd2_ost]
  refine ⟨hc _ (by simp only [hd2_ost]), nx_vi _ _ _ (by rw [eK, NN_nI (by omega)]; exact hK)⟩
theorem wcX6_102 : ∀ x ∈ wV1 RX6 102 yX6_nextBut MX6_nextBut, x ∈ Gt := by decide +kernel
theorem nmX6_nextBut : nmOk yX6_nextBut 2 = true := by decide +kernel
theorem wcX6_129 : ∀ x ∈ wV1 RX6 129 yX6_falls MX6_falls, x ∈ Gt := by decide +kernel
theorem nmX6_falls : nmOk yX6_falls 2 = true := by decide +kernel
set_option maxRecDepth 20000 in
theorem KX6_rises_ok (w : WW) : KOk w MX6_rises (KX6_rises w) := KOk_mk flX6_ok ciX6_ok clX6_ok (fun _ _ h => by cases h) (fun _ _ h => by cases h) (List.forall_mem_cons.mpr ⟨itV (n := 71) (by decide) (COk_V (n := 2) (ci := 6) (ctX6_chair w) wcX6_71 nmX6_chair (by decide) (by decide) rfl (prX6_chair w)), List.forall_mem_cons.mpr ⟨itV (n := 102) (by decide) (COk_V (n := 2) (ci := 6) (ctX6_nextBut w) wcX6_102 nmX6_nextBut (by decide) (by decide) rfl (prX6_nextBut w)), List.forall_mem_cons.mpr ⟨itV (n := 105) (by decide) (COk_V (n := 3) (ci := 6) (ctX6_sets w) wcX6_105 nmX6_sets (by decide) (by decide) rfl (prX6_sets w)), List.forall_mem_cons.mpr ⟨itV (n := 129) (by decide) (COk_V (n := 2) (ci := 6) (ctX6_falls w) wcX6_129 nmX6_falls (by decide) (by decide) rfl (prX6_falls w)), List.forall_mem_nil _⟩⟩⟩⟩)
theorem ctX6_rises (w : WW) : CT w yX6_rises MX6_rises (csX6_rises w).2.1 (csX6_rises w).2.2 := by
  refine CT_of (by decide) rfl TX6_rises_ok TX6_rises_v (KX6_rises_ok w) (fun as u h => ?_)
  obtain ⟨a0, a1, rfl, h⟩ := sgRI h
  obtain ⟨rfl, hh⟩ := h
  refine ⟨Nat.le_of_ble_eq_true rfl, ?_⟩
  have key := vX6_rises w a1 u hh
  exact key
theorem prX6_rises (w : WW) : ∀ as u, (csX6_rises w).2.1 as u → ∃ a r, as = .ref a :: r ∧ r.length = 1 ∧ okO w a 6 := by
  intro as u h
  obtain ⟨a0, a1, rfl, h⟩ := sgRI h
  exact ⟨_, _, rfl, rfl, okO_m h⟩
theorem vX6_nearer (w : WW) : VX6_nearer w := by
  intro v t u h
  simp only [eX6_nearer_0, eX6_nearer_1, eX6_nearer_2, eX6_nearer_5, eX6_nearer_6, eX6_nearer_7, eX6_nearer_8, eX6_nearer_11, eX6_nearer_12, eX6_nearer_13, eX6_nearer_16, eX6_nearer_17, eX6_nearer_18, eX6_nearer_19, eX6_nearer_22, eX6_nearer_23, kl_i, kl_r, kl_n, kl_l, true_and, and_true, true_implies, false_implies, not_true_eq_false, not_false_eq_true, i10, Classical.not_not, rX6_nearer, nearer, Option.some.injEq, Value.int.injEq]
  refine ⟨fun c => ⟨fun d => ?_, fun d => ?_⟩, fun c => ?_⟩
  · rw [if_neg (Int32.not_lt.mpr c), if_neg (Int32.not_lt.mpr d)]
  · rw [if_neg (Int32.not_lt.mpr c), if_pos (Int32.not_le.mp d)]
  · rw [if_pos (Int32.not_le.mp c)]
set_option maxRecDepth 20000 in
theorem KX6_nearer_ok (w : WW) : KOk w MX6_nearer (KX6_nearer w) := KOk_mk flX6_ok ciX6_ok clX6_ok (fun _ _ h => by cases h) (fun _ _ h => by cases h) (List.forall_mem_nil _)
theorem ctX6_nearer (w : WW) : CT w yX6_nearer MX6_nearer (csX6_nearer w).2.1 (csX6_nearer w).2.2 := by
  refine CT_of (by decide) rfl TX6_nearer_ok TX6_nearer_v (KX6_nearer_ok w) (fun as u h => ?_)
  obtain ⟨a0, a1, rfl, h⟩ := sgII h
  have hh := h
  refine ⟨Nat.le_of_ble_eq_true rfl, ?_⟩
  have key := vX6_nearer w a0 a1 u hh
  exact key
theorem lX6_isBarred {w : WW} {p but : Int32} {u : MM} (h : pX6_isBarred p but u) {K : Nat} (hK : K ≤ 10) (eK : RW u 2 = nI K) {Q : Option Value → MM → Prop} (hQ : Q (some (.int (bi (brd (RW u) p but K = true)))) u) :
    ∀ (n i : Nat), i + n = K → GX6_isBarred w Q 5 [some (.ref (mA w)), some (.int p), some (.int but), some (.int (bi (brd (RW u) p but i = true))), some (.int (nI i))] [] u := by
  have ha : atOk u := h.1
  intro n
  induction n with
  | zero =>
    intro i hi
    have e2 : i = K := by omega
    subst e2
    rw [eX6_isBarred_5]
    simp only [eX6_isBarred_0, eX6_isBarred_1, eX6_isBarred_2, eX6_isBarred_3, eX6_isBarred_7, eX6_isBarred_8, eX6_isBarred_9, eX6_isBarred_12, eX6_isBarred_15, eX6_isBarred_16, eX6_isBarred_19, eX6_isBarred_21, eX6_isBarred_22, eX6_isBarred_25, eX6_isBarred_26, eX6_isBarred_28, eX6_isBarred_31, eX6_isBarred_34, eX6_isBarred_35, eX6_isBarred_37, eX6_isBarred_40, eX6_isBarred_43, eX6_isBarred_44, eX6_isBarred_46, eX6_isBarred_47, eX6_isBarred_50, eX6_isBarred_51, eX6_isBarred_54, eX6_isBarred_55, eX6_isBarred_58, eX6_isBarred_59, eX6_isBarred_60, eX6_isBarred_63, eX6_isBarred_66, eX6_isBarred_67, kl_i, kl_r, kl_n, kl_l, true_and, and_true, true_implies, false_implies, not_true_eq_false, not_false_eq_true, i10, Classical.not_not, pOne, mX6_sets, mX6_setsChair, pX6_sets, pX6_setsChair, pX6_chair, pX6_man, pX6_its, RW_pv, pv_pv, B6_pv, atOk_pv, N_0, N_1, N_2, N_3, N_4, N_5, N_6, v7_0, v7_1, v7_2, v7_3, v7_4, v7_5, v7_6, v3_0, v3_1, v3_2, ch0, ch1, ch2, man0, man1, man2, man3, man4, man5, man6, its0, its1, its2, ha, eK, nb_bi]
    exact ⟨fun _ => hQ, fun z => absurd (nI_le (Nat.le_refl i) (by omega)) z⟩
  | succ n ih =>
    intro i hi
    have hlt : ¬ nI K ≤ nI i := nI_ge (by omega) (by omega)
    have hv : vp_in (nI i) 10 := vi_nI (by omega)
    have hN : NN (nI i) = i := NN_nI (by omega)
    have go : ∀ x : Int32, x = bi (brd (RW u) p but (i + 1) = true) → GX6_isBarred w Q 5 [some (.ref (mA w)), some (.int p), some (.int but), some (.int x), some (.int (nI i + 1))] [] u := fun x hx => by rw [hx, nI_1]; exact ih (i + 1) (by omega)
    rw [eX6_isBarred_5]
    have hp : pOne (nI i) u := ⟨ha, hv⟩
    simp only [eX6_isBarred_0, eX6_isBarred_1, eX6_isBarred_2, eX6_isBarred_3, eX6_isBarred_7, eX6_isBarred_8, eX6_isBarred_9, eX6_isBarred_12, eX6_isBarred_15, eX6_isBarred_16, eX6_isBarred_19, eX6_isBarred_21, eX6_isBarred_22, eX6_isBarred_25, eX6_isBarred_26, eX6_isBarred_28, eX6_isBarred_31, eX6_isBarred_34, eX6_isBarred_35, eX6_isBarred_37, eX6_isBarred_40, eX6_isBarred_43, eX6_isBarred_44, eX6_isBarred_46, eX6_isBarred_47, eX6_isBarred_50, eX6_isBarred_51, eX6_isBarred_54, eX6_isBarred_55, eX6_isBarred_58, eX6_isBarred_59, eX6_isBarred_60, eX6_isBarred_63, eX6_isBarred_66, eX6_isBarred_67, kl_i, kl_r, kl_n, kl_l, true_and, and_true, true_implies, false_implies, not_true_eq_false, not_false_eq_true, i10, Classical.not_not, pOne, mX6_sets, mX6_setsChair, pX6_sets, pX6_setsChair, pX6_chair, pX6_man, pX6_its, RW_pv, pv_pv, B6_pv, atOk_pv, N_0, N_1, N_2, N_3, N_4, N_5, N_6, v7_0, v7_1, v7_2, v7_3, v7_4, v7_5, v7_6, v3_0, v3_1, v3_2, ch0, ch1, ch2, man0, man1, man2, man3, man4, man5, man6, its0, its1, its2, eK, hlt, ha, hv, hN, hp, pX6_isPage, pX6_stands, rX6_isPage, rX6_stands, bi_0]
    refine ⟨fun c => go 1 ?_, fun c => ⟨fun c2 => go 0 ?_, fun c2 => ⟨fun c3 => go 0 ?_, fun c3 => ⟨fun c4 => go 0 ?_, fun c4 => ⟨fun c5 => go 0 ?_, fun c5 => go 1 ?_⟩⟩⟩⟩⟩
    · rw [bi_t]; simp [brd, c]
    · rw [bi_f]; simp [brd, c, c2]
    · rw [bi_f]; simp [brd, c, c3]
    · rw [bi_f]; simp [brd, c, c4]
    · rw [bi_f]; simp [brd, c, c5]
    · rw [bi_t]; simp [brd, c2, c3, c4, c5]
theorem vX6_isBarred (w : WW) : VX6_isBarred w := by
  intro p but u h
  obtain ⟨K, hK, eK⟩ := h.2
  simp only [eX6_isBarred_0, eX6_isBarred_1, eX6_isBarred_2, eX6_isBarred_3, eX6_isBarred_7, eX6_isBarred_8, eX6_isBarred_9, eX6_isBarred_12, eX6_isBarred_15, eX6_isBarred_16, eX6_isBarred_19, eX6_isBarred_21, eX6_isBarred_22, eX6_isBarred_25, eX6_isBarred_26, eX6_isBarred_28, eX6_isBarred_31, eX6_isBarred_34, eX6_isBarred_35, eX6_isBarred_37, eX6_isBarred_40, eX6_isBarred_43, eX6_isBarred_44, eX6_isBarred_46, eX6_isBarred_47, eX6_isBarred_50, eX6_isBarred_51, eX6_isBarred_54, eX6_isBarred_55, eX6_isBarred_58, eX6_isBarred_59, eX6_isBarred_60, eX6_isBarred_63, eX6_isBarred_66, eX6_isBarred_67, kl_i, kl_r, kl_n, kl_l, true_and, and_true, true_implies, false_implies, not_true_eq_false, not_false_eq_true, i10, Classical.not_not]
  exact lX6_isBarred h hK eK ⟨by rw [rX6_isBarred, eK, NN_nI (by omega)], rfl⟩ K 0 (by omega)
set_option maxRecDepth 20000 in
theorem KX6_isBarred_ok (w : WW) : KOk w MX6_isBarred (KX6_isBarred w) := KOk_mk flX6_ok ciX6_ok clX6_ok (fun _ _ h => by cases h) (fun _ _ h => by cases h) (List.forall_mem_cons.mpr ⟨itV (n := 46) (by decide) (COk_V (n := 1) (ci := 6) (ctX6_its w) wcX6_46 nmX6_its (by decide) (by decide) rfl (prX6_its w)), List.forall_mem_cons.mpr ⟨itV (n := 54) (by decide) (COk_V (n := 2) (ci := 6) (ctX6_man w) wcX6_54 nmX6_man (by decide) (by decide) rfl (prX6_man w)), List.forall_mem_cons.mpr ⟨itV (n := 64) (by decide) (COk_V (n := 1) (ci := 6) (ctX6_stands w) wcX6_64 nmX6_stands (by decide) (by decide) rfl (prX6_stands w)), List.forall_mem_cons.mpr ⟨itV (n := 68) (by decide) (COk_V (n := 1) (ci := 6) (ctX6_isPage w) wcX6_68 nmX6_isPage (by decide) (by decide) rfl (prX6_isPage w)), List.forall_mem_nil _⟩⟩⟩⟩)
theorem ctX6_isBarred (w : WW) : CT w yX6_isBarred MX6_isBarred (csX6_isBarred w).2.1 (csX6_isBarred w).2.2 := by
  refine CT_of (by decide) rfl TX6_isBarred_ok TX6_isBarred_v (KX6_isBarred_ok w) (fun as u h => ?_)
  obtain ⟨a0, a1, a2, rfl, h⟩ := sgRII h
  obtain ⟨rfl, hh⟩ := h
  refine ⟨Nat.le_of_ble_eq_true rfl, ?_⟩
  have key := vX6_isBarred w a1 a2 u hh
  exact key
theorem prX6_isBarred (w : WW) : ∀ as u, (csX6_isBarred w).2.1 as u → ∃ a r, as = .ref a :: r ∧ r.length = 2 ∧ okO w a 6 := by
  intro as u h
  obtain ⟨a0, a1, a2, rfl, h⟩ := sgRII h
  exact ⟨_, _, rfl, rfl, okO_m h⟩
theorem vX6_isLate (w : WW) : VX6_isLate w := by
  intro n u h
  simp only [eX6_isLate_0, eX6_isLate_1, eX6_isLate_4, eX6_isLate_5, eX6_isLate_6, eX6_isLate_7, eX6_isLate_8, eX6_isLate_11, eX6_isLate_14, eX6_isLate_15, eX6_isLate_18, eX6_isLate_19, kl_i, kl_r, kl_n, kl_l, true_and, and_true, true_implies, false_implies, not_true_eq_false, not_false_eq_true, i10, Classical.not_not, ok_m0, rf_m0, ai_mr0, rd_mr0, v182_0, N_0, rX6_isLate, nb_0, nb_1, Option.some.injEq, Value.int.injEq]
  exact ⟨fun c => (bi_f (Int32.not_lt.mpr c)).symm, fun c => (bi_t (Int32.not_le.mp c)).symm⟩
set_option maxRecDepth 20000 in
theorem KX6_isLate_ok (w : WW) : KOk w MX6_isLate (KX6_isLate w) := KOk_mk flX6_ok ciX6_ok clX6_ok (fun _ _ h => by cases h) (fun _ _ h => by cases h) (List.forall_mem_nil _)
theorem ctX6_isLate (w : WW) : CT w yX6_isLate MX6_isLate (csX6_isLate w).2.1 (csX6_isLate w).2.2 := by
  refine CT_of (by decide) rfl TX6_isLate_ok TX6_isLate_v (KX6_isLate_ok w) (fun as u h => ?_)
  obtain ⟨a0, a1, rfl, h⟩ := sgRI h
  obtain ⟨rfl, hh⟩ := h
  refine ⟨Nat.le_of_ble_eq_true rfl, ?_⟩
  have key := vX6_isLate w a1 u hh
  exact key
theorem prX6_isLate (w : WW) : ∀ as u, (csX6_isLate w).2.1 as u → ∃ a r, as = .ref a :: r ∧ r.length = 1 ∧ okO w a 6 := by
  intro as u h
  obtain ⟨a0, a1, rfl, h⟩ := sgRI h
  exact ⟨_, _, rfl, rfl, okO_m h⟩
theorem vX6_isLong (w : WW) : VX6_isLong w := by
  intro a u h
  simp only [eX6_isLong_0, eX6_isLong_1, eX6_isLong_2, eX6_isLong_5, eX6_isLong_8, nb_bi, rX6_in, true_and, and_true]
  exact ⟨trivial, rfl⟩
set_option maxRecDepth 20000 in
theorem KX6_isLong_ok (w : WW) : KOk w MX6_isLong (KX6_isLong w) := KOk_mk flX6_ok ciX6_ok clX6_ok (fun _ _ h => by cases h) (fun _ _ h => by cases h) (List.forall_mem_cons.mpr ⟨itS (n := 50) (COk_S (n := 3) (ctX6_in w) wcX6_65586 nmX6_in (by decide)), List.forall_mem_nil _⟩)
theorem ctX6_isLong (w : WW) : CT w yX6_isLong MX6_isLong (csX6_isLong w).2.1 (csX6_isLong w).2.2 := by
  refine CT_of (by decide) rfl TX6_isLong_ok TX6_isLong_v (KX6_isLong_ok w) (fun as u h => ?_)
  obtain ⟨a0, rfl, h⟩ := sgI h
  have hh := h
  refine ⟨Nat.le_of_ble_eq_true rfl, ?_⟩
  have key := vX6_isLong w a0 u hh
  exact key
theorem vX6_waits (w : WW) : VX6_waits w := by
  intro c u h
  simp only [eX6_waits_0, eX6_waits_1, eX6_waits_2, eX6_waits_5, eX6_waits_8, eX6_waits_9, eX6_waits_10, eX6_waits_13, eX6_waits_16, eX6_waits_17, eX6_waits_20, eX6_waits_21, kl_i, kl_r, kl_n, kl_l, true_and, and_true, true_implies, false_implies, not_true_eq_false, not_false_eq_true, i10, Classical.not_not, pX6_stands, pX6_isPage, rX6_stands, rX6_isPage, rX6_waits, bi_0, nb_0, nb_1, Option.some.injEq, Value.int.injEq]
  refine ⟨h, fun c => ?_, fun c => ⟨h, fun c2 => ?_, fun c2 => ?_⟩⟩
  · rw [bi_f (fun z => c z.1)]
  · rw [bi_f (fun z => z.2 c2)]
  · rw [bi_t ⟨c, c2⟩]
set_option maxRecDepth 20000 in
theorem KX6_waits_ok (w : WW) : KOk w MX6_waits (KX6_waits w) := KOk_mk flX6_ok ciX6_ok clX6_ok (fun _ _ h => by cases h) (fun _ _ h => by cases h) (List.forall_mem_cons.mpr ⟨itV (n := 64) (by decide) (COk_V (n := 1) (ci := 6) (ctX6_stands w) wcX6_64 nmX6_stands (by decide) (by decide) rfl (prX6_stands w)), List.forall_mem_cons.mpr ⟨itV (n := 68) (by decide) (COk_V (n := 1) (ci := 6) (ctX6_isPage w) wcX6_68 nmX6_isPage (by decide) (by decide) rfl (prX6_isPage w)), List.forall_mem_nil _⟩⟩)
theorem ctX6_waits (w : WW) : CT w yX6_waits MX6_waits (csX6_waits w).2.1 (csX6_waits w).2.2 := by
  refine CT_of (by decide) rfl TX6_waits_ok TX6_waits_v (KX6_waits_ok w) (fun as u h => ?_)
  obtain ⟨a0, a1, rfl, h⟩ := sgRI h
  obtain ⟨rfl, hh⟩ := h
  refine ⟨Nat.le_of_ble_eq_true rfl, ?_⟩
  have key := vX6_waits w a1 u hh
  exact key
theorem prX6_waits (w : WW) : ∀ as u, (csX6_waits w).2.1 as u → ∃ a r, as = .ref a :: r ∧ r.length = 1 ∧ okO w a 6 := by
  intro as u h
  obtain ⟨a0, a1, rfl, h⟩ := sgRI h
  exact ⟨_, _, rfl, rfl, okO_m h⟩
theorem vX6_steps (w : WW) : VX6_steps w := by
  intro a b u h
  simp only [eX6_steps_0, eX6_steps_1, eX6_steps_3, eX6_steps_4, eX6_steps_5, eX6_steps_7, eX6_steps_8, eX6_steps_11, eX6_steps_12, eX6_steps_13, eX6_steps_15, eX6_steps_16, eX6_steps_17, eX6_steps_19, eX6_steps_20, eX6_steps_23, eX6_steps_24, eX6_steps_25, eX6_steps_26, eX6_steps_29, eX6_steps_30, eX6_steps_33, eX6_steps_34, kl_i, kl_r, kl_n, kl_l, true_and, and_true, true_implies, false_implies, not_true_eq_false, not_false_eq_true, i10, Classical.not_not, rX6_apart, rX6_steps, stepsP, apartP, rem32, ne10, pX6_apart, Option.some.injEq, Value.int.injEq]
  exact ⟨fun c => (if_neg (Int32.not_lt.mpr c)).symm, fun c => (if_pos (Int32.not_le.mp c)).symm⟩
theorem wcX6_65703 : ∀ x ∈ wS1 RX6 167 yX6_apart MX6_apart, x ∈ Gt := by decide +kernel
theorem nmX6_apart : nmOk yX6_apart 2 = true := by decide +kernel
set_option maxRecDepth 20000 in
theorem KX6_steps_ok (w : WW) : KOk w MX6_steps (KX6_steps w) := KOk_mk flX6_ok ciX6_ok clX6_ok (fun _ _ h => by cases h) (fun _ _ h => by cases h) (List.forall_mem_cons.mpr ⟨itS (n := 167) (COk_S (n := 2) (ctX6_apart w) wcX6_65703 nmX6_apart (by decide)), List.forall_mem_nil _⟩)
theorem ctX6_steps (w : WW) : CT w yX6_steps MX6_steps (csX6_steps w).2.1 (csX6_steps w).2.2 := by
  refine CT_of (by decide) rfl TX6_steps_ok TX6_steps_v (KX6_steps_ok w) (fun as u h => ?_)
  obtain ⟨a0, a1, rfl, h⟩ := sgII h
  have hh := h
  refine ⟨Nat.le_of_ble_eq_true rfl, ?_⟩
  have key := vX6_steps w a0 a1 u hh
  exact key
theorem vX6_isUnder (w : WW) : VX6_isUnder w := by
  intro k a u h
  simp only [eX6_isUnder_0, eX6_isUnder_1, eX6_isUnder_4, eX6_isUnder_5, eX6_isUnder_6, eX6_isUnder_9, eX6_isUnder_10, eX6_isUnder_11, eX6_isUnder_14, eX6_isUnder_15, eX6_isUnder_16, eX6_isUnder_19, eX6_isUnder_20, eX6_isUnder_21, eX6_isUnder_24, eX6_isUnder_25, eX6_isUnder_26, eX6_isUnder_29, eX6_isUnder_30, eX6_isUnder_33, eX6_isUnder_34, kl_i, kl_r, kl_n, kl_l, true_and, and_true, true_implies, false_implies, not_true_eq_false, not_false_eq_true, i10, Classical.not_not, nb_0, nb_1, rX6_isUnder, Option.some.injEq, Value.int.injEq]
  have h13 : ¬ (1 : Int32) = 3 := by decide
  by_cases c : under k a
  · rw [bi_t c]; grind
  · rw [bi_f c]; grind
set_option maxRecDepth 20000 in
theorem KX6_isUnder_ok (w : WW) : KOk w MX6_isUnder (KX6_isUnder w) := KOk_mk flX6_ok ciX6_ok clX6_ok (fun _ _ h => by cases h) (fun _ _ h => by cases h) (List.forall_mem_nil _)
theorem ctX6_isUnder (w : WW) : CT w yX6_isUnder MX6_isUnder (csX6_isUnder w).2.1 (csX6_isUnder w).2.2 := by
  refine CT_of (by decide) rfl TX6_isUnder_ok TX6_isUnder_v (KX6_isUnder_ok w) (fun as u h => ?_)
  obtain ⟨a0, a1, rfl, h⟩ := sgII h
  have hh := h
  refine ⟨Nat.le_of_ble_eq_true rfl, ?_⟩
  have key := vX6_isUnder w a0 a1 u hh
  exact key
theorem vX6_wouldBe (w : WW) : VX6_wouldBe w := by
  intro c p s u h
  obtain ⟨ha, hc, hs, hk⟩ := h
  have h6 := vi_lt hs
  have hc0 : c = nI (NN c) := vi_eq hc
  have hk2 : crtOk (ost (RW u) (NN c) 1 p) := by obtain ⟨K, hK, eK⟩ := hk; exact ⟨K, hK, by rw [hd2_ost]; exact eK⟩
  have back : ost (ost (RW u) (NN c) 1 p) (NN c) 1 (on (RW u) (NN c) 1) = RW u := by
    funext j; simp only [ost, upd]; split
    · rename_i e; rw [e]; rfl
    · rfl
  simp only [eX6_wouldBe_0, eX6_wouldBe_1, eX6_wouldBe_2, eX6_wouldBe_3, eX6_wouldBe_6, eX6_wouldBe_8, eX6_wouldBe_9, eX6_wouldBe_10, eX6_wouldBe_11, eX6_wouldBe_12, eX6_wouldBe_15, eX6_wouldBe_16, eX6_wouldBe_17, eX6_wouldBe_18, eX6_wouldBe_21, eX6_wouldBe_22, eX6_wouldBe_25, eX6_wouldBe_26, eX6_wouldBe_29, eX6_wouldBe_30, eX6_wouldBe_32, eX6_wouldBe_33, eX6_wouldBe_34, eX6_wouldBe_35, eX6_wouldBe_37, eX6_wouldBe_40, eX6_wouldBe_42, kl_i, kl_r, kl_n, kl_l, true_and, and_true, true_implies, false_implies, not_true_eq_false, not_false_eq_true, i10, Classical.not_not, nb_0, nb_1, Option.some.injEq, Value.int.injEq, pOne, mX6_sets, mX6_setsChair, pX6_sets, pX6_setsChair, pX6_chair, pX6_man, pX6_its, RW_pv, pv_pv, B6_pv, atOk_pv, N_0, N_1, N_2, N_3, N_4, N_5, N_6, v7_0, v7_1, v7_2, v7_3, v7_4, v7_5, v7_6, v3_0, v3_1, v3_2, ch0, ch1, ch2, man0, man1, man2, man3, man4, man5, man6, its0, its1, its2, ha, hc, hs, pX6_nextBut, hk2, rX6_nextBut, rX6_wouldBe, se_ost0 h6, hd2_ost, back, pv_vw]
  constructor
  · intro z; rw [bi_f]; show ¬ _ = nI (NN c); rw [← hc0]; exact z
  · intro z; rw [bi_t]; show _ = nI (NN c); rw [← hc0]; exact z
set_option maxRecDepth 20000 in
theorem KX6_wouldBe_ok (w : WW) : KOk w MX6_wouldBe (KX6_wouldBe w) := KOk_mk flX6_ok ciX6_ok clX6_ok (fun _ _ h => by cases h) (fun _ _ h => by cases h) (List.forall_mem_cons.mpr ⟨itV (n := 54) (by decide) (COk_V (n := 2) (ci := 6) (ctX6_man w) wcX6_54 nmX6_man (by decide) (by decide) rfl (prX6_man w)), List.forall_mem_cons.mpr ⟨itV (n := 102) (by decide) (COk_V (n := 2) (ci := 6) (ctX6_nextBut w) wcX6_102 nmX6_nextBut (by decide) (by decide) rfl (prX6_nextBut w)), List.forall_mem_cons.mpr ⟨itV (n := 105) (by decide) (COk_V (n := 3) (ci := 6) (ctX6_sets w) wcX6_105 nmX6_sets (by decide) (by decide) rfl (prX6_sets w)), List.forall_mem_nil _⟩⟩⟩)
theorem ctX6_wouldBe (w : WW) : CT w yX6_wouldBe MX6_wouldBe (csX6_wouldBe w).2.1 (csX6_wouldBe w).2.2 := by
  refine CT_of (by decide) rfl TX6_wouldBe_ok TX6_wouldBe_v (KX6_wouldBe_ok w) (fun as u h => ?_)
  obtain ⟨a0, a1, a2, a3, rfl, h⟩ := sgRIII h
  obtain ⟨rfl, hh⟩ := h
  refine ⟨Nat.le_of_ble_eq_true rfl, ?_⟩
  have key := vX6_wouldBe w a1 a2 a3 u hh
  exact key
theorem prX6_wouldBe (w : WW) : ∀ as u, (csX6_wouldBe w).2.1 as u → ∃ a r, as = .ref a :: r ∧ r.length = 3 ∧ okO w a 6 := by
  intro as u h
  obtain ⟨a0, a1, a2, a3, rfl, h⟩ := sgRIII h
  exact ⟨_, _, rfl, rfl, okO_m h⟩
