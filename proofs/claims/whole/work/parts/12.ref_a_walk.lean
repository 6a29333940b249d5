/-! ===== the reference's small methods, walked ===== -/
theorem at_nI {u : MM} (h : atOk u) : ∃ A, (A = 0 ∨ A = 91) ∧ u.1 1000 = nI A := by
  rcases h with h | h
  · exact ⟨0, Or.inl rfl, h⟩
  · exact ⟨91, Or.inr rfl, h⟩
theorem i32_lt_le {a b : Int32} : ¬ a < b ↔ b ≤ a := Int32.not_lt
theorem i32_le_lt {a b : Int32} : ¬ a ≤ b ↔ b < a := Int32.not_le
theorem vX6_in (w : WW) : VX6_in w := by
  intro a b c u _
  simp only [eX6_in_0, eX6_in_1, eX6_in_2, eX6_in_5, eX6_in_6, eX6_in_7, eX6_in_10, eX6_in_11, eX6_in_14, eX6_in_15, rX6_in, nb_0, nb_1, true_and, and_true, Option.some.injEq, Value.int.injEq]
  refine ⟨fun h => ?_, fun h => ⟨fun h2 => ?_, fun h2 => ?_⟩⟩
  · exact (bi_f (fun z => absurd h (Int32.not_lt.mpr z.1))).symm
  · exact (bi_f (fun z => absurd h2 (Int32.not_lt.mpr z.2))).symm
  · exact (bi_t ⟨Int32.not_lt.mp h, Int32.not_lt.mp h2⟩).symm
set_option maxRecDepth 20000 in
theorem KX6_in_ok (w : WW) : KOk w MX6_in (KX6_in w) := KOk_mk flX6_ok ciX6_ok clX6_ok (fun _ _ h => by cases h) (fun _ _ h => by cases h) (List.forall_mem_nil _)
theorem ctX6_in (w : WW) : CT w yX6_in MX6_in (csX6_in w).2.1 (csX6_in w).2.2 := by
  refine CT_of (by decide) rfl TX6_in_ok TX6_in_v (KX6_in_ok w) (fun as u h => ?_)
  obtain ⟨a0, a1, a2, rfl, h⟩ := sgIII h
  have hh := h
  refine ⟨Nat.le_of_ble_eq_true rfl, ?_⟩
  have key := vX6_in w a0 a1 a2 u hh
  exact key
theorem vX6_finds (w : WW) : VX6_finds w := by
  intro a u h
  simp only [eX6_finds_0, eX6_finds_1, eX6_finds_4, eX6_finds_6, eX6_finds_7, eX6_finds_8, eX6_finds_9, eX6_finds_10, eX6_finds_11, eX6_finds_12, eX6_finds_13, eX6_finds_14, ok_m2, rf_m2, ai_mr1, as_mr1, xa_mr1, rd_mr1, true_and, and_true]
  exact ⟨h, h, rfl, rfl⟩
set_option maxRecDepth 20000 in
theorem KX6_finds_ok (w : WW) : KOk w MX6_finds (KX6_finds w) := KOk_mk flX6_ok ciX6_ok clX6_ok (fun _ _ h => by cases h) (fun _ _ h => by cases h) (List.forall_mem_nil _)
theorem ctX6_finds (w : WW) : CT w yX6_finds MX6_finds (csX6_finds w).2.1 (csX6_finds w).2.2 := by
  refine CT_of (by decide) rfl TX6_finds_ok TX6_finds_v (KX6_finds_ok w) (fun as u h => ?_)
  obtain ⟨a0, a1, rfl, h⟩ := sgRI h
  obtain ⟨rfl, hh⟩ := h
  refine ⟨Nat.le_of_ble_eq_true rfl, ?_⟩
  have key := vX6_finds w a1 u hh
  exact key
theorem prX6_finds (w : WW) : ∀ as u, (csX6_finds w).2.1 as u → ∃ a r, as = .ref a :: r ∧ r.length = 1 ∧ okO w a 6 := by
  intro as u h
  obtain ⟨a0, a1, rfl, h⟩ := sgRI h
  exact ⟨_, _, rfl, rfl, okO_m h⟩
theorem ix_its {u : MM} {k : Int32} (ha : atOk u) (hk : vp_in k 3) : vp_in (u.1 1000 + k) 182 ∧ 1100 + NN (u.1 1000 + k) = B6 u + NN k := by
  obtain ⟨A, hA, e⟩ := at_nI ha
  obtain ⟨j, hj, rfl⟩ := vi_of hk
  rw [B6, e, nI_add, NN_nI (by omega), NN_nI (by omega), NN_nI (by omega)]
  exact ⟨vi_nI (by omega), by omega⟩
theorem ix_ch {u : MM} {s k : Int32} (ha : atOk u) (hs : vp_in s 6) (hk : vp_in k 3) : vp_in (u.1 1000 + 3 + 3 * s + k) 182 ∧ 1100 + NN (u.1 1000 + 3 + 3 * s + k) = B6 u + (3 + 3 * NN s + NN k) := by
  obtain ⟨A, hA, e⟩ := at_nI ha
  obtain ⟨i, hi, rfl⟩ := vi_of hs
  obtain ⟨j, hj, rfl⟩ := vi_of hk
  rw [B6, e, nlit 3, pk_mul, nI_add, nI_add, nI_add, NN_nI (by omega), NN_nI (by omega), NN_nI (by omega), NN_nI (by omega)]
  exact ⟨vi_nI (by omega), by omega⟩
theorem ix_mn {u : MM} {s k : Int32} (ha : atOk u) (hs : vp_in s 10) (hk : vp_in k 7) : vp_in (u.1 1000 + 21 + 7 * s + k) 182 ∧ 1100 + NN (u.1 1000 + 21 + 7 * s + k) = B6 u + (21 + 7 * NN s + NN k) := by
  obtain ⟨A, hA, e⟩ := at_nI ha
  obtain ⟨i, hi, rfl⟩ := vi_of hs
  obtain ⟨j, hj, rfl⟩ := vi_of hk
  rw [B6, e, nlit 21, nlit 7, pk_mul, nI_add, nI_add, nI_add, NN_nI (by omega), NN_nI (by omega), NN_nI (by omega), NN_nI (by omega)]
  exact ⟨vi_nI (by omega), by omega⟩
theorem vX6_its (w : WW) : VX6_its w := by
  intro a u h
  simp only [eX6_its_0, eX6_its_1, eX6_its_4, eX6_its_5, eX6_its_8, eX6_its_9, eX6_its_10, eX6_its_11, ok_m0, rf_m0, ok_m1, ix_m1, ai_mr0, rd_mr0, true_and, and_true]
  obtain ⟨h1, h2⟩ := ix_its h.1 h.2
  exact ⟨h1, by rw [h2]; rfl⟩
set_option maxRecDepth 20000 in
theorem KX6_its_ok (w : WW) : KOk w MX6_its (KX6_its w) := KOk_mk flX6_ok ciX6_ok clX6_ok (fun _ _ h => by cases h) (fun _ _ h => by cases h) (List.forall_mem_nil _)
theorem ctX6_its (w : WW) : CT w yX6_its MX6_its (csX6_its w).2.1 (csX6_its w).2.2 := by
  refine CT_of (by decide) rfl TX6_its_ok TX6_its_v (KX6_its_ok w) (fun as u h => ?_)
  obtain ⟨a0, a1, rfl, h⟩ := sgRI h
  obtain ⟨rfl, hh⟩ := h
  refine ⟨Nat.le_of_ble_eq_true rfl, ?_⟩
  have key := vX6_its w a1 u hh
  exact key
theorem prX6_its (w : WW) : ∀ as u, (csX6_its w).2.1 as u → ∃ a r, as = .ref a :: r ∧ r.length = 1 ∧ okO w a 6 := by
  intro as u h
  obtain ⟨a0, a1, rfl, h⟩ := sgRI h
  exact ⟨_, _, rfl, rfl, okO_m h⟩
theorem vX6_chair (w : WW) : VX6_chair w := by
  intro a b u h
  simp only [eX6_chair_0, eX6_chair_1, eX6_chair_4, eX6_chair_5, eX6_chair_8, eX6_chair_9, eX6_chair_10, eX6_chair_11, eX6_chair_12, eX6_chair_13, eX6_chair_14, eX6_chair_15, eX6_chair_16, eX6_chair_17, ok_m0, rf_m0, ok_m1, ix_m1, ai_mr0, rd_mr0, true_and, and_true]
  obtain ⟨h1, h2⟩ := ix_ch h.1 h.2.1 h.2.2
  exact ⟨h1, by rw [h2]; rfl⟩
set_option maxRecDepth 20000 in
theorem KX6_chair_ok (w : WW) : KOk w MX6_chair (KX6_chair w) := KOk_mk flX6_ok ciX6_ok clX6_ok (fun _ _ h => by cases h) (fun _ _ h => by cases h) (List.forall_mem_nil _)
theorem ctX6_chair (w : WW) : CT w yX6_chair MX6_chair (csX6_chair w).2.1 (csX6_chair w).2.2 := by
  refine CT_of (by decide) rfl TX6_chair_ok TX6_chair_v (KX6_chair_ok w) (fun as u h => ?_)
  obtain ⟨a0, a1, a2, rfl, h⟩ := sgRII h
  obtain ⟨rfl, hh⟩ := h
  refine ⟨Nat.le_of_ble_eq_true rfl, ?_⟩
  have key := vX6_chair w a1 a2 u hh
  exact key
theorem prX6_chair (w : WW) : ∀ as u, (csX6_chair w).2.1 as u → ∃ a r, as = .ref a :: r ∧ r.length = 2 ∧ okO w a 6 := by
  intro as u h
  obtain ⟨a0, a1, a2, rfl, h⟩ := sgRII h
  exact ⟨_, _, rfl, rfl, okO_m h⟩
theorem vX6_setsChair (w : WW) : VX6_setsChair w := by
  intro a b v u h
  simp only [eX6_setsChair_0, eX6_setsChair_1, eX6_setsChair_4, eX6_setsChair_5, eX6_setsChair_8, eX6_setsChair_9, eX6_setsChair_10, eX6_setsChair_11, eX6_setsChair_12, eX6_setsChair_13, eX6_setsChair_14, eX6_setsChair_15, eX6_setsChair_16, eX6_setsChair_17, eX6_setsChair_18, ok_m0, rf_m0, ok_m1, ix_m1, as_mr0, xa_mr0, true_and, and_true]
  obtain ⟨h1, h2⟩ := ix_ch h.1 h.2.1 h.2.2
  exact ⟨h1, by rw [h2, uI_vw]; rfl⟩
set_option maxRecDepth 20000 in
theorem KX6_setsChair_ok (w : WW) : KOk w MX6_setsChair (KX6_setsChair w) := KOk_mk flX6_ok ciX6_ok clX6_ok (fun _ _ h => by cases h) (fun _ _ h => by cases h) (List.forall_mem_nil _)
theorem ctX6_setsChair (w : WW) : CT w yX6_setsChair MX6_setsChair (csX6_setsChair w).2.1 (csX6_setsChair w).2.2 := by
  refine CT_of (by decide) rfl TX6_setsChair_ok TX6_setsChair_v (KX6_setsChair_ok w) (fun as u h => ?_)
  obtain ⟨a0, a1, a2, a3, rfl, h⟩ := sgRIII h
  obtain ⟨rfl, hh⟩ := h
  refine ⟨Nat.le_of_ble_eq_true rfl, ?_⟩
  have key := vX6_setsChair w a1 a2 a3 u hh
  exact key
theorem prX6_setsChair (w : WW) : ∀ as u, (csX6_setsChair w).2.1 as u → ∃ a r, as = .ref a :: r ∧ r.length = 3 ∧ okO w a 6 := by
  intro as u h
  obtain ⟨a0, a1, a2, a3, rfl, h⟩ := sgRIII h
  exact ⟨_, _, rfl, rfl, okO_m h⟩
theorem vX6_man (w : WW) : VX6_man w := by
  intro a b u h
  simp only [eX6_man_0, eX6_man_1, eX6_man_4, eX6_man_5, eX6_man_8, eX6_man_10, eX6_man_11, eX6_man_13, eX6_man_14, eX6_man_15, eX6_man_16, eX6_man_17, eX6_man_18, eX6_man_19, ok_m0, rf_m0, ok_m1, ix_m1, ai_mr0, rd_mr0, true_and, and_true]
  obtain ⟨h1, h2⟩ := ix_mn h.1 h.2.1 h.2.2
  exact ⟨h1, by rw [h2]; rfl⟩
set_option maxRecDepth 20000 in
theorem KX6_man_ok (w : WW) : KOk w MX6_man (KX6_man w) := KOk_mk flX6_ok ciX6_ok clX6_ok (fun _ _ h => by cases h) (fun _ _ h => by cases h) (List.forall_mem_nil _)
theorem ctX6_man (w : WW) : CT w yX6_man MX6_man (csX6_man w).2.1 (csX6_man w).2.2 := by
  refine CT_of (by decide) rfl TX6_man_ok TX6_man_v (KX6_man_ok w) (fun as u h => ?_)
  obtain ⟨a0, a1, a2, rfl, h⟩ := sgRII h
  obtain ⟨rfl, hh⟩ := h
  refine ⟨Nat.le_of_ble_eq_true rfl, ?_⟩
  have key := vX6_man w a1 a2 u hh
  exact key
theorem prX6_man (w : WW) : ∀ as u, (csX6_man w).2.1 as u → ∃ a r, as = .ref a :: r ∧ r.length = 2 ∧ okO w a 6 := by
  intro as u h
  obtain ⟨a0, a1, a2, rfl, h⟩ := sgRII h
  exact ⟨_, _, rfl, rfl, okO_m h⟩
theorem vX6_sets (w : WW) : VX6_sets w := by
  intro a b v u h
  simp only [eX6_sets_0, eX6_sets_1, eX6_sets_4, eX6_sets_5, eX6_sets_8, eX6_sets_10, eX6_sets_11, eX6_sets_13, eX6_sets_14, eX6_sets_15, eX6_sets_16, eX6_sets_17, eX6_sets_18, eX6_sets_19, eX6_sets_20, ok_m0, rf_m0, ok_m1, ix_m1, as_mr0, xa_mr0, true_and, and_true]
  obtain ⟨h1, h2⟩ := ix_mn h.1 h.2.1 h.2.2
  exact ⟨h1, by rw [h2, uI_vw]; rfl⟩
set_option maxRecDepth 20000 in
theorem KX6_sets_ok (w : WW) : KOk w MX6_sets (KX6_sets w) := KOk_mk flX6_ok ciX6_ok clX6_ok (fun _ _ h => by cases h) (fun _ _ h => by cases h) (List.forall_mem_nil _)
theorem ctX6_sets (w : WW) : CT w yX6_sets MX6_sets (csX6_sets w).2.1 (csX6_sets w).2.2 := by
  refine CT_of (by decide) rfl TX6_sets_ok TX6_sets_v (KX6_sets_ok w) (fun as u h => ?_)
  obtain ⟨a0, a1, a2, a3, rfl, h⟩ := sgRIII h
  obtain ⟨rfl, hh⟩ := h
  refine ⟨Nat.le_of_ble_eq_true rfl, ?_⟩
  have key := vX6_sets w a1 a2 a3 u hh
  exact key
theorem prX6_sets (w : WW) : ∀ as u, (csX6_sets w).2.1 as u → ∃ a r, as = .ref a :: r ∧ r.length = 3 ∧ okO w a 6 := by
  intro as u h
  obtain ⟨a0, a1, a2, a3, rfl, h⟩ := sgRIII h
  exact ⟨_, _, rfl, rfl, okO_m h⟩
theorem vX6_isSeat (w : WW) : VX6_isSeat w := by
  intro a u h
  simp only [eX6_isSeat_0, eX6_isSeat_1, eX6_isSeat_2, eX6_isSeat_3, eX6_isSeat_4, eX6_isSeat_7, eX6_isSeat_8, eX6_isSeat_9, eX6_isSeat_12, nb_bi, rX6_in, true_and, and_true]
  exact ⟨⟨h, v3_1⟩, trivial, rfl⟩
theorem wcX6_46 : ∀ x ∈ wV1 RX6 46 yX6_its MX6_its, x ∈ Gt := by decide +kernel
theorem nmX6_its : nmOk yX6_its 1 = true := by decide +kernel
theorem wcX6_65586 : ∀ x ∈ wS1 RX6 50 yX6_in MX6_in, x ∈ Gt := by decide +kernel
theorem nmX6_in : nmOk yX6_in 3 = true := by decide +kernel
set_option maxRecDepth 20000 in
theorem KX6_isSeat_ok (w : WW) : KOk w MX6_isSeat (KX6_isSeat w) := KOk_mk flX6_ok ciX6_ok clX6_ok (fun _ _ h => by cases h) (fun _ _ h => by cases h) (List.forall_mem_cons.mpr ⟨itV (n := 46) (by decide) (COk_V (n := 1) (ci := 6) (ctX6_its w) wcX6_46 nmX6_its (by decide) (by decide) rfl (prX6_its w)), List.forall_mem_cons.mpr ⟨itS (n := 50) (COk_S (n := 3) (ctX6_in w) wcX6_65586 nmX6_in (by decide)), List.forall_mem_nil _⟩⟩)
theorem ctX6_isSeat (w : WW) : CT w yX6_isSeat MX6_isSeat (csX6_isSeat w).2.1 (csX6_isSeat w).2.2 := by
  refine CT_of (by decide) rfl TX6_isSeat_ok TX6_isSeat_v (KX6_isSeat_ok w) (fun as u h => ?_)
  obtain ⟨a0, a1, rfl, h⟩ := sgRI h
  obtain ⟨rfl, hh⟩ := h
  refine ⟨Nat.le_of_ble_eq_true rfl, ?_⟩
  have key := vX6_isSeat w a1 u hh
  exact key
theorem prX6_isSeat (w : WW) : ∀ as u, (csX6_isSeat w).2.1 as u → ∃ a r, as = .ref a :: r ∧ r.length = 1 ∧ okO w a 6 := by
  intro as u h
  obtain ⟨a0, a1, rfl, h⟩ := sgRI h
  exact ⟨_, _, rfl, rfl, okO_m h⟩
theorem vX6_isOne (w : WW) : VX6_isOne w := by
  intro a u h
  simp only [eX6_isOne_0, eX6_isOne_1, eX6_isOne_2, eX6_isOne_3, eX6_isOne_4, eX6_isOne_7, eX6_isOne_8, eX6_isOne_9, eX6_isOne_12, nb_bi, rX6_in, true_and, and_true]
  exact ⟨⟨h, v3_2⟩, trivial, rfl⟩
set_option maxRecDepth 20000 in
theorem KX6_isOne_ok (w : WW) : KOk w MX6_isOne (KX6_isOne w) := KOk_mk flX6_ok ciX6_ok clX6_ok (fun _ _ h => by cases h) (fun _ _ h => by cases h) (List.forall_mem_cons.mpr ⟨itV (n := 46) (by decide) (COk_V (n := 1) (ci := 6) (ctX6_its w) wcX6_46 nmX6_its (by decide) (by decide) rfl (prX6_its w)), List.forall_mem_cons.mpr ⟨itS (n := 50) (COk_S (n := 3) (ctX6_in w) wcX6_65586 nmX6_in (by decide)), List.forall_mem_nil _⟩⟩)
theorem ctX6_isOne (w : WW) : CT w yX6_isOne MX6_isOne (csX6_isOne w).2.1 (csX6_isOne w).2.2 := by
  refine CT_of (by decide) rfl TX6_isOne_ok TX6_isOne_v (KX6_isOne_ok w) (fun as u h => ?_)
  obtain ⟨a0, a1, rfl, h⟩ := sgRI h
  obtain ⟨rfl, hh⟩ := h
  refine ⟨Nat.le_of_ble_eq_true rfl, ?_⟩
  have key := vX6_isOne w a1 u hh
  exact key
theorem prX6_isOne (w : WW) : ∀ as u, (csX6_isOne w).2.1 as u → ∃ a r, as = .ref a :: r ∧ r.length = 1 ∧ okO w a 6 := by
  intro as u h
  obtain ⟨a0, a1, rfl, h⟩ := sgRI h
  exact ⟨_, _, rfl, rfl, okO_m h⟩
theorem vX6_isSpot (w : WW) : VX6_isSpot w := by
  intro a u h
  simp only [eX6_isSpot_0, eX6_isSpot_1, eX6_isSpot_2, eX6_isSpot_4, eX6_isSpot_7, nb_bi, rX6_in, true_and, and_true]
  exact ⟨trivial, rfl⟩
set_option maxRecDepth 20000 in
theorem KX6_isSpot_ok (w : WW) : KOk w MX6_isSpot (KX6_isSpot w) := KOk_mk flX6_ok ciX6_ok clX6_ok (fun _ _ h => by cases h) (fun _ _ h => by cases h) (List.forall_mem_cons.mpr ⟨itS (n := 50) (COk_S (n := 3) (ctX6_in w) wcX6_65586 nmX6_in (by decide)), List.forall_mem_nil _⟩)
theorem ctX6_isSpot (w : WW) : CT w yX6_isSpot MX6_isSpot (csX6_isSpot w).2.1 (csX6_isSpot w).2.2 := by
  refine CT_of (by decide) rfl TX6_isSpot_ok TX6_isSpot_v (KX6_isSpot_ok w) (fun as u h => ?_)
  obtain ⟨a0, rfl, h⟩ := sgI h
  have hh := h
  refine ⟨Nat.le_of_ble_eq_true rfl, ?_⟩
  have key := vX6_isSpot w a0 u hh
  exact key
theorem vX6_isKind (w : WW) : VX6_isKind w := by
  intro a u h
  simp only [eX6_isKind_0, eX6_isKind_1, eX6_isKind_2, eX6_isKind_3, eX6_isKind_6, nb_bi, rX6_in, true_and, and_true]
  exact ⟨trivial, rfl⟩
set_option maxRecDepth 20000 in
theorem KX6_isKind_ok (w : WW) : KOk w MX6_isKind (KX6_isKind w) := KOk_mk flX6_ok ciX6_ok clX6_ok (fun _ _ h => by cases h) (fun _ _ h => by cases h) (List.forall_mem_cons.mpr ⟨itS (n := 50) (COk_S (n := 3) (ctX6_in w) wcX6_65586 nmX6_in (by decide)), List.forall_mem_nil _⟩)
theorem ctX6_isKind (w : WW) : CT w yX6_isKind MX6_isKind (csX6_isKind w).2.1 (csX6_isKind w).2.2 := by
  refine CT_of (by decide) rfl TX6_isKind_ok TX6_isKind_v (KX6_isKind_ok w) (fun as u h => ?_)
  obtain ⟨a0, rfl, h⟩ := sgI h
  have hh := h
  refine ⟨Nat.le_of_ble_eq_true rfl, ?_⟩
  have key := vX6_isKind w a0 u hh
  exact key
theorem vX6_isTold (w : WW) : VX6_isTold w := by
  intro a u h
  simp only [eX6_isTold_0, eX6_isTold_1, eX6_isTold_2, eX6_isTold_4, eX6_isTold_7, nb_bi, rX6_in, true_and, and_true]
  exact ⟨trivial, rfl⟩
set_option maxRecDepth 20000 in
theorem KX6_isTold_ok (w : WW) : KOk w MX6_isTold (KX6_isTold w) := KOk_mk flX6_ok ciX6_ok clX6_ok (fun _ _ h => by cases h) (fun _ _ h => by cases h) (List.forall_mem_cons.mpr ⟨itS (n := 50) (COk_S (n := 3) (ctX6_in w) wcX6_65586 nmX6_in (by decide)), List.forall_mem_nil _⟩)
theorem ctX6_isTold (w : WW) : CT w yX6_isTold MX6_isTold (csX6_isTold w).2.1 (csX6_isTold w).2.2 := by
  refine CT_of (by decide) rfl TX6_isTold_ok TX6_isTold_v (KX6_isTold_ok w) (fun as u h => ?_)
  obtain ⟨a0, rfl, h⟩ := sgI h
  have hh := h
  refine ⟨Nat.le_of_ble_eq_true rfl, ?_⟩
  have key := vX6_isTold w a0 u hh
  exact key
theorem pm {c : Int32} {u : MM} (h : pOne c u) {k : Int32} (hk : vp_in k 7) : pX6_man c k u := ⟨h.1, h.2, hk⟩
theorem man0 (c : Int32) (u : MM) : rX6_man c 0 u = on (RW u) (NN c) 0 := rfl
theorem man1 (c : Int32) (u : MM) : rX6_man c 1 u = on (RW u) (NN c) 1 := rfl
theorem man2 (c : Int32) (u : MM) : rX6_man c 2 u = on (RW u) (NN c) 2 := rfl
theorem man3 (c : Int32) (u : MM) : rX6_man c 3 u = on (RW u) (NN c) 3 := rfl
theorem man4 (c : Int32) (u : MM) : rX6_man c 4 u = on (RW u) (NN c) 4 := rfl
theorem man5 (c : Int32) (u : MM) : rX6_man c 5 u = on (RW u) (NN c) 5 := rfl
theorem man6 (c : Int32) (u : MM) : rX6_man c 6 u = on (RW u) (NN c) 6 := rfl
theorem ch0 (s : Int32) (u : MM) : rX6_chair s 0 u = se (RW u) (NN s) 0 := rfl
theorem ch1 (s : Int32) (u : MM) : rX6_chair s 1 u = se (RW u) (NN s) 1 := rfl
theorem ch2 (s : Int32) (u : MM) : rX6_chair s 2 u = se (RW u) (NN s) 2 := rfl
theorem its0 (u : MM) : rX6_its 0 u = RW u 0 := rfl
theorem its1 (u : MM) : rX6_its 1 u = RW u 1 := rfl
theorem its2 (u : MM) : rX6_its 2 u = RW u 2 := rfl
theorem vX6_stands (w : WW) : VX6_stands w := by
  intro a u h
  simp only [eX6_stands_0, eX6_stands_1, eX6_stands_2, eX6_stands_3, eX6_stands_6, eX6_stands_9, eX6_stands_10, eX6_stands_13, eX6_stands_14, nb_0, nb_1, true_and, and_true, Option.some.injEq, Value.int.injEq, rX6_stands, man5]
  exact ⟨pm h v7_5, fun q => (bi_f (Int32.not_lt.mpr q)).symm, fun q => (bi_t (Int32.not_le.mp q)).symm⟩
theorem wcX6_54 : ∀ x ∈ wV1 RX6 54 yX6_man MX6_man, x ∈ Gt := by decide +kernel
theorem nmX6_man : nmOk yX6_man 2 = true := by decide +kernel
set_option maxRecDepth 20000 in
theorem KX6_stands_ok (w : WW) : KOk w MX6_stands (KX6_stands w) := KOk_mk flX6_ok ciX6_ok clX6_ok (fun _ _ h => by cases h) (fun _ _ h => by cases h) (List.forall_mem_cons.mpr ⟨itV (n := 54) (by decide) (COk_V (n := 2) (ci := 6) (ctX6_man w) wcX6_54 nmX6_man (by decide) (by decide) rfl (prX6_man w)), List.forall_mem_nil _⟩)
theorem ctX6_stands (w : WW) : CT w yX6_stands MX6_stands (csX6_stands w).2.1 (csX6_stands w).2.2 := by
  refine CT_of (by decide) rfl TX6_stands_ok TX6_stands_v (KX6_stands_ok w) (fun as u h => ?_)
  obtain ⟨a0, a1, rfl, h⟩ := sgRI h
  obtain ⟨rfl, hh⟩ := h
  refine ⟨Nat.le_of_ble_eq_true rfl, ?_⟩
  have key := vX6_stands w a1 u hh
  exact key
theorem prX6_stands (w : WW) : ∀ as u, (csX6_stands w).2.1 as u → ∃ a r, as = .ref a :: r ∧ r.length = 1 ∧ okO w a 6 := by
  intro as u h
  obtain ⟨a0, a1, rfl, h⟩ := sgRI h
  exact ⟨_, _, rfl, rfl, okO_m h⟩
theorem vX6_isPage (w : WW) : VX6_isPage w := by
  intro a u h
  simp only [eX6_isPage_0, eX6_isPage_1, eX6_isPage_2, eX6_isPage_3, eX6_isPage_6, eX6_isPage_7, eX6_isPage_10, eX6_isPage_11, eX6_isPage_14, eX6_isPage_15, nb_0, nb_1, true_and, and_true, Option.some.injEq, Value.int.injEq, rX6_isPage, man0]
  exact ⟨pm h v7_0, fun q => (bi_f q).symm, fun q => (bi_t (Classical.not_not.mp q)).symm⟩
set_option maxRecDepth 20000 in
theorem KX6_isPage_ok (w : WW) : KOk w MX6_isPage (KX6_isPage w) := KOk_mk flX6_ok ciX6_ok clX6_ok (fun _ _ h => by cases h) (fun _ _ h => by cases h) (List.forall_mem_cons.mpr ⟨itV (n := 54) (by decide) (COk_V (n := 2) (ci := 6) (ctX6_man w) wcX6_54 nmX6_man (by decide) (by decide) rfl (prX6_man w)), List.forall_mem_nil _⟩)
theorem ctX6_isPage (w : WW) : CT w yX6_isPage MX6_isPage (csX6_isPage w).2.1 (csX6_isPage w).2.2 := by
  refine CT_of (by decide) rfl TX6_isPage_ok TX6_isPage_v (KX6_isPage_ok w) (fun as u h => ?_)
  obtain ⟨a0, a1, rfl, h⟩ := sgRI h
  obtain ⟨rfl, hh⟩ := h
  refine ⟨Nat.le_of_ble_eq_true rfl, ?_⟩
  have key := vX6_isPage w a1 u hh
  exact key
theorem prX6_isPage (w : WW) : ∀ as u, (csX6_isPage w).2.1 as u → ∃ a r, as = .ref a :: r ∧ r.length = 1 ∧ okO w a 6 := by
  intro as u h
  obtain ⟨a0, a1, rfl, h⟩ := sgRI h
  exact ⟨_, _, rfl, rfl, okO_m h⟩
theorem vX6_leans (w : WW) : VX6_leans w := by
  intro a u h
  simp only [eX6_leans_0, eX6_leans_1, eX6_leans_2, eX6_leans_3, eX6_leans_6, eX6_leans_7, eX6_leans_8, eX6_leans_9, eX6_leans_10, eX6_leans_13, eX6_leans_48, eX6_leans_49, eX6_leans_51, eX6_leans_52, eX6_leans_53, eX6_leans_54, eX6_leans_55, eX6_leans_56, eX6_leans_57, eX6_leans_58, eX6_leans_59, eX6_leans_60, eX6_leans_62, eX6_leans_63, eX6_leans_64, eX6_leans_65, kl_i, kl_r, kl_n, true_and, and_true, Option.some.injEq, Value.int.injEq, rX6_leans, man0, man2]
  refine ⟨pm h v7_2, pm h v7_0, ?_⟩
  generalize on (RW u) (NN a) 0 = k
  generalize on (RW u) (NN a) 2 = t
  unfold lean
  grind
set_option maxRecDepth 20000 in
theorem KX6_leans_ok (w : WW) : KOk w MX6_leans (KX6_leans w) := KOk_mk flX6_ok ciX6_ok clX6_ok (fun _ _ h => by cases h) (fun _ _ h => by cases h) (List.forall_mem_cons.mpr ⟨itV (n := 54) (by decide) (COk_V (n := 2) (ci := 6) (ctX6_man w) wcX6_54 nmX6_man (by decide) (by decide) rfl (prX6_man w)), List.forall_mem_nil _⟩)
theorem ctX6_leans (w : WW) : CT w yX6_leans MX6_leans (csX6_leans w).2.1 (csX6_leans w).2.2 := by
  refine CT_of (by decide) rfl TX6_leans_ok TX6_leans_v (KX6_leans_ok w) (fun as u h => ?_)
  obtain ⟨a0, a1, rfl, h⟩ := sgRI h
  obtain ⟨rfl, hh⟩ := h
  refine ⟨Nat.le_of_ble_eq_true rfl, ?_⟩
  have key := vX6_leans w a1 u hh
  exact key
theorem prX6_leans (w : WW) : ∀ as u, (csX6_leans w).2.1 as u → ∃ a r, as = .ref a :: r ∧ r.length = 1 ∧ okO w a 6 := by
  intro as u h
  obtain ⟨a0, a1, rfl, h⟩ := sgRI h
  exact ⟨_, _, rfl, rfl, okO_m h⟩
theorem vX6_stays (w : WW) : VX6_stays w := by
  intro a u h
  simp only [eX6_stays_0, eX6_stays_1, eX6_stays_2, eX6_stays_3, eX6_stays_6, eX6_stays_40, eX6_stays_42, eX6_stays_43, eX6_stays_45, eX6_stays_46, eX6_stays_47, eX6_stays_48, eX6_stays_50, kl_i, kl_r, kl_n, true_and, and_true, Option.some.injEq, Value.int.injEq, rX6_stays, man0]
  refine ⟨pm h v7_0, ?_⟩
  generalize on (RW u) (NN a) 0 = k
  unfold stay
  grind
set_option maxRecDepth 20000 in
theorem KX6_stays_ok (w : WW) : KOk w MX6_stays (KX6_stays w) := KOk_mk flX6_ok ciX6_ok clX6_ok (fun _ _ h => by cases h) (fun _ _ h => by cases h) (List.forall_mem_cons.mpr ⟨itV (n := 54) (by decide) (COk_V (n := 2) (ci := 6) (ctX6_man w) wcX6_54 nmX6_man (by decide) (by decide) rfl (prX6_man w)), List.forall_mem_nil _⟩)
theorem ctX6_stays (w : WW) : CT w yX6_stays MX6_stays (csX6_stays w).2.1 (csX6_stays w).2.2 := by
  refine CT_of (by decide) rfl TX6_stays_ok TX6_stays_v (KX6_stays_ok w) (fun as u h => ?_)
  obtain ⟨a0, a1, rfl, h⟩ := sgRI h
  obtain ⟨rfl, hh⟩ := h
  refine ⟨Nat.le_of_ble_eq_true rfl, ?_⟩
  have key := vX6_stays w a1 u hh
  exact key
theorem prX6_stays (w : WW) : ∀ as u, (csX6_stays w).2.1 as u → ∃ a r, as = .ref a :: r ∧ r.length = 1 ∧ okO w a 6 := by
  intro as u h
  obtain ⟨a0, a1, rfl, h⟩ := sgRI h
  exact ⟨_, _, rfl, rfl, okO_m h⟩
theorem vX6_goes (w : WW) : VX6_goes w := by
  intro a u h
  simp only [eX6_goes_0, eX6_goes_1, eX6_goes_2, eX6_goes_3, eX6_goes_6, eX6_goes_40, eX6_goes_41, eX6_goes_42, eX6_goes_45, eX6_goes_46, eX6_goes_47, eX6_goes_50, eX6_goes_51, eX6_goes_54, eX6_goes_55, eX6_goes_56, eX6_goes_57, eX6_goes_58, eX6_goes_59, eX6_goes_60, eX6_goes_63, eX6_goes_64, eX6_goes_65, eX6_goes_68, eX6_goes_69, eX6_goes_72, eX6_goes_73, eX6_goes_74, eX6_goes_75, kl_i, kl_r, kl_n, true_and, and_true, Option.some.injEq, Value.int.injEq, rX6_goes, man0, its0]
  refine ⟨pm h v7_0, ?_⟩
  have hi : pX6_its 0 u := ⟨h.1, v3_0⟩
  have h2 : ¬ (2 : Int32) = 0 := by decide
  have h3 : ¬ (3 : Int32) = 0 := by decide
  simp only [hi, h2, h3, not_false_eq_true, true_and]
  unfold goe rem32
  generalize on (RW u) (NN a) 0 = k
  generalize RW u 0 = t
  generalize t - t / 2 * 2 = t2
  generalize t - t / 3 * 3 = t3
  grind
set_option maxRecDepth 20000 in
theorem KX6_goes_ok (w : WW) : KOk w MX6_goes (KX6_goes w) := KOk_mk flX6_ok ciX6_ok clX6_ok (fun _ _ h => by cases h) (fun _ _ h => by cases h) (List.forall_mem_cons.mpr ⟨itV (n := 46) (by decide) (COk_V (n := 1) (ci := 6) (ctX6_its w) wcX6_46 nmX6_its (by decide) (by decide) rfl (prX6_its w)), List.forall_mem_cons.mpr ⟨itV (n := 54) (by decide) (COk_V (n := 2) (ci := 6) (ctX6_man w) wcX6_54 nmX6_man (by decide) (by decide) rfl (prX6_man w)), List.forall_mem_nil _⟩⟩)
theorem ctX6_goes (w : WW) : CT w yX6_goes MX6_goes (csX6_goes w).2.1 (csX6_goes w).2.2 := by
  refine CT_of (by decide) rfl TX6_goes_ok TX6_goes_v (KX6_goes_ok w) (fun as u h => ?_)
  obtain ⟨a0, a1, rfl, h⟩ := sgRI h
  obtain ⟨rfl, hh⟩ := h
  refine ⟨Nat.le_of_ble_eq_true rfl, ?_⟩
  have key := vX6_goes w a1 u hh
  exact key
theorem prX6_goes (w : WW) : ∀ as u, (csX6_goes w).2.1 as u → ∃ a r, as = .ref a :: r ∧ r.length = 1 ∧ okO w a 6 := by
  intro as u h
  obtain ⟨a0, a1, rfl, h⟩ := sgRI h
  exact ⟨_, _, rfl, rfl, okO_m h⟩
theorem vX6_apart (w : WW) : VX6_apart w := by
  intro a b u h
  simp only [eX6_apart_0, eX6_apart_1, eX6_apart_2, eX6_apart_5, eX6_apart_6, eX6_apart_7, eX6_apart_8, eX6_apart_11, eX6_apart_12, eX6_apart_13, eX6_apart_14, true_and, and_true, Option.some.injEq, Value.int.injEq, rX6_apart]
  exact ⟨fun q => (if_neg (Int32.not_lt.mpr q)).symm, fun q => (if_pos (Int32.not_le.mp q)).symm⟩
set_option maxRecDepth 20000 in
theorem KX6_apart_ok (w : WW) : KOk w MX6_apart (KX6_apart w) := KOk_mk flX6_ok ciX6_ok clX6_ok (fun _ _ h => by cases h) (fun _ _ h => by cases h) (List.forall_mem_nil _)
theorem ctX6_apart (w : WW) : CT w yX6_apart MX6_apart (csX6_apart w).2.1 (csX6_apart w).2.2 := by
  refine CT_of (by decide) rfl TX6_apart_ok TX6_apart_v (KX6_apart_ok w) (fun as u h => ?_)
  obtain ⟨a0, a1, rfl, h⟩ := sgII h
  have hh := h
  refine ⟨Nat.le_of_ble_eq_true rfl, ?_⟩
  have key := vX6_apart w a0 a1 u hh
  exact key
theorem vX6_farOf (w : WW) : VX6_farOf w := by
  intro a b u h
  simp only [eX6_farOf_0, eX6_farOf_1, eX6_farOf_2, eX6_farOf_3, eX6_farOf_6, eX6_farOf_8, eX6_farOf_9, eX6_farOf_10, eX6_farOf_12, eX6_farOf_13, eX6_farOf_14, eX6_farOf_15, eX6_farOf_16, eX6_farOf_17, eX6_farOf_18, eX6_farOf_21, eX6_farOf_23, eX6_farOf_24, eX6_farOf_25, eX6_farOf_27, eX6_farOf_28, eX6_farOf_29, eX6_farOf_31, eX6_farOf_33, eX6_farOf_34, eX6_farOf_35, eX6_farOf_36, eX6_farOf_38, eX6_farOf_40, eX6_farOf_41, eX6_farOf_42, eX6_farOf_43, eX6_farOf_44, eX6_farOf_45, eX6_farOf_48, eX6_farOf_49, kl_i, kl_r, kl_n, true_and, and_true, man1]
  exact ⟨pm h v7_1, by decide, by decide, pm h v7_1, by decide, by decide, h, rfl⟩
theorem wcX6_58 : ∀ x ∈ wV1 RX6 58 yX6_leans MX6_leans, x ∈ Gt := by decide +kernel
theorem nmX6_leans : nmOk yX6_leans 1 = true := by decide +kernel
set_option maxRecDepth 20000 in
theorem KX6_farOf_ok (w : WW) : KOk w MX6_farOf (KX6_farOf w) := KOk_mk flX6_ok ciX6_ok clX6_ok (fun _ _ h => by cases h) (fun _ _ h => by cases h) (List.forall_mem_cons.mpr ⟨itV (n := 54) (by decide) (COk_V (n := 2) (ci := 6) (ctX6_man w) wcX6_54 nmX6_man (by decide) (by decide) rfl (prX6_man w)), List.forall_mem_cons.mpr ⟨itV (n := 58) (by decide) (COk_V (n := 1) (ci := 6) (ctX6_leans w) wcX6_58 nmX6_leans (by decide) (by decide) rfl (prX6_leans w)), List.forall_mem_nil _⟩⟩)
theorem ctX6_farOf (w : WW) : CT w yX6_farOf MX6_farOf (csX6_farOf w).2.1 (csX6_farOf w).2.2 := by
  refine CT_of (by decide) rfl TX6_farOf_ok TX6_farOf_v (KX6_farOf_ok w) (fun as u h => ?_)
  obtain ⟨a0, a1, a2, rfl, h⟩ := sgRII h
  obtain ⟨rfl, hh⟩ := h
  refine ⟨Nat.le_of_ble_eq_true rfl, ?_⟩
  have key := vX6_farOf w a1 a2 u hh
  exact key
theorem prX6_farOf (w : WW) : ∀ as u, (csX6_farOf w).2.1 as u → ∃ a r, as = .ref a :: r ∧ r.length = 2 ∧ okO w a 6 := by
  intro as u h
  obtain ⟨a0, a1, a2, rfl, h⟩ := sgRII h
  exact ⟨_, _, rfl, rfl, okO_m h⟩
theorem vX6_isAhead (w : WW) : VX6_isAhead w := by
  intro a b p u h
  simp only [eX6_isAhead_0, eX6_isAhead_1, eX6_isAhead_2, eX6_isAhead_3, eX6_isAhead_6, eX6_isAhead_8, eX6_isAhead_9, eX6_isAhead_10, eX6_isAhead_11, eX6_isAhead_14, eX6_isAhead_16, eX6_isAhead_18, eX6_isAhead_20, eX6_isAhead_23, eX6_isAhead_25, eX6_isAhead_27, eX6_isAhead_30, eX6_isAhead_31, eX6_isAhead_32, eX6_isAhead_33, eX6_isAhead_36, eX6_isAhead_37, eX6_isAhead_38, eX6_isAhead_39, eX6_isAhead_42, eX6_isAhead_45, eX6_isAhead_46, eX6_isAhead_49, eX6_isAhead_50, kl_i, kl_r, kl_n, true_and, and_true, man2, nb_0, nb_1, rX6_farOf, rX6_isAhead, Option.some.injEq, Value.int.injEq]
  refine ⟨h.1, ⟨h.1.1, h.2⟩, fun q => (bi_t (Or.inl q)).symm, fun q => ⟨fun q2 => ?_, fun q2 => ⟨pm h.1 v7_2, ⟨h.1.1, h.2, v7_2⟩, fun q3 => ?_, fun q3 => ?_⟩⟩⟩
  · exact (bi_f (fun z => z.elim q (fun z => q2 z.1))).symm
  · exact (bi_f (fun z => z.elim q (fun z => absurd z.2 (Int32.not_lt.mpr q3)))).symm
  · exact (bi_t (Or.inr ⟨Classical.not_not.mp q2, Int32.not_le.mp q3⟩)).symm
theorem wcX6_61 : ∀ x ∈ wV1 RX6 61 yX6_farOf MX6_farOf, x ∈ Gt := by decide +kernel
theorem nmX6_farOf : nmOk yX6_farOf 2 = true := by decide +kernel
set_option maxRecDepth 20000 in
theorem KX6_isAhead_ok (w : WW) : KOk w MX6_isAhead (KX6_isAhead w) := KOk_mk flX6_ok ciX6_ok clX6_ok (fun _ _ h => by cases h) (fun _ _ h => by cases h) (List.forall_mem_cons.mpr ⟨itV (n := 54) (by decide) (COk_V (n := 2) (ci := 6) (ctX6_man w) wcX6_54 nmX6_man (by decide) (by decide) rfl (prX6_man w)), List.forall_mem_cons.mpr ⟨itV (n := 61) (by decide) (COk_V (n := 2) (ci := 6) (ctX6_farOf w) wcX6_61 nmX6_farOf (by decide) (by decide) rfl (prX6_farOf w)), List.forall_mem_nil _⟩⟩)
theorem ctX6_isAhead (w : WW) : CT w yX6_isAhead MX6_isAhead (csX6_isAhead w).2.1 (csX6_isAhead w).2.2 := by
  refine CT_of (by decide) rfl TX6_isAhead_ok TX6_isAhead_v (KX6_isAhead_ok w) (fun as u h => ?_)
  obtain ⟨a0, a1, a2, a3, rfl, h⟩ := sgRIII h
  obtain ⟨rfl, hh⟩ := h
  refine ⟨Nat.le_of_ble_eq_true rfl, ?_⟩
  have key := vX6_isAhead w a1 a2 a3 u hh
  exact key
theorem prX6_isAhead (w : WW) : ∀ as u, (csX6_isAhead w).2.1 as u → ∃ a r, as = .ref a :: r ∧ r.length = 3 ∧ okO w a 6 := by
  intro as u h
  obtain ⟨a0, a1, a2, a3, rfl, h⟩ := sgRIII h
  exact ⟨_, _, rfl, rfl, okO_m h⟩
theorem lX6_nextBut {w : WW} {s but : Int32} {u : MM} (h : pX6_nextBut s but u) {K : Nat} (hK : K ≤ 10) (eK : RW u 2 = nI K) {Q : Option Value → MM → Prop} (hQ : Q (some (.int (nx (RW u) (se (RW u) (NN s) 0) but K))) u) :
    ∀ (n i : Nat) (b : Int32) (j : Option Value), i + n = K → b = nx (RW u) (se (RW u) (NN s) 0) but i → GX6_nextBut w Q 5 [some (.ref (mA w)), some (.int s), some (.int but), some (.int b), some (.int (nI i)), j] [] u := by
  intro n
  induction n with
  | zero =>
    intro i b j hi hb
    have e : i = K := by omega
    subst e
    rw [eX6_nextBut_5]
    simp only [eX6_nextBut_0, eX6_nextBut_1, eX6_nextBut_2, eX6_nextBut_3, eX6_nextBut_7, eX6_nextBut_8, eX6_nextBut_9, eX6_nextBut_12, eX6_nextBut_15, eX6_nextBut_17, eX6_nextBut_18, eX6_nextBut_21, eX6_nextBut_22, eX6_nextBut_24, eX6_nextBut_27, eX6_nextBut_30, eX6_nextBut_31, eX6_nextBut_33, eX6_nextBut_36, eX6_nextBut_39, eX6_nextBut_40, eX6_nextBut_43, eX6_nextBut_44, eX6_nextBut_46, eX6_nextBut_48, eX6_nextBut_51, eX6_nextBut_52, eX6_nextBut_55, eX6_nextBut_56, eX6_nextBut_58, eX6_nextBut_59, eX6_nextBut_60, eX6_nextBut_61, eX6_nextBut_62, eX6_nextBut_65, eX6_nextBut_68, eX6_nextBut_71, eX6_nextBut_73, eX6_nextBut_76, eX6_nextBut_77, eX6_nextBut_78, eX6_nextBut_81, eX6_nextBut_84, eX6_nextBut_85, kl_i, kl_r, kl_n, true_and, and_true, its2, eK]
    subst hb
    exact ⟨⟨h.1, v3_2⟩, fun _ => hQ, fun z => absurd (nI_le (Nat.le_refl i) (by omega)) z⟩
  | succ n ih =>
    intro i b j hi hb
    rw [eX6_nextBut_5]
    have hNi : NN (nI i) = i := NN_nI (by omega)
    have hc : pOne (nI i) u := ⟨h.1, vi_nI (by omega)⟩
    simp only [eX6_nextBut_0, eX6_nextBut_1, eX6_nextBut_2, eX6_nextBut_3, eX6_nextBut_7, eX6_nextBut_8, eX6_nextBut_9, eX6_nextBut_12, eX6_nextBut_15, eX6_nextBut_17, eX6_nextBut_18, eX6_nextBut_21, eX6_nextBut_22, eX6_nextBut_24, eX6_nextBut_27, eX6_nextBut_30, eX6_nextBut_31, eX6_nextBut_33, eX6_nextBut_36, eX6_nextBut_39, eX6_nextBut_40, eX6_nextBut_43, eX6_nextBut_44, eX6_nextBut_46, eX6_nextBut_48, eX6_nextBut_51, eX6_nextBut_52, eX6_nextBut_55, eX6_nextBut_56, eX6_nextBut_58, eX6_nextBut_59, eX6_nextBut_60, eX6_nextBut_61, eX6_nextBut_62, eX6_nextBut_65, eX6_nextBut_68, eX6_nextBut_71, eX6_nextBut_73, eX6_nextBut_76, eX6_nextBut_77, eX6_nextBut_78, eX6_nextBut_81, eX6_nextBut_84, eX6_nextBut_85, kl_i, kl_r, kl_n, kl_l, true_and, and_true, true_implies, false_implies, not_true_eq_false, not_false_eq_true, i10, Classical.not_not, its2, eK, rX6_stands, rX6_isPage, rX6_isAhead, bi_0, ch0, hNi]
    have hlt : ¬ nI K ≤ nI i := nI_ge (by omega) (by omega)
    have hno : ¬ (mayP (RW u) but i ∧ (b < 0 ∨ ahead (RW u) i (NN b) (se (RW u) (NN s) 0))) → b = nx (RW u) (se (RW u) (NN s) 0) but (i + 1) := fun z => by
      simp only [nx]; rw [← hb, if_neg z]
    have hye : (mayP (RW u) but i ∧ (b < 0 ∨ ahead (RW u) i (NN b) (se (RW u) (NN s) 0))) → nI i = nx (RW u) (se (RW u) (NN s) 0) but (i + 1) := fun z => by
      simp only [nx]; rw [← hb, if_pos z]
    have go : ∀ (b' : Int32) (j : Option Value), b' = nx (RW u) (se (RW u) (NN s) 0) but (i + 1) → GX6_nextBut w Q 5 [some (.ref (mA w)), some (.int s), some (.int but), some (.int b'), some (.int (nI i + 1)), j] [] u := fun b' j hb' => by rw [nI_1]; exact ih (i + 1) b' j (by omega) hb'
    have hbr : ¬ b < 0 → vp_in b 10 := fun z => by
      rcases nx_rng (RW u) (se (RW u) (NN s) 0) but i with e | ⟨c, h1, h2⟩
      · rw [hb, e] at z; exact absurd (by decide) z
      · rw [hb, h2]; exact vi_nI (by omega)
    exact ⟨⟨h.1, v3_2⟩, fun z => absurd z hlt, fun _ => ⟨fun c1 => go _ _ (hno fun z => z.1.1 c1), fun c1 => ⟨hc, fun c2 => go _ _ (hno fun z => c2 z.1.2.1), fun c2 => ⟨hc, fun c3 => go _ _ (hno fun z => z.1.2.2 c3), fun c3 => ⟨fun c4 => go _ _ (hye ⟨⟨c1, c2, c3⟩, Or.inl c4⟩), fun c4 => ⟨⟨h.1, h.2.1, v3_0⟩, ⟨hc, hbr c4⟩, fun c5 => go _ _ (hno fun z => z.2.elim c4 c5), fun c5 => go _ _ (hye ⟨⟨c1, c2, c3⟩, Or.inr c5⟩)⟩⟩⟩⟩⟩⟩
theorem vX6_nextBut (w : WW) : VX6_nextBut w := by
  intro a b u h
  simp only [eX6_nextBut_0, eX6_nextBut_1, eX6_nextBut_2, eX6_nextBut_3, eX6_nextBut_7, eX6_nextBut_8, eX6_nextBut_9, eX6_nextBut_12, eX6_nextBut_15, eX6_nextBut_17, eX6_nextBut_18, eX6_nextBut_21, eX6_nextBut_22, eX6_nextBut_24, eX6_nextBut_27, eX6_nextBut_30, eX6_nextBut_31, eX6_nextBut_33, eX6_nextBut_36, eX6_nextBut_39, eX6_nextBut_40, eX6_nextBut_43, eX6_nextBut_44, eX6_nextBut_46, eX6_nextBut_48, eX6_nextBut_51, eX6_nextBut_52, eX6_nextBut_55, eX6_nextBut_56, eX6_nextBut_58, eX6_nextBut_59, eX6_nextBut_60, eX6_nextBut_61, eX6_nextBut_62, eX6_nextBut_65, eX6_nextBut_68, eX6_nextBut_71, eX6_nextBut_73, eX6_nextBut_76, eX6_nextBut_77, eX6_nextBut_78, eX6_nextBut_81, eX6_nextBut_84, eX6_nextBut_85, kl_i, kl_r, kl_n, true_and, and_true]
  obtain ⟨K, hK, eK⟩ := h.2.2
  exact lX6_nextBut h hK eK ⟨by rw [rX6_nextBut, eK, NN_nI (by omega)], rfl⟩ K 0 _ _ (by omega) rfl
theorem wcX6_64 : ∀ x ∈ wV1 RX6 64 yX6_stands MX6_stands, x ∈ Gt := by decide +kernel
theorem nmX6_stands : nmOk yX6_stands 1 = true := by decide +kernel
theorem wcX6_68 : ∀ x ∈ wV1 RX6 68 yX6_isPage MX6_isPage, x ∈ Gt := by decide +kernel
theorem nmX6_isPage : nmOk yX6_isPage 1 = true := by decide +kernel
theorem wcX6_71 : ∀ x ∈ wV1 RX6 71 yX6_chair MX6_chair, x ∈ Gt := by decide +kernel
theorem nmX6_chair : nmOk yX6_chair 2 = true := by decide +kernel
theorem wcX6_74 : ∀ x ∈ wV1 RX6 74 yX6_isAhead MX6_isAhead, x ∈ Gt := by decide +kernel
theorem nmX6_isAhead : nmOk yX6_isAhead 3 = true := by decide +kernel
set_option maxRecDepth 20000 in
theorem KX6_nextBut_ok (w : WW) : KOk w MX6_nextBut (KX6_nextBut w) := KOk_mk flX6_ok ciX6_ok clX6_ok (fun _ _ h => by cases h) (fun _ _ h => by cases h) (List.forall_mem_cons.mpr ⟨itV (n := 46) (by decide) (COk_V (n := 1) (ci := 6) (ctX6_its w) wcX6_46 nmX6_its (by decide) (by decide) rfl (prX6_its w)), List.forall_mem_cons.mpr ⟨itV (n := 64) (by decide) (COk_V (n := 1) (ci := 6) (ctX6_stands w) wcX6_64 nmX6_stands (by decide) (by decide) rfl (prX6_stands w)), List.forall_mem_cons.mpr ⟨itV (n := 68) (by decide) (COk_V (n := 1) (ci := 6) (ctX6_isPage w) wcX6_68 nmX6_isPage (by decide) (by decide) rfl (prX6_isPage w)), List.forall_mem_cons.mpr ⟨itV (n := 71) (by decide) (COk_V (n := 2) (ci := 6) (ctX6_chair w) wcX6_71 nmX6_chair (by decide) (by decide) rfl (prX6_chair w)), List.forall_mem_cons.mpr ⟨itV (n := 74) (by decide) (COk_V (n := 3) (ci := 6) (ctX6_isAhead w) wcX6_74 nmX6_isAhead (by decide) (by decide) rfl (prX6_isAhead w)), List.forall_mem_nil _⟩⟩⟩⟩⟩)
theorem ctX6_nextBut (w : WW) : CT w yX6_nextBut MX6_nextBut (csX6_nextBut w).2.1 (csX6_nextBut w).2.2 := by
  refine CT_of (by decide) rfl TX6_nextBut_ok TX6_nextBut_v (KX6_nextBut_ok w) (fun as u h => ?_)
  obtain ⟨a0, a1, a2, rfl, h⟩ := sgRII h
  obtain ⟨rfl, hh⟩ := h
  refine ⟨Nat.le_of_ble_eq_true rfl, ?_⟩
  have key := vX6_nextBut w a1 a2 u hh
  exact key
theorem prX6_nextBut (w : WW) : ∀ as u, (csX6_nextBut w).2.1 as u → ∃ a r, as = .ref a :: r ∧ r.length = 2 ∧ okO w a 6 := by
  intro as u h
  obtain ⟨a0, a1, a2, rfl, h⟩ := sgRII h
  exact ⟨_, _, rfl, rfl, okO_m h⟩
