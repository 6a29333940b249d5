/-! ===== the reference's tape, sheets and images, walked ===== -/
theorem nf0 {o : Option Nat} {a : Int32} {u v : MM} (h : o = some 0) : (-1000000001 : Int32) = nf o a ∧ fnd6 0 u = nfM o u v := by subst h; exact ⟨fk0.symm, rfl⟩
theorem nf1 {o : Option Nat} {a : Int32} {u v : MM} (h : o = some 1) : (-1000000002 : Int32) = nf o a ∧ fnd6 1 u = nfM o u v := by subst h; exact ⟨fk1.symm, rfl⟩
theorem nf2 {o : Option Nat} {a : Int32} {u v : MM} (h : o = some 2) : (-1000000003 : Int32) = nf o a ∧ fnd6 2 u = nfM o u v := by subst h; exact ⟨fk2.symm, rfl⟩
theorem nf4 {o : Option Nat} {a : Int32} {u v : MM} (h : o = some 4) : (-1000000005 : Int32) = nf o a ∧ fnd6 4 u = nfM o u v := by subst h; exact ⟨fk4.symm, rfl⟩
theorem nf5 {o : Option Nat} {a : Int32} {u v : MM} (h : o = some 5) : (-1000000006 : Int32) = nf o a ∧ fnd6 5 u = nfM o u v := by subst h; exact ⟨fk5.symm, rfl⟩
theorem nf6 {o : Option Nat} {a : Int32} {u v : MM} (h : o = some 6) : (-1000000007 : Int32) = nf o a ∧ fnd6 6 u = nfM o u v := by subst h; exact ⟨fk6.symm, rfl⟩
theorem nfn {o : Option Nat} {a : Int32} {u v : MM} (h : o = none) : a = nf o a ∧ v = nfM o u v := by subst h; exact ⟨rfl, rfl⟩
theorem uI_at (u : MM) (i : Nat) (v : Int32) : (uI u i v).1 i = v := by simp [uI, upd]
theorem sub1 (x : Int32) : x - 1 = x + -1 := Int32.sub_eq_add_neg ..
theorem suc_m1 (k : Nat) : nI (k + 1) + -1 = nI k := by rw [← nI_1, Int32.add_assoc]; exact Int32.add_zero _
theorem vX6_wipe (w : WW) : VX6_wipe w := by
  intro u h
  simp only [eX6_wipe_0, eX6_wipe_1, eX6_wipe_4, eX6_wipe_5, eX6_wipe_6, eX6_wipe_7, eX6_wipe_10, eX6_wipe_11, kl_i, kl_r, kl_n, kl_l, true_and, and_true, true_implies, false_implies, not_true_eq_false, not_false_eq_true, i10, Classical.not_not, ok_m5, ix_m5, rX6_wipe, mX6_wipe]
set_option maxRecDepth 20000 in
theorem KX6_wipe_ok (w : WW) : KOk w MX6_wipe (KX6_wipe w) := KOk_mk flX6_ok ciX6_ok clX6_ok (fun _ _ h => by cases h) (fun _ _ h => by cases h) (List.forall_mem_nil _)
theorem ctX6_wipe (w : WW) : CT w yX6_wipe MX6_wipe (csX6_wipe w).2.1 (csX6_wipe w).2.2 := by
  refine CT_of (by decide) rfl TX6_wipe_ok TX6_wipe_v (KX6_wipe_ok w) (fun as u h => ?_)
  obtain ⟨a0, rfl, h⟩ := sgR h
  obtain ⟨rfl, hh⟩ := h
  refine ⟨Nat.le_of_ble_eq_true rfl, ?_⟩
  have key := vX6_wipe w u hh
  exact key
theorem prX6_wipe (w : WW) : ∀ as u, (csX6_wipe w).2.1 as u → ∃ a r, as = .ref a :: r ∧ r.length = 0 ∧ okO w a 6 := by
  intro as u h
  obtain ⟨a0, rfl, h⟩ := sgR h
  exact ⟨_, _, rfl, rfl, okO_m h⟩
theorem vX6_isSheet (w : WW) : VX6_isSheet w := by
  intro s u h
  simp only [eX6_isSheet_0, eX6_isSheet_1, eX6_isSheet_2, eX6_isSheet_3, eX6_isSheet_6, kl_i, kl_r, kl_n, kl_l, true_and, and_true, true_implies, false_implies, not_true_eq_false, not_false_eq_true, i10, Classical.not_not, pX6_in, rX6_in, rX6_isSheet, nb_bi]
set_option maxRecDepth 20000 in
theorem KX6_isSheet_ok (w : WW) : KOk w MX6_isSheet (KX6_isSheet w) := KOk_mk flX6_ok ciX6_ok clX6_ok (fun _ _ h => by cases h) (fun _ _ h => by cases h) (List.forall_mem_cons.mpr ⟨itS (n := 50) (COk_S (n := 3) (ctX6_in w) wcX6_65586 nmX6_in (by decide)), List.forall_mem_nil _⟩)
theorem ctX6_isSheet (w : WW) : CT w yX6_isSheet MX6_isSheet (csX6_isSheet w).2.1 (csX6_isSheet w).2.2 := by
  refine CT_of (by decide) rfl TX6_isSheet_ok TX6_isSheet_v (KX6_isSheet_ok w) (fun as u h => ?_)
  obtain ⟨a0, rfl, h⟩ := sgI h
  have hh := h
  refine ⟨Nat.le_of_ble_eq_true rfl, ?_⟩
  have key := vX6_isSheet w a0 u hh
  exact key
theorem vX6_narrow (w : WW) : VX6_narrow w := by
  intro b v u h
  simp only [eX6_narrow_0, eX6_narrow_1, eX6_narrow_3, eX6_narrow_6, eX6_narrow_7, eX6_narrow_9, eX6_narrow_10, eX6_narrow_12, eX6_narrow_13, eX6_narrow_16, eX6_narrow_17, eX6_narrow_19, eX6_narrow_22, eX6_narrow_23, eX6_narrow_25, eX6_narrow_26, eX6_narrow_28, eX6_narrow_29, eX6_narrow_32, eX6_narrow_33, kl_i, kl_r, kl_n, kl_l, true_and, and_true, true_implies, false_implies, not_true_eq_false, not_false_eq_true, i10, Classical.not_not, rX6_narrow, nrw, Option.some.injEq, Value.long.injEq]
  refine ⟨fun c => ⟨fun d => ?_, fun d => ?_⟩, fun c => ?_⟩
  · rw [if_neg c, if_neg d]
  · rw [if_neg c, if_pos d]
  · rw [if_pos c]
set_option maxRecDepth 20000 in
theorem KX6_narrow_ok (w : WW) : KOk w MX6_narrow (KX6_narrow w) := KOk_mk flX6_ok ciX6_ok clX6_ok (fun _ _ h => by cases h) (fun _ _ h => by cases h) (List.forall_mem_nil _)
theorem ctX6_narrow (w : WW) : CT w yX6_narrow MX6_narrow (csX6_narrow w).2.1 (csX6_narrow w).2.2 := by
  refine CT_of (by decide) rfl TX6_narrow_ok TX6_narrow_v (KX6_narrow_ok w) (fun as u h => ?_)
  obtain ⟨a0, a1, rfl, h⟩ := sgIJ h
  have hh := h
  refine ⟨Nat.le_of_ble_eq_true rfl, ?_⟩
  have key := vX6_narrow w a0 a1 u hh
  exact key
theorem vX6_feed (w : WW) : VX6_feed w := by
  intro b n u h
  obtain ⟨t, ht, et⟩ := h
  simp only [eX6_feed_0, eX6_feed_1, eX6_feed_2, eX6_feed_3, eX6_feed_6, eX6_feed_9, eX6_feed_10, eX6_feed_12, eX6_feed_15, eX6_feed_16, eX6_feed_17, eX6_feed_20, eX6_feed_21, eX6_feed_22, eX6_feed_24, eX6_feed_27, eX6_feed_28, eX6_feed_30, eX6_feed_33, eX6_feed_34, eX6_feed_35, eX6_feed_36, eX6_feed_37, eX6_feed_39, eX6_feed_42, eX6_feed_43, eX6_feed_46, eX6_feed_47, eX6_feed_50, eX6_feed_51, eX6_feed_53, eX6_feed_54, eX6_feed_55, eX6_feed_56, eX6_feed_59, eX6_feed_60, eX6_feed_61, eX6_feed_62, eX6_feed_63, eX6_feed_66, eX6_feed_67, eX6_feed_68, eX6_feed_71, eX6_feed_74, eX6_feed_77, eX6_feed_78, eX6_feed_81, kl_i, kl_r, kl_n, kl_l, true_and, and_true, true_implies, false_implies, not_true_eq_false, not_false_eq_true, i10, Classical.not_not, pX6_in, rX6_in, bi_0, pf0, pf1, pf2, pf3, pf4, pf5, pf6, mf0, mf1, mf2, mf3, mf4, mf5, mf6, rX6_finds, ok_m5, ix_m5, rX6_feed, mX6_feed, Option.some.injEq, Value.int.injEq]
  refine ⟨fun c1 => ⟨fun c2 => ?_, fun c2 => nf1 (by rw [fdNo, if_neg (fun z => z c1), if_pos (Int32.not_le.mp c2)])⟩, fun c1 => nf0 (by rw [fdNo, if_pos c1])⟩
  have eo : fdNo (u.1 1001) n = none := by rw [fdNo, if_neg (fun z => z c1), if_neg (Int32.not_lt.mpr c2)]
  rw [eo]
  obtain ⟨k, hk, rfl⟩ := nI_of2 (M := 4) (n := 4) rfl (Int32.not_lt.mpr (Int32.le_trans (by decide) c1.1)) c1.2
  have htk : t + k ≤ 120 := by
    rw [et, nI_add] at c2
    exact (nI_leI (a := t + k) (b := 120) (by omega) (by decide)).mp c2
  rw [NN_nI (by omega), sub1]
  have key : ∀ (k : Nat) (n : Int32) (v : MM) (t : Nat), v.1 1001 = nI t → t + k ≤ 120 → k ≤ 4 → GX6_feed w (fun r u' => r = some (.int (nI (t + k))) ∧ u' = fdM b k v) 38 [some (.ref (mA w)), some (.int b), some (.int n), some (.int (nI k + -1))] [] v := by
    intro k
    induction k with
    | zero =>
      intro n v t e1 e2 e3
      have hm : nI 0 + -1 < 0 := by decide
      rw [eX6_feed_38]
      simp only [eX6_feed_0, eX6_feed_1, eX6_feed_2, eX6_feed_3, eX6_feed_6, eX6_feed_9, eX6_feed_10, eX6_feed_12, eX6_feed_15, eX6_feed_16, eX6_feed_17, eX6_feed_20, eX6_feed_21, eX6_feed_22, eX6_feed_24, eX6_feed_27, eX6_feed_28, eX6_feed_30, eX6_feed_33, eX6_feed_34, eX6_feed_35, eX6_feed_36, eX6_feed_37, eX6_feed_39, eX6_feed_42, eX6_feed_43, eX6_feed_46, eX6_feed_47, eX6_feed_50, eX6_feed_51, eX6_feed_53, eX6_feed_54, eX6_feed_55, eX6_feed_56, eX6_feed_59, eX6_feed_60, eX6_feed_61, eX6_feed_62, eX6_feed_63, eX6_feed_66, eX6_feed_67, eX6_feed_68, eX6_feed_71, eX6_feed_74, eX6_feed_77, eX6_feed_78, eX6_feed_81, kl_i, kl_r, kl_n, kl_l, true_and, and_true, true_implies, false_implies, not_true_eq_false, not_false_eq_true, i10, Classical.not_not, hm, ok_m5, ix_m5, e1, Nat.add_zero]
      exact rfl
    | succ k ih =>
      intro n v t e1 e2 e3
      have hm : ¬ nI k < 0 := Int32.not_lt.mpr (nI_pos' (by omega))
      have hv : vp_in (nI t) 120 := vi_nI (by omega)
      rw [suc_m1, eX6_feed_38]
      simp only [eX6_feed_0, eX6_feed_1, eX6_feed_2, eX6_feed_3, eX6_feed_6, eX6_feed_9, eX6_feed_10, eX6_feed_12, eX6_feed_15, eX6_feed_16, eX6_feed_17, eX6_feed_20, eX6_feed_21, eX6_feed_22, eX6_feed_24, eX6_feed_27, eX6_feed_28, eX6_feed_30, eX6_feed_33, eX6_feed_34, eX6_feed_35, eX6_feed_36, eX6_feed_37, eX6_feed_39, eX6_feed_42, eX6_feed_43, eX6_feed_46, eX6_feed_47, eX6_feed_50, eX6_feed_51, eX6_feed_53, eX6_feed_54, eX6_feed_55, eX6_feed_56, eX6_feed_59, eX6_feed_60, eX6_feed_61, eX6_feed_62, eX6_feed_63, eX6_feed_66, eX6_feed_67, eX6_feed_68, eX6_feed_71, eX6_feed_74, eX6_feed_77, eX6_feed_78, eX6_feed_81, kl_i, kl_r, kl_n, kl_l, true_and, and_true, true_implies, false_implies, not_true_eq_false, not_false_eq_true, i10, Classical.not_not, hm, ok_m5, ix_m5, ok_m4, rf_m4, as_mr3, xa_mr3, e1, hv]
      have ne : ∀ x : MM, (uI x (1320 + NN (nI t)) (b >>> ((8 * nI k) &&& 31) &&& 255)).1 1001 = x.1 1001 := fun x => by simp only [uI, upd]; rw [if_neg (by omega)]
      rw [ne, e1, nI_1]
      have := ih n (uI (uI v (1320 + NN (nI t)) (b >>> ((8 * nI k) &&& 31) &&& 255)) 1001 (nI (t + 1))) (t + 1) (uI_at _ _ _) (by omega) (by omega)
      rw [fdM, e1, nI_1, show t + (k + 1) = t + 1 + k by omega]
      exact this
  have := key k (nI k) u t et htk hk
  rw [show nf none (u.1 1001 + nI k) = nI (t + k) by rw [nf, et, nI_add]]
  exact this
set_option maxRecDepth 20000 in
theorem KX6_feed_ok (w : WW) : KOk w MX6_feed (KX6_feed w) := KOk_mk flX6_ok ciX6_ok clX6_ok (fun _ _ h => by cases h) (fun _ _ h => by cases h) (List.forall_mem_cons.mpr ⟨itV (n := 87) (by decide) (COk_V (n := 1) (ci := 6) (ctX6_finds w) wcX6_87 nmX6_finds (by decide) (by decide) rfl (prX6_finds w)), List.forall_mem_cons.mpr ⟨itS (n := 50) (COk_S (n := 3) (ctX6_in w) wcX6_65586 nmX6_in (by decide)), List.forall_mem_nil _⟩⟩)
theorem ctX6_feed (w : WW) : CT w yX6_feed MX6_feed (csX6_feed w).2.1 (csX6_feed w).2.2 := by
  refine CT_of (by decide) rfl TX6_feed_ok TX6_feed_v (KX6_feed_ok w) (fun as u h => ?_)
  obtain ⟨a0, a1, a2, rfl, h⟩ := sgRII h
  obtain ⟨rfl, hh⟩ := h
  refine ⟨Nat.le_of_ble_eq_true rfl, ?_⟩
  have key := vX6_feed w a1 a2 u hh
  exact key
theorem prX6_feed (w : WW) : ∀ as u, (csX6_feed w).2.1 as u → ∃ a r, as = .ref a :: r ∧ r.length = 2 ∧ okO w a 6 := by
  intro as u h
  obtain ⟨a0, a1, a2, rfl, h⟩ := sgRII h
  exact ⟨_, _, rfl, rfl, okO_m h⟩
theorem vX6_isPart (w : WW) : VX6_isPart w := by
  intro s f n u h
  have h4 : vp_in s 4 := h
  simp only [eX6_isPart_0, eX6_isPart_1, eX6_isPart_4, eX6_isPart_5, eX6_isPart_8, eX6_isPart_9, eX6_isPart_10, eX6_isPart_13, eX6_isPart_14, eX6_isPart_15, eX6_isPart_18, eX6_isPart_19, eX6_isPart_20, eX6_isPart_23, eX6_isPart_24, eX6_isPart_25, eX6_isPart_26, eX6_isPart_27, eX6_isPart_30, eX6_isPart_31, eX6_isPart_34, eX6_isPart_35, kl_i, kl_r, kl_n, kl_l, true_and, and_true, true_implies, false_implies, not_true_eq_false, not_false_eq_true, i10, Classical.not_not, ok_m13, rf_m13, ai_mr5, rd_mr5, h4, rX6_isPart, Option.some.injEq, Value.int.injEq]
  refine ⟨fun c => ⟨nb_0, (bi_f (fun z => absurd c (Int32.not_lt.mpr z.1))).symm⟩, fun c => ⟨fun d => ⟨nb_0, (bi_f (fun z => absurd d (Int32.not_lt.mpr z.2.1))).symm⟩, fun d => ⟨fun e => ⟨nb_0, (bi_f (fun z => absurd e (Int32.not_lt.mpr z.2.2.1))).symm⟩, fun e => ⟨fun g => ⟨nb_0, (bi_f (fun z => absurd g (Int32.not_lt.mpr z.2.2.2))).symm⟩, fun g => ⟨nb_1, (bi_t ⟨Int32.not_lt.mp c, Int32.not_lt.mp d, Int32.not_lt.mp e, Int32.not_lt.mp g⟩).symm⟩⟩⟩⟩⟩
set_option maxRecDepth 20000 in
theorem KX6_isPart_ok (w : WW) : KOk w MX6_isPart (KX6_isPart w) := KOk_mk flX6_ok ciX6_ok clX6_ok (fun _ _ h => by cases h) (fun _ _ h => by cases h) (List.forall_mem_nil _)
theorem ctX6_isPart (w : WW) : CT w yX6_isPart MX6_isPart (csX6_isPart w).2.1 (csX6_isPart w).2.2 := by
  refine CT_of (by decide) rfl TX6_isPart_ok TX6_isPart_v (KX6_isPart_ok w) (fun as u h => ?_)
  obtain ⟨a0, a1, a2, a3, rfl, h⟩ := sgRIII h
  obtain ⟨rfl, hh⟩ := h
  refine ⟨Nat.le_of_ble_eq_true rfl, ?_⟩
  have key := vX6_isPart w a1 a2 a3 u hh
  exact key
theorem prX6_isPart (w : WW) : ∀ as u, (csX6_isPart w).2.1 as u → ∃ a r, as = .ref a :: r ∧ r.length = 3 ∧ okO w a 6 := by
  intro as u h
  obtain ⟨a0, a1, a2, a3, rfl, h⟩ := sgRIII h
  exact ⟨_, _, rfl, rfl, okO_m h⟩
theorem isSh_vi {s : Int32} (h : isSh s) : vp_in s 4 := by
  obtain ⟨j, hj, rfl⟩ := nI_of2 (M := 3) (n := 3) rfl (Int32.not_lt.mpr h.1) h.2
  exact vi_nI (by omega)
theorem mvI_step (u : MM) {a b i n : Nat} (hi : i < n) (hab : a + n ≤ b ∨ b + n ≤ a) : uI (mvI u a b i) (b + i) ((mvI u a b i).1 (a + i)) = mvI u a b (i + 1) := by
  apply Prod.ext
  · funext j
    simp only [mvI, uI, upd]
    by_cases q : j = b + i
    · rw [if_pos q, if_neg (by omega), if_pos (by omega), q, show b + i - b = i by omega]
    · rw [if_neg q]
      by_cases q2 : b ≤ j ∧ j < b + i
      · rw [if_pos q2, if_pos (by omega)]
      · rw [if_neg q2, if_neg (by omega)]
  · rfl
theorem mvI_0 (u : MM) (a b : Nat) : mvI u a b 0 = u := by
  apply Prod.ext
  · funext j; simp only [mvI]; rw [if_neg (by omega)]
  · rfl
theorem ai_iq {w : WW} {a : Nat} (h : iOk w a) (i : Int32) : (okAI w a i ↔ vp_in i 91) ∧ (okAS w a i ↔ vp_in i 91) ∧ ixA w a i = iq w a + NN i ∧ (∀ u, rdA w u a i = u.1 (iq w a + NN i)) ∧ (iq w a = 1500 ∨ iq w a = 1600) := by
  have ne : mrA w 9 ≠ mrA w 8 := by simp only [mrA]; omega
  rcases h with rfl | rfl
  · refine ⟨ai_mr8 w i, as_mr8 w i, ?_, fun u => ?_, ?_⟩
    · rw [xa_mr8, iq, if_pos rfl]
    · rw [rd_mr8, iq, if_pos rfl]
    · rw [iq, if_pos rfl]; exact Or.inl rfl
  · refine ⟨ai_mr9 w i, as_mr9 w i, ?_, fun u => ?_, ?_⟩
    · rw [xa_mr9, iq, if_neg ne]
    · rw [rd_mr9, iq, if_neg ne]
    · rw [iq, if_neg ne]; exact Or.inr rfl
theorem vX6_moveAll (w : WW) : VX6_moveAll w := by
  intro k a u ha h
  simp only [eX6_moveAll_0, eX6_moveAll_1, eX6_moveAll_3, eX6_moveAll_5, eX6_moveAll_8, eX6_moveAll_9, eX6_moveAll_12, eX6_moveAll_13, eX6_moveAll_14, eX6_moveAll_15, eX6_moveAll_18, eX6_moveAll_19, eX6_moveAll_20, eX6_moveAll_21, eX6_moveAll_24, eX6_moveAll_25, eX6_moveAll_28, eX6_moveAll_29, eX6_moveAll_30, eX6_moveAll_31, eX6_moveAll_32, eX6_moveAll_33, eX6_moveAll_36, eX6_moveAll_39, kl_i, kl_r, kl_n, kl_l, true_and, and_true, true_implies, false_implies, not_true_eq_false, not_false_eq_true, i10, Classical.not_not, mX6_moveAll]
  have hb := (ai_iq ha 0).2.2.2.2
  have h91 : (91 : Int32) ≤ nI 91 := by decide
  by_cases z : k = 0
  · rw [if_pos z]
    have key : ∀ (n i : Nat), i + n = 91 → GX6_moveAll w (fun r u' => r = none ∧ u' = mvI u (iq w a) 1100 91) 2 [some (.ref (mA w)), some (.int k), some (.ref a), some (.int (nI i))] [] (mvI u (iq w a) 1100 i) := by
      intro n
      induction n with
      | zero =>
        intro i hi
        have e3 : i = 91 := by omega
        subst e3
        rw [eX6_moveAll_2]
        simp only [eX6_moveAll_0, eX6_moveAll_1, eX6_moveAll_3, eX6_moveAll_5, eX6_moveAll_8, eX6_moveAll_9, eX6_moveAll_12, eX6_moveAll_13, eX6_moveAll_14, eX6_moveAll_15, eX6_moveAll_18, eX6_moveAll_19, eX6_moveAll_20, eX6_moveAll_21, eX6_moveAll_24, eX6_moveAll_25, eX6_moveAll_28, eX6_moveAll_29, eX6_moveAll_30, eX6_moveAll_31, eX6_moveAll_32, eX6_moveAll_33, eX6_moveAll_36, eX6_moveAll_39, kl_i, kl_r, kl_n, kl_l, true_and, and_true, true_implies, false_implies, not_true_eq_false, not_false_eq_true, i10, Classical.not_not, h91]
      | succ n ih =>
        intro i hi
        have hlt : ¬ (91 : Int32) ≤ nI i := nI_ge (a := i) (b := 91) (by omega) (by decide)
        have hv : vp_in (nI i) 91 := vi_nI (by omega)
        have hv2 : vp_in (nI i) 182 := vi_nI (by omega)
        have hN : NN (nI i) = i := NN_nI (by omega)
        obtain ⟨q1, q2, q3, q4, q5⟩ := ai_iq ha (nI i)
        rw [eX6_moveAll_2]
        simp only [eX6_moveAll_0, eX6_moveAll_1, eX6_moveAll_3, eX6_moveAll_5, eX6_moveAll_8, eX6_moveAll_9, eX6_moveAll_12, eX6_moveAll_13, eX6_moveAll_14, eX6_moveAll_15, eX6_moveAll_18, eX6_moveAll_19, eX6_moveAll_20, eX6_moveAll_21, eX6_moveAll_24, eX6_moveAll_25, eX6_moveAll_28, eX6_moveAll_29, eX6_moveAll_30, eX6_moveAll_31, eX6_moveAll_32, eX6_moveAll_33, eX6_moveAll_36, eX6_moveAll_39, kl_i, kl_r, kl_n, kl_l, true_and, and_true, true_implies, false_implies, not_true_eq_false, not_false_eq_true, i10, Classical.not_not, hlt, z, ok_m0, rf_m0, as_mr0, xa_mr0, q1, q4, hv, hv2, hN, mvI_step u (show i < 91 by omega) (show iq w a + 91 ≤ 1100 ∨ 1100 + 91 ≤ iq w a by omega)]
        rw [nI_1]
        have := ih (i + 1) (by omega)
        rw [z] at this
        exact this
    have := key 91 0 (by omega)
    rw [mvI_0] at this
    exact this
  · rw [if_neg z]
    have key : ∀ (n i : Nat), i + n = 91 → GX6_moveAll w (fun r u' => r = none ∧ u' = mvI u 1100 (iq w a) 91) 2 [some (.ref (mA w)), some (.int k), some (.ref a), some (.int (nI i))] [] (mvI u 1100 (iq w a) i) := by
      intro n
      induction n with
      | zero =>
        intro i hi
        have e3 : i = 91 := by omega
        subst e3
        rw [eX6_moveAll_2]
        simp only [eX6_moveAll_0, eX6_moveAll_1, eX6_moveAll_3, eX6_moveAll_5, eX6_moveAll_8, eX6_moveAll_9, eX6_moveAll_12, eX6_moveAll_13, eX6_moveAll_14, eX6_moveAll_15, eX6_moveAll_18, eX6_moveAll_19, eX6_moveAll_20, eX6_moveAll_21, eX6_moveAll_24, eX6_moveAll_25, eX6_moveAll_28, eX6_moveAll_29, eX6_moveAll_30, eX6_moveAll_31, eX6_moveAll_32, eX6_moveAll_33, eX6_moveAll_36, eX6_moveAll_39, kl_i, kl_r, kl_n, kl_l, true_and, and_true, true_implies, false_implies, not_true_eq_false, not_false_eq_true, i10, Classical.not_not, h91]
      | succ n ih =>
        intro i hi
        have hlt : ¬ (91 : Int32) ≤ nI i := nI_ge (a := i) (b := 91) (by omega) (by decide)
        have hv : vp_in (nI i) 91 := vi_nI (by omega)
        have hv2 : vp_in (nI i) 182 := vi_nI (by omega)
        have hN : NN (nI i) = i := NN_nI (by omega)
        obtain ⟨q1, q2, q3, q4, q5⟩ := ai_iq ha (nI i)
        rw [eX6_moveAll_2]
        simp only [eX6_moveAll_0, eX6_moveAll_1, eX6_moveAll_3, eX6_moveAll_5, eX6_moveAll_8, eX6_moveAll_9, eX6_moveAll_12, eX6_moveAll_13, eX6_moveAll_14, eX6_moveAll_15, eX6_moveAll_18, eX6_moveAll_19, eX6_moveAll_20, eX6_moveAll_21, eX6_moveAll_24, eX6_moveAll_25, eX6_moveAll_28, eX6_moveAll_29, eX6_moveAll_30, eX6_moveAll_31, eX6_moveAll_32, eX6_moveAll_33, eX6_moveAll_36, eX6_moveAll_39, kl_i, kl_r, kl_n, kl_l, true_and, and_true, true_implies, false_implies, not_true_eq_false, not_false_eq_true, i10, Classical.not_not, hlt, z, ok_m0, rf_m0, ai_mr0, rd_mr0, q2, q3, hv, hv2, hN, mvI_step u (show i < 91 by omega) (show 1100 + 91 ≤ iq w a ∨ iq w a + 91 ≤ 1100 by omega)]
        rw [nI_1]
        exact ih (i + 1) (by omega)
    have := key 91 0 (by omega)
    rw [mvI_0] at this
    exact this
set_option maxRecDepth 20000 in
theorem KX6_moveAll_ok (w : WW) : KOk w MX6_moveAll (KX6_moveAll w) := KOk_mk flX6_ok ciX6_ok clX6_ok (fun _ _ h => by cases h) (fun _ _ h => by cases h) (List.forall_mem_nil _)
theorem ctX6_moveAll (w : WW) : CT w yX6_moveAll MX6_moveAll (csX6_moveAll w).2.1 (csX6_moveAll w).2.2 := by
  refine CT_of (by decide) rfl TX6_moveAll_ok TX6_moveAll_v (KX6_moveAll_ok w) (fun as u h => ?_)
  obtain ⟨a0, a1, a2, rfl, h⟩ := sgRIR h
  obtain ⟨rfl, h2, hh⟩ := h
  refine ⟨Nat.le_of_ble_eq_true rfl, ?_⟩
  have key := vX6_moveAll w a1 a2 u h2 hh
  exact key
theorem prX6_moveAll (w : WW) : ∀ as u, (csX6_moveAll w).2.1 as u → ∃ a r, as = .ref a :: r ∧ r.length = 2 ∧ okO w a 6 := by
  intro as u h
  obtain ⟨a0, a1, a2, rfl, h⟩ := sgRIR h
  exact ⟨_, _, rfl, rfl, okO_m h⟩
theorem io8 (w : WW) : iOk w (mrA w 8) := Or.inl rfl
theorem io9 (w : WW) : iOk w (mrA w 9) := Or.inr rfl
theorem iq8 (w : WW) : iq w (mrA w 8) = 1500 := if_pos rfl
theorem iq9 (w : WW) : iq w (mrA w 9) = 1600 := if_neg (by simp only [mrA]; omega)
theorem vX6_image (w : WW) : VX6_image w := by
  intro u h
  simp only [eX6_image_0, eX6_image_1, eX6_image_2, eX6_image_3, eX6_image_6, eX6_image_9, eX6_image_10, eX6_image_11, eX6_image_14, eX6_image_15, kl_i, kl_r, kl_n, kl_l, true_and, and_true, true_implies, false_implies, not_true_eq_false, not_false_eq_true, i10, Classical.not_not, ok_m16, rf_m16, io8, iq8, pX6_moveAll, mX6_moveAll, ok_m18, ix_m18, rX6_image, mX6_image]
  exact ⟨Or.inr trivial, by rw [if_neg (fun z => z)]⟩
theorem wcX6_271 : ∀ x ∈ wV1 RX6 271 yX6_moveAll MX6_moveAll, x ∈ Gt := by decide +kernel
theorem nmX6_moveAll : nmOk yX6_moveAll 2 = true := by decide +kernel
set_option maxRecDepth 20000 in
theorem KX6_image_ok (w : WW) : KOk w MX6_image (KX6_image w) := KOk_mk flX6_ok ciX6_ok clX6_ok (fun _ _ h => by cases h) (fun _ _ h => by cases h) (List.forall_mem_cons.mpr ⟨itV (n := 271) (by decide) (COk_V (n := 2) (ci := 6) (ctX6_moveAll w) wcX6_271 nmX6_moveAll (by decide) (by decide) rfl (prX6_moveAll w)), List.forall_mem_nil _⟩)
theorem ctX6_image (w : WW) : CT w yX6_image MX6_image (csX6_image w).2.1 (csX6_image w).2.2 := by
  refine CT_of (by decide) rfl TX6_image_ok TX6_image_v (KX6_image_ok w) (fun as u h => ?_)
  obtain ⟨a0, rfl, h⟩ := sgR h
  obtain ⟨rfl, hh⟩ := h
  refine ⟨Nat.le_of_ble_eq_true rfl, ?_⟩
  have key := vX6_image w u hh
  exact key
theorem prX6_image (w : WW) : ∀ as u, (csX6_image w).2.1 as u → ∃ a r, as = .ref a :: r ∧ r.length = 0 ∧ okO w a 6 := by
  intro as u h
  obtain ⟨a0, rfl, h⟩ := sgR h
  exact ⟨_, _, rfl, rfl, okO_m h⟩
theorem vX6_undo (w : WW) : VX6_undo w := by
  intro u h
  simp only [eX6_undo_0, eX6_undo_1, eX6_undo_4, eX6_undo_7, eX6_undo_8, eX6_undo_10, eX6_undo_13, eX6_undo_14, eX6_undo_15, eX6_undo_16, eX6_undo_17, eX6_undo_20, eX6_undo_23, eX6_undo_24, eX6_undo_27, eX6_undo_28, eX6_undo_29, kl_i, kl_r, kl_n, kl_l, true_and, and_true, true_implies, false_implies, not_true_eq_false, not_false_eq_true, i10, Classical.not_not, pf0, pf1, pf2, pf3, pf4, pf5, pf6, mf0, mf1, mf2, mf3, mf4, mf5, mf6, rX6_finds, ok_m16, rf_m16, io8, iq8, pX6_moveAll, mX6_moveAll, ok_m18, ix_m18, ok_m0, rf_m0, ai_mr0, rd_mr0, v182_2, rX6_undo, mX6_undo, Option.some.injEq, Value.int.injEq]
  refine ⟨fun z => ?_, fun z => ?_⟩
  · rw [if_neg z, if_neg z, if_pos trivial]; exact ⟨rfl, rfl⟩
  · rw [if_pos z, if_pos z]; exact ⟨rfl, rfl⟩
set_option maxRecDepth 20000 in
theorem KX6_undo_ok (w : WW) : KOk w MX6_undo (KX6_undo w) := KOk_mk flX6_ok ciX6_ok clX6_ok (fun _ _ h => by cases h) (fun _ _ h => by cases h) (List.forall_mem_cons.mpr ⟨itV (n := 87) (by decide) (COk_V (n := 1) (ci := 6) (ctX6_finds w) wcX6_87 nmX6_finds (by decide) (by decide) rfl (prX6_finds w)), List.forall_mem_cons.mpr ⟨itV (n := 271) (by decide) (COk_V (n := 2) (ci := 6) (ctX6_moveAll w) wcX6_271 nmX6_moveAll (by decide) (by decide) rfl (prX6_moveAll w)), List.forall_mem_nil _⟩⟩)
theorem ctX6_undo (w : WW) : CT w yX6_undo MX6_undo (csX6_undo w).2.1 (csX6_undo w).2.2 := by
  refine CT_of (by decide) rfl TX6_undo_ok TX6_undo_v (KX6_undo_ok w) (fun as u h => ?_)
  obtain ⟨a0, rfl, h⟩ := sgR h
  obtain ⟨rfl, hh⟩ := h
  refine ⟨Nat.le_of_ble_eq_true rfl, ?_⟩
  have key := vX6_undo w u hh
  exact key
theorem prX6_undo (w : WW) : ∀ as u, (csX6_undo w).2.1 as u → ∃ a r, as = .ref a :: r ∧ r.length = 0 ∧ okO w a 6 := by
  intro as u h
  obtain ⟨a0, rfl, h⟩ := sgR h
  exact ⟨_, _, rfl, rfl, okO_m h⟩
theorem vX6_tear (w : WW) : VX6_tear w := by
  intro u h
  simp only [eX6_tear_0, eX6_tear_1, eX6_tear_4, eX6_tear_7, eX6_tear_8, eX6_tear_11, eX6_tear_12, eX6_tear_13, eX6_tear_14, eX6_tear_15, eX6_tear_18, eX6_tear_19, kl_i, kl_r, kl_n, kl_l, true_and, and_true, true_implies, false_implies, not_true_eq_false, not_false_eq_true, i10, Classical.not_not, ok_m18, ix_m18, rX6_tear, mX6_tear, Option.some.injEq, Value.int.injEq]
  refine ⟨fun z => ⟨Or.inl trivial, (if_pos z).symm⟩, fun z => ⟨Or.inl trivial, (if_neg z).symm⟩⟩
set_option maxRecDepth 20000 in
theorem KX6_tear_ok (w : WW) : KOk w MX6_tear (KX6_tear w) := KOk_mk flX6_ok ciX6_ok clX6_ok (fun _ _ h => by cases h) (fun _ _ h => by cases h) (List.forall_mem_nil _)
theorem ctX6_tear (w : WW) : CT w yX6_tear MX6_tear (csX6_tear w).2.1 (csX6_tear w).2.2 := by
  refine CT_of (by decide) rfl TX6_tear_ok TX6_tear_v (KX6_tear_ok w) (fun as u h => ?_)
  obtain ⟨a0, rfl, h⟩ := sgR h
  obtain ⟨rfl, hh⟩ := h
  refine ⟨Nat.le_of_ble_eq_true rfl, ?_⟩
  have key := vX6_tear w u hh
  exact key
theorem prX6_tear (w : WW) : ∀ as u, (csX6_tear w).2.1 as u → ∃ a r, as = .ref a :: r ∧ r.length = 0 ∧ okO w a 6 := by
  intro as u h
  obtain ⟨a0, rfl, h⟩ := sgR h
  exact ⟨_, _, rfl, rfl, okO_m h⟩
