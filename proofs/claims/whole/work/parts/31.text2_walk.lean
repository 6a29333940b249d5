/-! ===== the reference's items, walked ===== -/
theorem tL_tw (u : MM) (t : TS) : tL (tw u t) = tL u := congrArg NN (tw_1 u t (by decide))
theorem X6_tw (u : MM) (t : TS) : X6 (tw u t) ↔ tpOk u ∧ enOk (tL u) t := by
  unfold X6 tpOk enOk; rw [tw_1 u t (by decide), tw_en]
theorem X6_ts (u : MM) : X6 u ↔ tpOk u ∧ enOk (tL u) (ts u) := Iff.rfl
theorem btOut (u : MM) : ∀ k, tL u ≤ k → bt u k = -1 := fun _ h => bt_out h
theorem adv_gd (B : Nat → Int32) (L : Nat) (t : TS) : (adv B L t).gd = t.gd := rfl
theorem tkB_b (B : Nat → Int32) (L : Nat) {e : Nat} (h : e ≤ L) : e ≤ tkB B L e ∧ tkB B L e ≤ L := by
  have := scn_ge (· = 32) B (L - e) e; unfold tkB; omega
theorem tkE_b {B : Nat → Int32} {L : Nat} (hB : ∀ k, L ≤ k → B k = -1) {s : Nat} (h : s ≤ L) : s ≤ tkE B L s ∧ tkE B L s ≤ L := by
  unfold tkE
  split; { omega }
  split; { have := scn_ge isLt B (L - s) s; omega }
  split; { have := scn_ge isDg B (L - s) s; omega }
  rename_i h0 _ _
  have : s < L := by
    rcases Nat.lt_or_ge s L with q | q
    · exact q
    · rw [hB s q] at h0; exact absurd (by decide) h0
  omega
theorem adv_en {B : Nat → Int32} {L : Nat} (hB : ∀ k, L ≤ k → B k = -1) (hL : L ≤ 120) {t : TS} (h : enOk L t) : enOk L (adv B L t) := by
  obtain ⟨e, he, ee⟩ := h
  refine ⟨tkE B L (tkB B L (NN t.en)), ?_, rfl⟩
  rw [ee, NN_nI (by omega)]
  exact (tkE_b hB (tkB_b B L he).2).2
theorem en_gd {L : Nat} {t : TS} (v : Int32) (h : enOk L t) : enOk L (TS.sgd t v) := h
theorem wN_en {B : Nat → Int32} {L : Nat} (hB : ∀ k, L ≤ k → B k = -1) (hL : L ≤ 120) {l m : Int32} {t : TS} (h : enOk L t) : enOk L (wN B L l m t) := by
  unfold wN; split
  · exact adv_en hB hL (en_gd 1 h)
  · exact en_gd 0 h
theorem mW_en {B : Nat → Int32} {L : Nat} (hB : ∀ k, L ≤ k → B k = -1) (hL : L ≤ 120) {x : Int64} {l m o : Int32} {t : TS} (h : enOk L t) : enOk L (mW B L x l m o t).2 := by
  unfold mW; split
  · exact h
  · exact wN_en hB hL (adv_en hB hL h)
theorem wN_gd {B : Nat → Int32} {L : Nat} {l m : Int32} {t : TS} (h : ¬ (wN B L l m t).gd = 0) : ¬ t.gd = 0 ∧ t.so = 2 ∧ l ≤ t.va ∧ t.va ≤ m := by
  unfold wN at h
  split at h
  · assumption
  · exact absurd rfl h
theorem mW_gd {B : Nat → Int32} {L : Nat} {x : Int64} {l m o : Int32} {t : TS} (h : ¬ (mW B L x l m o t).2.gd = 0) : ¬ t.gd = 0 := by
  unfold mW at h
  split at h
  · exact h
  · exact (wN_gd h).1
theorem mW_va {B : Nat → Int32} {L : Nat} {x : Int64} {l m o : Int32} {t : TS} (h : ¬ (mW B L x l m o t).2.gd = 0) : (mW B L x l m o t).1 = o ∨ (l ≤ (mW B L x l m o t).1 ∧ (mW B L x l m o t).1 ≤ m) := by
  unfold mW at h ⊢
  split
  · exact Or.inl rfl
  · rename_i z
    rw [if_neg z] at h
    exact Or.inr (wN_gd h).2.2
theorem sgd_gd (t : TS) (v : Int32) : (TS.sgd t v).gd = v := rfl
theorem sgd_so (t : TS) (v : Int32) : (TS.sgd t v).so = t.so := rfl
theorem sgd_va (t : TS) (v : Int32) : (TS.sgd t v).va = t.va := rfl
theorem sgd_be (t : TS) (v : Int32) : (TS.sgd t v).be = t.be := rfl
theorem vX6_wantNumber (w : WW) : VX6_wantNumber w := by
  intro l m u h
  have h := (X6_ts u).mp h
  have key : GX6_wantNumber w (fun r u' => r = some (.int (ts u).va) ∧ u' = tw u (wN (bt u) (tL u) l m (ts u))) 0 [some (.ref (mA w)), some (.int l), some (.int m), none] [] (tw u (ts u)) := by
    generalize ts u = t at *
    have post : ∀ x : Int32, (x = 0 ∨ x = 1) → (x = 1 ↔ (¬ t.gd = 0 ∧ t.so = 2 ∧ l ≤ t.va ∧ t.va ≤ m)) → GX6_wantNumber w (fun r u' => r = some (.int t.va) ∧ u' = tw u (wN (bt u) (tL u) l m t)) 35 [some (.ref (mA w)), some (.int l), some (.int m), some (.int t.va)] [.int x, .ref (mA w)] (tw u t) := by
      intro x hx hc
      rcases hx with rfl | rfl
      · have e : wN (bt u) (tL u) l m t = TS.sgd t 0 := by rw [wN, if_neg (fun z => absurd (hc.mpr z) (by decide))]
        simp only [eX6_wantNumber_0, eX6_wantNumber_1, eX6_wantNumber_4, eX6_wantNumber_5, eX6_wantNumber_6, eX6_wantNumber_7, eX6_wantNumber_10, eX6_wantNumber_13, eX6_wantNumber_14, eX6_wantNumber_17, eX6_wantNumber_18, eX6_wantNumber_21, eX6_wantNumber_22, eX6_wantNumber_23, eX6_wantNumber_24, eX6_wantNumber_27, eX6_wantNumber_30, eX6_wantNumber_31, eX6_wantNumber_34, eX6_wantNumber_35, eX6_wantNumber_38, eX6_wantNumber_39, eX6_wantNumber_42, eX6_wantNumber_45, eX6_wantNumber_46, eX6_wantNumber_49, eX6_wantNumber_50, kl_i, kl_r, kl_n, kl_l, true_and, and_true, true_implies, false_implies, not_true_eq_false, not_false_eq_true, i10, Classical.not_not, tw_so, tw_be, tw_en, tw_va, tw_gd, tw_wo, tw_u2, tw_u3, tw_u4, tw_u5, tw_u6, tw_uj, mk_so, mk_be, mk_en, mk_va, mk_gd, mk_wo, mk_sso, mk_sbe, mk_sen, mk_sva, mk_sgd, mk_swo, ok_m6, ix_m6, ok_m7, ix_m7, ok_m8, ix_m8, ok_m9, ix_m9, ok_m10, ix_m10, ok_m11, ix_m11, ts_tw, bt_tw, tL_tw, tw_tw, X6_tw, pX6_advance, mX6_advance, pX6_wantNumber, mX6_wantNumber, rX6_wantNumber, pX6_mayWant, mX6_mayWant, rX6_mayWant, pX6_isWord, rX6_isWord, pX6_kindHere, rX6_kindHere, bi_0, adv_gd, sgd_gd, e, true_or]
      · have e : wN (bt u) (tL u) l m t = adv (bt u) (tL u) (TS.sgd t 1) := by rw [wN, if_pos (hc.mp rfl)]
        simp only [eX6_wantNumber_0, eX6_wantNumber_1, eX6_wantNumber_4, eX6_wantNumber_5, eX6_wantNumber_6, eX6_wantNumber_7, eX6_wantNumber_10, eX6_wantNumber_13, eX6_wantNumber_14, eX6_wantNumber_17, eX6_wantNumber_18, eX6_wantNumber_21, eX6_wantNumber_22, eX6_wantNumber_23, eX6_wantNumber_24, eX6_wantNumber_27, eX6_wantNumber_30, eX6_wantNumber_31, eX6_wantNumber_34, eX6_wantNumber_35, eX6_wantNumber_38, eX6_wantNumber_39, eX6_wantNumber_42, eX6_wantNumber_45, eX6_wantNumber_46, eX6_wantNumber_49, eX6_wantNumber_50, kl_i, kl_r, kl_n, kl_l, true_and, and_true, true_implies, false_implies, not_true_eq_false, not_false_eq_true, i10, Classical.not_not, tw_so, tw_be, tw_en, tw_va, tw_gd, tw_wo, tw_u2, tw_u3, tw_u4, tw_u5, tw_u6, tw_uj, mk_so, mk_be, mk_en, mk_va, mk_gd, mk_wo, mk_sso, mk_sbe, mk_sen, mk_sva, mk_sgd, mk_swo, ok_m6, ix_m6, ok_m7, ix_m7, ok_m8, ix_m8, ok_m9, ix_m9, ok_m10, ix_m10, ok_m11, ix_m11, ts_tw, bt_tw, tL_tw, tw_tw, X6_tw, pX6_advance, mX6_advance, pX6_wantNumber, mX6_wantNumber, rX6_wantNumber, pX6_mayWant, mX6_mayWant, rX6_mayWant, pX6_isWord, rX6_isWord, pX6_kindHere, rX6_kindHere, bi_0, adv_gd, sgd_gd, e, or_true]
        exact ⟨h.1, h.2⟩
    simp only [eX6_wantNumber_0, eX6_wantNumber_1, eX6_wantNumber_4, eX6_wantNumber_5, eX6_wantNumber_6, eX6_wantNumber_7, eX6_wantNumber_10, eX6_wantNumber_13, eX6_wantNumber_14, eX6_wantNumber_17, eX6_wantNumber_18, eX6_wantNumber_21, eX6_wantNumber_22, eX6_wantNumber_23, eX6_wantNumber_24, eX6_wantNumber_27, eX6_wantNumber_30, eX6_wantNumber_31, eX6_wantNumber_34, eX6_wantNumber_38, eX6_wantNumber_39, eX6_wantNumber_42, eX6_wantNumber_45, eX6_wantNumber_46, eX6_wantNumber_49, eX6_wantNumber_50, kl_i, kl_r, kl_n, kl_l, true_and, and_true, true_implies, false_implies, not_true_eq_false, not_false_eq_true, i10, Classical.not_not, tw_so, tw_be, tw_en, tw_va, tw_gd, tw_wo, tw_u2, tw_u3, tw_u4, tw_u5, tw_u6, tw_uj, mk_so, mk_be, mk_en, mk_va, mk_gd, mk_wo, mk_sso, mk_sbe, mk_sen, mk_sva, mk_sgd, mk_swo, ok_m6, ix_m6, ok_m7, ix_m7, ok_m8, ix_m8, ok_m9, ix_m9, ok_m10, ix_m10, ok_m11, ix_m11, ts_tw, bt_tw, tL_tw, tw_tw, X6_tw, pX6_advance, mX6_advance, pX6_wantNumber, mX6_wantNumber, rX6_wantNumber, pX6_mayWant, mX6_mayWant, rX6_mayWant, pX6_isWord, rX6_isWord, pX6_kindHere, rX6_kindHere, bi_0, adv_gd, pX6_in, rX6_in]
    refine ⟨fun c => post 0 (Or.inl rfl) ⟨fun z => absurd z (by decide), fun z => absurd c z.1⟩, fun c => ⟨fun d => post 0 (Or.inl rfl) ⟨fun z => absurd z (by decide), fun z => absurd z.2.1 d⟩, fun d => ⟨fun f => post 0 (Or.inl rfl) ⟨fun z => absurd z (by decide), fun z => absurd z.2.2 f⟩, fun f => post 1 (Or.inr rfl) ⟨fun _ => ⟨c, d, f⟩, fun _ => rfl⟩⟩⟩⟩
  rw [tw_ts] at key
  exact key
theorem wcX6_238 : ∀ x ∈ wV1 RX6 238 yX6_advance MX6_advance, x ∈ Gt := by decide +kernel
theorem nmX6_advance : nmOk yX6_advance 0 = true := by decide +kernel
set_option maxRecDepth 20000 in
theorem KX6_wantNumber_ok (w : WW) : KOk w MX6_wantNumber (KX6_wantNumber w) := KOk_mk flX6_ok ciX6_ok clX6_ok (fun _ _ h => by cases h) (fun _ _ h => by cases h) (List.forall_mem_cons.mpr ⟨itV (n := 238) (by decide) (COk_V (n := 0) (ci := 6) (ctX6_advance w) wcX6_238 nmX6_advance (by decide) (by decide) rfl (prX6_advance w)), List.forall_mem_cons.mpr ⟨itS (n := 50) (COk_S (n := 3) (ctX6_in w) wcX6_65586 nmX6_in (by decide)), List.forall_mem_nil _⟩⟩)
theorem ctX6_wantNumber (w : WW) : CT w yX6_wantNumber MX6_wantNumber (csX6_wantNumber w).2.1 (csX6_wantNumber w).2.2 := by
  refine CT_of (by decide) rfl TX6_wantNumber_ok TX6_wantNumber_v (KX6_wantNumber_ok w) (fun as u h => ?_)
  obtain ⟨a0, a1, a2, rfl, h⟩ := sgRII h
  obtain ⟨rfl, hh⟩ := h
  refine ⟨Nat.le_of_ble_eq_true rfl, ?_⟩
  have key := vX6_wantNumber w a1 a2 u hh
  exact key
theorem prX6_wantNumber (w : WW) : ∀ as u, (csX6_wantNumber w).2.1 as u → ∃ a r, as = .ref a :: r ∧ r.length = 2 ∧ okO w a 6 := by
  intro as u h
  obtain ⟨a0, a1, a2, rfl, h⟩ := sgRII h
  exact ⟨_, _, rfl, rfl, okO_m h⟩
theorem vX6_mayWant (w : WW) : VX6_mayWant w := by
  intro x l m o u h
  have h := (X6_ts u).mp h
  have hB := btOut u
  have hL : tL u ≤ 120 := by obtain ⟨L, hL, e⟩ := h.1; rw [tL, e, NN_nI (by omega)]; exact hL
  have key : GX6_mayWant w (fun r u' => r = some (.int (mW (bt u) (tL u) x l m o (ts u)).1) ∧ u' = tw u (mW (bt u) (tL u) x l m o (ts u)).2) 0 [some (.ref (mA w)), some (.long x), none, some (.int l), some (.int m), some (.int o)] [] (tw u (ts u)) := by
    generalize ts u = t at *
    simp only [eX6_mayWant_0, eX6_mayWant_1, eX6_mayWant_4, eX6_mayWant_7, eX6_mayWant_8, eX6_mayWant_9, eX6_mayWant_12, eX6_mayWant_15, eX6_mayWant_17, eX6_mayWant_18, eX6_mayWant_19, eX6_mayWant_22, eX6_mayWant_23, eX6_mayWant_24, eX6_mayWant_26, eX6_mayWant_29, kl_i, kl_r, kl_n, kl_l, true_and, and_true, true_implies, false_implies, not_true_eq_false, not_false_eq_true, i10, Classical.not_not, tw_so, tw_be, tw_en, tw_va, tw_gd, tw_wo, tw_u2, tw_u3, tw_u4, tw_u5, tw_u6, tw_uj, mk_so, mk_be, mk_en, mk_va, mk_gd, mk_wo, mk_sso, mk_sbe, mk_sen, mk_sva, mk_sgd, mk_swo, ok_m6, ix_m6, ok_m7, ix_m7, ok_m8, ix_m8, ok_m9, ix_m9, ok_m10, ix_m10, ok_m11, ix_m11, ts_tw, bt_tw, tL_tw, tw_tw, X6_tw, pX6_advance, mX6_advance, pX6_wantNumber, mX6_wantNumber, rX6_wantNumber, pX6_mayWant, mX6_mayWant, rX6_mayWant, pX6_isWord, rX6_isWord, pX6_kindHere, rX6_kindHere, bi_0, adv_gd]
    refine ⟨fun c => ?_, fun c => ⟨fun d => ?_, fun d => ?_⟩⟩
    · rw [mW, if_pos (Or.inl c)]; exact ⟨rfl, rfl⟩
    · rw [mW, if_neg (fun z => z.elim c (fun y => y d))]
      exact ⟨h, ⟨h.1, adv_en hB hL h.2⟩, rfl, rfl⟩
    · rw [mW, if_pos (Or.inr d)]; exact ⟨rfl, rfl⟩
  rw [tw_ts] at key
  exact key
theorem wcX6_241 : ∀ x ∈ wV1 RX6 241 yX6_wantNumber MX6_wantNumber, x ∈ Gt := by decide +kernel
theorem nmX6_wantNumber : nmOk yX6_wantNumber 2 = true := by decide +kernel
set_option maxRecDepth 20000 in
theorem KX6_mayWant_ok (w : WW) : KOk w MX6_mayWant (KX6_mayWant w) := KOk_mk flX6_ok ciX6_ok clX6_ok (fun _ _ h => by cases h) (fun _ _ h => by cases h) (List.forall_mem_cons.mpr ⟨itV (n := 220) (by decide) (COk_V (n := 1) (ci := 6) (ctX6_isWord w) wcX6_220 nmX6_isWord (by decide) (by decide) rfl (prX6_isWord w)), List.forall_mem_cons.mpr ⟨itV (n := 238) (by decide) (COk_V (n := 0) (ci := 6) (ctX6_advance w) wcX6_238 nmX6_advance (by decide) (by decide) rfl (prX6_advance w)), List.forall_mem_cons.mpr ⟨itV (n := 241) (by decide) (COk_V (n := 2) (ci := 6) (ctX6_wantNumber w) wcX6_241 nmX6_wantNumber (by decide) (by decide) rfl (prX6_wantNumber w)), List.forall_mem_nil _⟩⟩⟩)
theorem ctX6_mayWant (w : WW) : CT w yX6_mayWant MX6_mayWant (csX6_mayWant w).2.1 (csX6_mayWant w).2.2 := by
  refine CT_of (by decide) rfl TX6_mayWant_ok TX6_mayWant_v (KX6_mayWant_ok w) (fun as u h => ?_)
  obtain ⟨a0, a1, a2, a3, a4, rfl, h⟩ := sgRJIII h
  obtain ⟨rfl, hh⟩ := h
  refine ⟨Nat.le_of_ble_eq_true rfl, ?_⟩
  have key := vX6_mayWant w a1 a2 a3 a4 u hh
  exact key
theorem prX6_mayWant (w : WW) : ∀ as u, (csX6_mayWant w).2.1 as u → ∃ a r, as = .ref a :: r ∧ r.length = 4 ∧ okO w a 6 := by
  intro as u h
  obtain ⟨a0, a1, a2, a3, a4, rfl, h⟩ := sgRJIII h
  exact ⟨_, _, rfl, rfl, okO_m h⟩
theorem pv7 (u : MM) (t : TS) : tw (pv u 1100 (R6 u)) t = tw u t := by rw [pv6]
theorem vX6_wantSeat (w : WW) : VX6_wantSeat w := by
  intro u h
  obtain ⟨h6, hT, hE⟩ := h
  have hB := btOut u
  have hL : tL u ≤ 120 := by obtain ⟨L, hL, e⟩ := hT; rw [tL, e, NN_nI (by omega)]; exact hL
  have z6 : ∀ t, (tw u t).1 1000 = 0 := fun t => (tw_1 u t (by decide)).trans h6.1
  have r6 : ∀ t, RW (tw u t) = R6 u := fun t => by rw [RW6 (z6 t), tw_R6]
  have b6 : ∀ t, B6 (tw u t) = 1100 := fun t => B6_0 (z6 t)
  have m6 : mnyOk (R6 u) := h6.2.1
  have e1 : ∀ t, (tw u t).1 (1100 + 1) = R6 u 1 := fun t => tw_1 u t (by decide)
  obtain ⟨M, hM, eM, eN⟩ := i6M h6
  have key : GX6_wantSeat w (fun r u' => r = none ∧ u' = mTR u (wSeat (bt u) (tL u) (R6 u) (ts u))) 0 [some (.ref (mA w)), none, none] [] (tw u (ts u)) := by
    generalize ts u = t at *
    have post : ∀ (t1 : TS) (x : Int32), t1 = wT1 (bt u) (tL u) (R6 u) t → (x = 0 ∨ x = 1) → x = bi (¬ t1.gd = 0 ∧ t1.so = 2 ∧ ¬ hs (R6 u) t1.va (NN (R6 u 1)) = true) → GX6_wantSeat w (fun r u' => r = none ∧ u' = mTR u (wSeat (bt u) (tL u) (R6 u) t)) 63 [some (.ref (mA w)), none, none] [.int x, .ref (mA w)] (tw u t1) := by
      intro t1 x ht1 hx hc
      have et2 : TS.sgd t1 x = wT2 (R6 u) (wT1 (bt u) (tL u) (R6 u) t) := by rw [wT2, hc, ht1]
      have en1 : enOk (tL u) (TS.sgd t1 x) := by
        rw [ht1, wT1]; split
        · exact en_gd x (adv_en hB hL (en_gd 1 hE))
        · exact hE
      simp only [eX6_wantSeat_0, eX6_wantSeat_1, eX6_wantSeat_2, eX6_wantSeat_5, eX6_wantSeat_6, eX6_wantSeat_7, eX6_wantSeat_9, eX6_wantSeat_12, eX6_wantSeat_13, eX6_wantSeat_16, eX6_wantSeat_17, eX6_wantSeat_20, eX6_wantSeat_21, eX6_wantSeat_24, eX6_wantSeat_27, eX6_wantSeat_28, eX6_wantSeat_31, eX6_wantSeat_32, eX6_wantSeat_33, eX6_wantSeat_36, eX6_wantSeat_39, eX6_wantSeat_40, eX6_wantSeat_43, eX6_wantSeat_44, eX6_wantSeat_47, eX6_wantSeat_48, eX6_wantSeat_49, eX6_wantSeat_52, eX6_wantSeat_55, eX6_wantSeat_58, eX6_wantSeat_59, eX6_wantSeat_62, eX6_wantSeat_63, eX6_wantSeat_66, eX6_wantSeat_67, eX6_wantSeat_68, eX6_wantSeat_70, eX6_wantSeat_73, eX6_wantSeat_74, eX6_wantSeat_75, eX6_wantSeat_78, eX6_wantSeat_79, eX6_wantSeat_81, eX6_wantSeat_82, eX6_wantSeat_85, eX6_wantSeat_86, eX6_wantSeat_87, eX6_wantSeat_90, eX6_wantSeat_93, eX6_wantSeat_94, eX6_wantSeat_95, eX6_wantSeat_96, eX6_wantSeat_99, kl_i, kl_r, kl_n, kl_l, true_and, and_true, true_implies, false_implies, not_true_eq_false, not_false_eq_true, i10, Classical.not_not, tw_so, tw_be, tw_en, tw_va, tw_gd, tw_wo, tw_u2, tw_u3, tw_u4, tw_u5, tw_u6, tw_uj, mk_so, mk_be, mk_en, mk_va, mk_gd, mk_wo, mk_sso, mk_sbe, mk_sen, mk_sva, mk_sgd, mk_swo, ok_m6, ix_m6, ok_m7, ix_m7, ok_m8, ix_m8, ok_m9, ix_m9, ok_m10, ix_m10, ok_m11, ix_m11, ts_tw, bt_tw, tL_tw, tw_tw, X6_tw, pX6_advance, mX6_advance, pX6_wantNumber, mX6_wantNumber, rX6_wantNumber, pX6_mayWant, mX6_mayWant, rX6_mayWant, pX6_isWord, rX6_isWord, pX6_kindHere, rX6_kindHere, bi_0, adv_gd, hT, en1, et2]
      rw [et2] at en1
      have eW : wSeat (bt u) (tL u) (R6 u) t = (if (mW (bt u) (tL u) 12532058 0 99 5 (wN (bt u) (tL u) 0 99 (wT2 (R6 u) (wT1 (bt u) (tL u) (R6 u) t)))).2.gd = 0 then R6 u else seatAdd (R6 u) (wT2 (R6 u) (wT1 (bt u) (tL u) (R6 u) t)).va (mW (bt u) (tL u) 12532058 0 99 5 (wN (bt u) (tL u) 0 99 (wT2 (R6 u) (wT1 (bt u) (tL u) (R6 u) t)))).1, (mW (bt u) (tL u) 12532058 0 99 5 (wN (bt u) (tL u) 0 99 (wT2 (R6 u) (wT1 (bt u) (tL u) (R6 u) t)))).2) := rfl
      rw [eW]
      refine ⟨hx, en1, wN_en hB hL en1, fun g => ?_, fun g => ⟨⟨z6 _, ?_⟩, ?_⟩⟩
      · rw [if_pos g]; exact (pv7 u _).symm
      · rw [r6]
        have g2 := (wN_gd (mW_gd g)).1
        have g3 : ¬ (wT1 (bt u) (tL u) (R6 u) t).gd = 0 := by
          rw [wT2, sgd_gd, bi_0, Classical.not_not] at g2; exact g2.1
        have g4 : R6 u 1 < 6 := by
          rw [wT1] at g3; split at g3
          · assumption
          · exact absurd rfl g3
        rw [eM] at g4 ⊢
        exact vi_nI (by have := (nI_ltI (a := M) (b := 6) (by omega) (by decide)).mp g4; omega)
      · rw [if_neg g, mX6_addSeat, b6, r6, tw_pv]; rfl
    by_cases c : R6 u 1 < 6
    · have c' : ¬ 6 ≤ R6 u 1 := Int32.not_le.mpr c
      have et : adv (bt u) (tL u) (TS.sgd t 1) = wT1 (bt u) (tL u) (R6 u) t := by rw [wT1, if_pos c]
      have eg : (wT1 (bt u) (tL u) (R6 u) t).gd = 1 := by rw [← et]; rfl
      have p63 := fun x hx hc => post (wT1 (bt u) (tL u) (R6 u) t) x rfl hx hc
      simp only [eX6_wantSeat_0, eX6_wantSeat_1, eX6_wantSeat_2, eX6_wantSeat_5, eX6_wantSeat_6, eX6_wantSeat_7, eX6_wantSeat_9, eX6_wantSeat_12, eX6_wantSeat_13, eX6_wantSeat_16, eX6_wantSeat_17, eX6_wantSeat_20, eX6_wantSeat_21, eX6_wantSeat_24, eX6_wantSeat_27, eX6_wantSeat_28, eX6_wantSeat_31, eX6_wantSeat_32, eX6_wantSeat_33, eX6_wantSeat_36, eX6_wantSeat_39, eX6_wantSeat_40, eX6_wantSeat_43, eX6_wantSeat_44, eX6_wantSeat_47, eX6_wantSeat_48, eX6_wantSeat_49, eX6_wantSeat_52, eX6_wantSeat_55, eX6_wantSeat_58, eX6_wantSeat_59, eX6_wantSeat_62, eX6_wantSeat_66, eX6_wantSeat_67, eX6_wantSeat_68, eX6_wantSeat_70, eX6_wantSeat_73, eX6_wantSeat_74, eX6_wantSeat_75, eX6_wantSeat_78, eX6_wantSeat_79, eX6_wantSeat_81, eX6_wantSeat_82, eX6_wantSeat_85, eX6_wantSeat_86, eX6_wantSeat_87, eX6_wantSeat_90, eX6_wantSeat_93, eX6_wantSeat_94, eX6_wantSeat_95, eX6_wantSeat_96, eX6_wantSeat_99, kl_i, kl_r, kl_n, kl_l, true_and, and_true, true_implies, false_implies, not_true_eq_false, not_false_eq_true, i10, Classical.not_not, tw_so, tw_be, tw_en, tw_va, tw_gd, tw_wo, tw_u2, tw_u3, tw_u4, tw_u5, tw_u6, tw_uj, mk_so, mk_be, mk_en, mk_va, mk_gd, mk_wo, mk_sso, mk_sbe, mk_sen, mk_sva, mk_sgd, mk_swo, ok_m6, ix_m6, ok_m7, ix_m7, ok_m8, ix_m8, ok_m9, ix_m9, ok_m10, ix_m10, ok_m11, ix_m11, ts_tw, bt_tw, tL_tw, tw_tw, X6_tw, pX6_advance, mX6_advance, pX6_wantNumber, mX6_wantNumber, rX6_wantNumber, pX6_mayWant, mX6_mayWant, rX6_mayWant, pX6_isWord, rX6_isWord, pX6_kindHere, rX6_kindHere, bi_0, adv_gd, e1, ok_m0, rf_m0, ai_mr0, rd_mr0, v182_1, N_1, c', or_true, hT, en_gd 1 hE, et, eg, pX6_hasSeat, rX6_hasSeat, z6, r6, m6, sgd_gd]
      refine ⟨fun d => p63 0 (Or.inl rfl) (bi_f (fun z => d z.2.1)).symm, fun d => ⟨fun f => p63 0 (Or.inl rfl) (bi_f (fun z => z.2.2 f)).symm, fun f => p63 1 (Or.inr rfl) (bi_t ⟨by rw [eg]; decide, d, f⟩).symm⟩⟩
    · have c' : 6 ≤ R6 u 1 := Int32.not_lt.mp c
      have et : TS.sgd t 0 = wT1 (bt u) (tL u) (R6 u) t := by rw [wT1, if_neg c]
      have eg : (wT1 (bt u) (tL u) (R6 u) t).gd = 0 := by rw [← et]; rfl
      simp only [eX6_wantSeat_0, eX6_wantSeat_1, eX6_wantSeat_2, eX6_wantSeat_5, eX6_wantSeat_6, eX6_wantSeat_7, eX6_wantSeat_9, eX6_wantSeat_12, eX6_wantSeat_13, eX6_wantSeat_16, eX6_wantSeat_17, eX6_wantSeat_20, eX6_wantSeat_21, eX6_wantSeat_24, eX6_wantSeat_27, eX6_wantSeat_28, eX6_wantSeat_31, eX6_wantSeat_32, eX6_wantSeat_33, eX6_wantSeat_36, eX6_wantSeat_39, eX6_wantSeat_40, eX6_wantSeat_43, eX6_wantSeat_44, eX6_wantSeat_47, eX6_wantSeat_48, eX6_wantSeat_49, eX6_wantSeat_52, eX6_wantSeat_55, eX6_wantSeat_58, eX6_wantSeat_59, eX6_wantSeat_62, eX6_wantSeat_66, eX6_wantSeat_67, eX6_wantSeat_68, eX6_wantSeat_70, eX6_wantSeat_73, eX6_wantSeat_74, eX6_wantSeat_75, eX6_wantSeat_78, eX6_wantSeat_79, eX6_wantSeat_81, eX6_wantSeat_82, eX6_wantSeat_85, eX6_wantSeat_86, eX6_wantSeat_87, eX6_wantSeat_90, eX6_wantSeat_93, eX6_wantSeat_94, eX6_wantSeat_95, eX6_wantSeat_96, eX6_wantSeat_99, kl_i, kl_r, kl_n, kl_l, true_and, and_true, true_implies, false_implies, not_true_eq_false, not_false_eq_true, i10, Classical.not_not, tw_so, tw_be, tw_en, tw_va, tw_gd, tw_wo, tw_u2, tw_u3, tw_u4, tw_u5, tw_u6, tw_uj, mk_so, mk_be, mk_en, mk_va, mk_gd, mk_wo, mk_sso, mk_sbe, mk_sen, mk_sva, mk_sgd, mk_swo, ok_m6, ix_m6, ok_m7, ix_m7, ok_m8, ix_m8, ok_m9, ix_m9, ok_m10, ix_m10, ok_m11, ix_m11, ts_tw, bt_tw, tL_tw, tw_tw, X6_tw, pX6_advance, mX6_advance, pX6_wantNumber, mX6_wantNumber, rX6_wantNumber, pX6_mayWant, mX6_mayWant, rX6_mayWant, pX6_isWord, rX6_isWord, pX6_kindHere, rX6_kindHere, bi_0, adv_gd, e1, ok_m0, rf_m0, ai_mr0, rd_mr0, v182_1, N_1, c', true_or, et, eg, sgd_gd]
      exact post _ 0 rfl (Or.inl rfl) (bi_f (fun z => z.1 eg)).symm
  rw [tw_ts] at key
  exact key
theorem wcX6_246 : ∀ x ∈ wV1 RX6 246 yX6_mayWant MX6_mayWant, x ∈ Gt := by decide +kernel
theorem nmX6_mayWant : nmOk yX6_mayWant 4 = true := by decide +kernel
set_option maxRecDepth 20000 in
theorem KX6_wantSeat_ok (w : WW) : KOk w MX6_wantSeat (KX6_wantSeat w) := KOk_mk flX6_ok ciX6_ok clX6_ok (fun _ _ h => by cases h) (fun _ _ h => by cases h) (List.forall_mem_cons.mpr ⟨itV (n := 90) (by decide) (COk_V (n := 1) (ci := 6) (ctX6_hasSeat w) wcX6_90 nmX6_hasSeat (by decide) (by decide) rfl (prX6_hasSeat w)), List.forall_mem_cons.mpr ⟨itV (n := 95) (by decide) (COk_V (n := 2) (ci := 6) (ctX6_addSeat w) wcX6_95 nmX6_addSeat (by decide) (by decide) rfl (prX6_addSeat w)), List.forall_mem_cons.mpr ⟨itV (n := 238) (by decide) (COk_V (n := 0) (ci := 6) (ctX6_advance w) wcX6_238 nmX6_advance (by decide) (by decide) rfl (prX6_advance w)), List.forall_mem_cons.mpr ⟨itV (n := 241) (by decide) (COk_V (n := 2) (ci := 6) (ctX6_wantNumber w) wcX6_241 nmX6_wantNumber (by decide) (by decide) rfl (prX6_wantNumber w)), List.forall_mem_cons.mpr ⟨itV (n := 246) (by decide) (COk_V (n := 4) (ci := 6) (ctX6_mayWant w) wcX6_246 nmX6_mayWant (by decide) (by decide) rfl (prX6_mayWant w)), List.forall_mem_nil _⟩⟩⟩⟩⟩)
theorem ctX6_wantSeat (w : WW) : CT w yX6_wantSeat MX6_wantSeat (csX6_wantSeat w).2.1 (csX6_wantSeat w).2.2 := by
  refine CT_of (by decide) rfl TX6_wantSeat_ok TX6_wantSeat_v (KX6_wantSeat_ok w) (fun as u h => ?_)
  obtain ⟨a0, rfl, h⟩ := sgR h
  obtain ⟨rfl, hh⟩ := h
  refine ⟨Nat.le_of_ble_eq_true rfl, ?_⟩
  have key := vX6_wantSeat w u hh
  exact key
theorem prX6_wantSeat (w : WW) : ∀ as u, (csX6_wantSeat w).2.1 as u → ∃ a r, as = .ref a :: r ∧ r.length = 0 ∧ okO w a 6 := by
  intro as u h
  obtain ⟨a0, rfl, h⟩ := sgR h
  exact ⟨_, _, rfl, rfl, okO_m h⟩
