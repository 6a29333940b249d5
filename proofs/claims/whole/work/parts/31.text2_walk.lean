/-! ===== the reference's items, walked ===== -/
theorem tL_tw (u : MM) (t : TS) : tL (tw u t) = tL u := congrArg NN (tw_1 u t (by decide))
theorem X6_tw (u : MM) (t : TS) : X6 (tw u t) ↔ tpOk u ∧ enOk (tL u) t := by
  unfold X6 tpOk enOk; rw [tw_1 u t (by decide), tw_en]
theorem X6_ts (u : MM) : X6 u ↔ tpOk u ∧ enOk (tL u) (ts u) := Iff.rfl
theorem btOut (u : MM) : ∀ k, tL u ≤ k → bt u k = -1 := fun _ h => bt_out h
theorem adv_gd (B : Nat → Int32) (L : Nat) (t : TS) : (adv B L t).gd = t.gd := rfl
theorem tkB_b (B : Nat → Int32) (L : Nat) {e : Nat} (h : e ≤ L) : e ≤ tkB B L e ∧ tkB B L e ≤ L := by
  have := scn_ge (· = 32) B (L - e) e; unfold tkB; omega
theorem tkE_b {B : Nat → Int32} {L : Nat} (hB : ∀ k, L ≤ k → B k = -1) {s : Nat} (h : s ≤ L) : s ≤ tkE B L s ∧ tkE B L s ≤ L := by
  unfold tkE
  split; { omega }
  split; { have := scn_ge isLt B (L - s) s; omega }
  split; { have := scn_ge isDg B (L - s) s; omega }
  rename_i h0 _ _
  have : s < L := by
    rcases Nat.lt_or_ge s L with q | q
    · exact q
    · rw [hB s q] at h0; exact absurd (by decide) h0
  omega
theorem adv_en {B : Nat → Int32} {L : Nat} (hB : ∀ k, L ≤ k → B k = -1) (hL : L ≤ 120) {t : TS} (h : enOk L t) : enOk L (adv B L t) := by
  obtain ⟨e, he, ee⟩ := h
  refine ⟨tkE B L (tkB B L (NN t.en)), ?_, rfl⟩
  rw [ee, NN_nI (by omega)]
  exact (tkE_b hB (tkB_b B L he).2).2
theorem en_gd {L : Nat} {t : TS} (v : Int32) (h : enOk L t) : enOk L (TS.sgd t v) := h
theorem wN_en {B : Nat → Int32} {L : Nat} (hB : ∀ k, L ≤ k → B k = -1) (hL : L ≤ 120) {l m : Int32} {t : TS} (h : enOk L t) : enOk L (wN B L l m t) := by
  unfold wN; split
  · exact adv_en hB hL (en_gd 1 h)
  · exact en_gd 0 h
theorem mW_en {B : Nat → Int32} {L : Nat} (hB : ∀ k, L ≤ k → B k = -1) (hL : L ≤ 120) {x : Int64} {l m o : Int32} {t : TS} (h : enOk L t) : enOk L (mW B L x l m o t).2 := by
  unfold mW; split
  · exact h
  · exact wN_en hB hL (adv_en hB hL h)
theorem wN_gd {B : Nat → Int32} {L : Nat} {l m : Int32} {t : TS} (h : ¬ (wN B L l m t).gd = 0) : ¬ t.gd = 0 ∧ t.so = 2 ∧ l ≤ t.va ∧ t.va ≤ m := by
  unfold wN at h
  split at h
  · assumption
  · exact absurd rfl h
theorem mW_gd {B : Nat → Int32} {L : Nat} {x : Int64} {l m o : Int32} {t : TS} (h : ¬ (mW B L x l m o t).2.gd = 0) : ¬ t.gd = 0 := by
  unfold mW at h
  split at h
  · exact h
  · exact (wN_gd h).1
theorem mW_va {B : Nat → Int32} {L : Nat} {x : Int64} {l m o : Int32} {t : TS} (h : ¬ (mW B L x l m o t).2.gd = 0) : (mW B L x l m o t).1 = o ∨ (l ≤ (mW B L x l m o t).1 ∧ (mW B L x l m o t).1 ≤ m) := by
  unfold mW at h ⊢
  split
  · exact Or.inl rfl
  · rename_i z
    rw [if_neg z] at h
    exact Or.inr (wN_gd h).2.2
theorem sgd_gd (t : TS) (v : Int32) : (TS.sgd t v).gd = v := rfl
theorem sgd_so (t : TS) (v : Int32) : (TS.sgd t v).so = t.so := rfl
theorem sgd_va (t : TS) (v : Int32) : (TS.sgd t v).va = t.va := rfl
theorem sgd_be (t : TS) (v : Int32) : (TS.sgd t v).be = t.be := rfl
theorem vX6_wantNumber (w : WW) : VX6_wantNumber w := by
  intro l m u h
  have h := (X6_ts u).mp h
  have key : GX6_wantNumber w (fun r u' => r = some (.int (ts u).va) ∧ u' = tw u (wN (bt u) (tL u) l m (ts u))) 0 [some (.ref (mA w)), some (.int l), some (.int m), none] [] (tw u (ts u)) := by
    generalize ts u = t at *
    have post : ∀ x : Int32, (x = 0 ∨ x = 1) → (x = 1 ↔ (¬ t.gd = 0 ∧ t.so = 2 ∧ l ≤ t.va ∧ t.va ≤ m)) → GX6_wantNumber w (fun r u' => r = some (.int t.va) ∧ u' = tw u (wN (bt u) (tL u) l m t)) 35 [some (.ref (mA w)), some (.int l), some (.int m), some (.int t.va)] [.int x, .ref (mA w)] (tw u t) := by
      intro x hx hc
      rcases hx with rfl | rfl
      · have e : wN (bt u) (tL u) l m t = TS.sgd t 0 := by rw [wN, if_neg (fun z => absurd (hc.mpr z) (by decide))]
        simp only [eX6_wantNumber_0, eX6_wantNumber_1, eX6_wantNumber_4, eX6_wantNumber_5, eX6_wantNumber_6, eX6_wantNumber_7, eX6_wantNumber_10, eX6_wantNumber_13, eX6_wantNumber_14, eX6_wantNumber_17, eX6_wantNumber_18, eX6_wantNumber_21, eX6_wantNumber_22, eX6_wantNumber_23, eX6_wantNumber_24, eX6_wantNumber_27, eX6_wantNumber_30, eX6_wantNumber_31, eX6_wantNumber_34, eX6_wantNumber_35, eX6_wantNumber_38, eX6_wantNumber_39, eX6_wantNumber_42, eX6_wantNumber_45, eX6_wantNumber_46, eX6_wantNumber_49, eX6_wantNumber_50, kl_i, kl_r, kl_n, kl_l, true_and, and_true, true_implies, false_implies, not_true_eq_false, not_false_eq_true, i10, Classical.not_not, tw_so, tw_be, tw_en, tw_va, tw_gd, tw_wo, tw_u2, tw_u3, tw_u4, tw_u5, tw_u6, tw_uj, mk_so, mk_be, mk_en, mk_va, mk_gd, mk_wo, mk_sso, mk_sbe, mk_sen, mk_sva, mk_sgd, mk_swo, ok_m6, ix_m6, ok_m7, ix_m7, ok_m8, ix_m8, ok_m9, ix_m9, ok_m10, ix_m10, ok_m11, ix_m11, ts_tw, bt_tw, tL_tw, tw_tw, X6_tw, pX6_advance, mX6_advance, pX6_wantNumber, mX6_wantNumber, rX6_wantNumber, pX6_mayWant, mX6_mayWant, rX6_mayWant, pX6_isWord, rX6_isWord, pX6_kindHere, rX6_kindHere, bi_0, adv_gd, sgd_gd, e, true_or]
      · have e : wN (bt u) (tL u) l m t = adv (bt u) (tL u) (TS.sgd t 1) := by rw [wN, if_pos (hc.mp rfl)]
        simp only [eX6_wantNumber_0, eX6_wantNumber_1, eX6_wantNumber_4, eX6_wantNumber_5, eX6_wantNumber_6, eX6_wantNumber_7, eX6_wantNumber_10, eX6_wantNumber_13, eX6_wantNumber_14, eX6_wantNumber_17, eX6_wantNumber_18, eX6_wantNumber_21, eX6_wantNumber_22, eX6_wantNumber_23, eX6_wantNumber_24, eX6_wantNumber_27, eX6_wantNumber_30, eX6_wantNumber_31, eX6_wantNumber_34, eX6_wantNumber_35, eX6_wantNumber_38, eX6_wantNumber_39, eX6_wantNumber_42, eX6_wantNumber_45, eX6_wantNumber_46, eX6_wantNumber_49, eX6_wantNumber_50, kl_i, kl_r, kl_n, kl_l, true_and, and_true, true_implies, false_implies, not_true_eq_false, not_false_eq_true, i10, Classical.not_not, tw_so, tw_be, tw_en, tw_va, tw_gd, tw_wo, tw_u2, tw_u3, tw_u4, tw_u5, tw_u6, tw_uj, mk_so, mk_be, mk_en, mk_va, mk_gd, mk_wo, mk_sso, mk_sbe, mk_sen, mk_sva, mk_sgd, mk_swo, ok_m6, ix_m6, ok_m7, ix_m7, ok_m8, ix_m8, ok_m9, ix_m9, ok_m10, ix_m10, ok_m11, ix_m11, ts_tw, bt_tw, tL_tw, tw_tw, X6_tw, pX6_advance, mX6_advance, pX6_wantNumber, mX6_wantNumber, rX6_wantNumber, pX6_mayWant, mX6_mayWant, rX6_mayWant, pX6_isWord, rX6_isWord, pX6_kindHere, rX6_kindHere, bi_0, adv_gd, sgd_gd, e, or_true]
        exact ⟨h.1, h.2⟩
    simp only [eX6_wantNumber_0, eX6_wantNumber_1, eX6_wantNumber_4, eX6_wantNumber_5, eX6_wantNumber_6, eX6_wantNumber_7, eX6_wantNumber_10, eX6_wantNumber_13, eX6_wantNumber_14, eX6_wantNumber_17, eX6_wantNumber_18, eX6_wantNumber_21, eX6_wantNumber_22, eX6_wantNumber_23, eX6_wantNumber_24, eX6_wantNumber_27, eX6_wantNumber_30, eX6_wantNumber_31, eX6_wantNumber_34, eX6_wantNumber_38, eX6_wantNumber_39, eX6_wantNumber_42, eX6_wantNumber_45, eX6_wantNumber_46, eX6_wantNumber_49, eX6_wantNumber_50, kl_i, kl_r, kl_n, kl_l, true_and, and_true, true_implies, false_implies, not_true_eq_false, not_false_eq_true, i10, Classical.not_not, tw_so, tw_be, tw_en, tw_va, tw_gd, tw_wo, tw_u2, tw_u3, tw_u4, tw_u5, tw_u6, tw_uj, mk_so, mk_be, mk_en, mk_va, mk_gd, mk_wo, mk_sso, mk_sbe, mk_sen, mk_sva, mk_sgd, mk_swo, ok_m6, ix_m6, ok_m7, ix_m7, ok_m8, ix_m8, ok_m9, ix_m9, ok_m10, ix_m10, ok_m11, ix_m11, ts_tw, bt_tw, tL_tw, tw_tw, X6_tw, pX6_advance, mX6_advance, pX6_wantNumber, mX6_wantNumber, rX6_wantNumber, pX6_mayWant, mX6_mayWant, rX6_mayWant, pX6_isWord, rX6_isWord, pX6_kindHere, rX6_kindHere, bi_0, adv_gd, pX6_in, rX6_in]
    refine ⟨fun c => ⟨fun d => post 0 (Or.inl rfl) ⟨fun z => absurd z (by decide), fun z => absurd z.2.1 d⟩, fun d => ⟨fun f => post 0 (Or.inl rfl) ⟨fun z => absurd z (by decide), fun z => absurd z.2.2 f⟩, fun f => post 1 (Or.inr rfl) ⟨fun _ => ⟨c, d, f⟩, fun _ => rfl⟩⟩⟩, fun c => post 0 (Or.inl rfl) ⟨fun z => absurd z (by decide), fun z => absurd c z.1⟩⟩
  rw [tw_ts] at key
  exact key
theorem wcX6_238 : ∀ x ∈ wV1 RX6 238 yX6_advance MX6_advance, x ∈ Gt := by decide +kernel
theorem nmX6_advance : nmOk yX6_advance 0 = true := by decide +kernel
set_option maxRecDepth 20000 in
theorem KX6_wantNumber_ok (w : WW) : KOk w MX6_wantNumber (KX6_wantNumber w) := KOk_mk flX6_ok ciX6_ok clX6_ok (fun _ _ h => by cases h) (fun _ _ h => by cases h) (List.forall_mem_cons.mpr ⟨itV (n := 238) (by decide) (COk_V (n := 0) (ci := 6) (ctX6_advance w) wcX6_238 nmX6_advance (by decide) (by decide) rfl (prX6_advance w)), List.forall_mem_cons.mpr ⟨itS (n := 50) (COk_S (n := 3) (ctX6_in w) wcX6_65586 nmX6_in (by decide)), List.forall_mem_nil _⟩⟩)
theorem ctX6_wantNumber (w : WW) : CT w yX6_wantNumber MX6_wantNumber (csX6_wantNumber w).2.1 (csX6_wantNumber w).2.2 := by
  refine CT_of (by decide) rfl TX6_wantNumber_ok TX6_wantNumber_v (KX6_wantNumber_ok w) (fun as u h => ?_)
  obtain ⟨a0, a1, a2, rfl, h⟩ := sgRII h
  obtain ⟨rfl, hh⟩ := h
  refine ⟨Nat.le_of_ble_eq_true rfl, ?_⟩
  have key := vX6_wantNumber w a1 a2 u hh
  exact key
theorem prX6_wantNumber (w : WW) : ∀ as u, (csX6_wantNumber w).2.1 as u → ∃ a r, as = .ref a :: r ∧ r.length = 2 ∧ okO w a 6 := by
  intro as u h
  obtain ⟨a0, a1, a2, rfl, h⟩ := sgRII h
  exact ⟨_, _, rfl, rfl, okO_m h⟩
theorem vX6_mayWant (w : WW) : VX6_mayWant w := by
  intro x l m o u h
  have h := (X6_ts u).mp h
  have hB := btOut u
  have hL : tL u ≤ 120 := by obtain ⟨L, hL, e⟩ := h.1; rw [tL, e, NN_nI (by omega)]; exact hL
  have key : GX6_mayWant w (fun r u' => r = some (.int (mW (bt u) (tL u) x l m o (ts u)).1) ∧ u' = tw u (mW (bt u) (tL u) x l m o (ts u)).2) 0 [some (.ref (mA w)), some (.long x), none, some (.int l), some (.int m), some (.int o)] [] (tw u (ts u)) := by
    generalize ts u = t at *
    simp only [eX6_mayWant_0, eX6_mayWant_1, eX6_mayWant_4, eX6_mayWant_7, eX6_mayWant_8, eX6_mayWant_9, eX6_mayWant_12, eX6_mayWant_15, eX6_mayWant_17, eX6_mayWant_18, eX6_mayWant_19, eX6_mayWant_22, eX6_mayWant_23, eX6_mayWant_24, eX6_mayWant_26, eX6_mayWant_29, kl_i, kl_r, kl_n, kl_l, true_and, and_true, true_implies, false_implies, not_true_eq_false, not_false_eq_true, i10, Classical.not_not, tw_so, tw_be, tw_en, tw_va, tw_gd, tw_wo, tw_u2, tw_u3, tw_u4, tw_u5, tw_u6, tw_uj, mk_so, mk_be, mk_en, mk_va, mk_gd, mk_wo, mk_sso, mk_sbe, mk_sen, mk_sva, mk_sgd, mk_swo, ok_m6, ix_m6, ok_m7, ix_m7, ok_m8, ix_m8, ok_m9, ix_m9, ok_m10, ix_m10, ok_m11, ix_m11, ts_tw, bt_tw, tL_tw, tw_tw, X6_tw, pX6_advance, mX6_advance, pX6_wantNumber, mX6_wantNumber, rX6_wantNumber, pX6_mayWant, mX6_mayWant, rX6_mayWant, pX6_isWord, rX6_isWord, pX6_kindHere, rX6_kindHere, bi_0, adv_gd]
    refine ⟨fun c => ⟨fun d => ?_, fun d => ?_⟩, fun c => ?_⟩
    · exact 0
    · exact 0
    · exact 0
  rw [tw_ts] at key
  exact key
theorem wcX6_241 : ∀ x ∈ wV1 RX6 241 yX6_wantNumber MX6_wantNumber, x ∈ Gt := by decide +kernel
theorem nmX6_wantNumber : nmOk yX6_wantNumber 2 = true := by decide +kernel
set_option maxRecDepth 20000 in
theorem KX6_mayWant_ok (w : WW) : KOk w MX6_mayWant (KX6_mayWant w) := KOk_mk flX6_ok ciX6_ok clX6_ok (fun _ _ h => by cases h) (fun _ _ h => by cases h) (List.forall_mem_cons.mpr ⟨itV (n := 220) (by decide) (COk_V (n := 1) (ci := 6) (ctX6_isWord w) wcX6_220 nmX6_isWord (by decide) (by decide) rfl (prX6_isWord w)), List.forall_mem_cons.mpr ⟨itV (n := 238) (by decide) (COk_V (n := 0) (ci := 6) (ctX6_advance w) wcX6_238 nmX6_advance (by decide) (by decide) rfl (prX6_advance w)), List.forall_mem_cons.mpr ⟨itV (n := 241) (by decide) (COk_V (n := 2) (ci := 6) (ctX6_wantNumber w) wcX6_241 nmX6_wantNumber (by decide) (by decide) rfl (prX6_wantNumber w)), List.forall_mem_nil _⟩⟩⟩)
theorem ctX6_mayWant (w : WW) : CT w yX6_mayWant MX6_mayWant (csX6_mayWant w).2.1 (csX6_mayWant w).2.2 := by
  refine CT_of (by decide) rfl TX6_mayWant_ok TX6_mayWant_v (KX6_mayWant_ok w) (fun as u h => ?_)
  obtain ⟨a0, a1, a2, a3, a4, rfl, h⟩ := sgRJIII h
  obtain ⟨rfl, hh⟩ := h
  refine ⟨Nat.le_of_ble_eq_true rfl, ?_⟩
  have key := vX6_mayWant w a1 a2 a3 a4 u hh
  exact key
theorem prX6_mayWant (w : WW) : ∀ as u, (csX6_mayWant w).2.1 as u → ∃ a r, as = .ref a :: r ∧ r.length = 4 ∧ okO w a 6 := by
  intro as u h
  obtain ⟨a0, a1, a2, a3, a4, rfl, h⟩ := sgRJIII h
  exact ⟨_, _, rfl, rfl, okO_m h⟩
