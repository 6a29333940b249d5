/-! ===== the reference's tokens, walked ===== -/
theorem vX6_byteAt (w : WW) : VX6_byteAt w := by
  intro k u h
  obtain ⟨⟨L, hL, eL⟩, j, hj, rfl⟩ := h
  simp only [eX6_byteAt_0, eX6_byteAt_1, eX6_byteAt_2, eX6_byteAt_5, eX6_byteAt_8, eX6_byteAt_9, eX6_byteAt_12, eX6_byteAt_13, eX6_byteAt_14, eX6_byteAt_17, eX6_byteAt_18, kl_i, kl_r, kl_n, kl_l, true_and, and_true, true_implies, false_implies, not_true_eq_false, not_false_eq_true, i10, Classical.not_not, ok_m5, ix_m5, ok_m4, rf_m4, ai_mr3, rd_mr3, rX6_byteAt, eL, Option.some.injEq, Value.int.injEq]
  rw [bt, eL, NN_nI hj, NN_nI (show L < 2 ^ 31 by omega)]
  refine ⟨fun c => (if_neg (by have := (nI_leI (by omega) hj).mp c; omega)).symm, fun c => ?_⟩
  have hlt : j < L := by have := mt (nI_leI (by omega) hj).mpr c; omega
  exact ⟨vi_nI (by omega), (if_pos hlt).symm⟩
set_option maxRecDepth 20000 in
theorem KX6_byteAt_ok (w : WW) : KOk w MX6_byteAt (KX6_byteAt w) := KOk_mk flX6_ok ciX6_ok clX6_ok (fun _ _ h => by cases h) (fun _ _ h => by cases h) (List.forall_mem_nil _)
theorem ctX6_byteAt (w : WW) : CT w yX6_byteAt MX6_byteAt (csX6_byteAt w).2.1 (csX6_byteAt w).2.2 := by
  refine CT_of (by decide) rfl TX6_byteAt_ok TX6_byteAt_v (KX6_byteAt_ok w) (fun as u h => ?_)
  obtain ⟨a0, a1, rfl, h⟩ := sgRI h
  obtain ⟨rfl, hh⟩ := h
  refine ⟨Nat.le_of_ble_eq_true rfl, ?_⟩
  have key := vX6_byteAt w a1 u hh
  exact key
theorem prX6_byteAt (w : WW) : ∀ as u, (csX6_byteAt w).2.1 as u → ∃ a r, as = .ref a :: r ∧ r.length = 1 ∧ okO w a 6 := by
  intro as u h
  obtain ⟨a0, a1, rfl, h⟩ := sgRI h
  exact ⟨_, _, rfl, rfl, okO_m h⟩
theorem vX6_isLetter (w : WW) : VX6_isLetter w := by
  intro s u h
  simp only [eX6_isLetter_0, eX6_isLetter_1, eX6_isLetter_3, eX6_isLetter_5, eX6_isLetter_8, kl_i, kl_r, kl_n, kl_l, true_and, and_true, true_implies, false_implies, not_true_eq_false, not_false_eq_true, i10, Classical.not_not, pX6_in, rX6_in, rX6_isLetter, nb_bi]
set_option maxRecDepth 20000 in
theorem KX6_isLetter_ok (w : WW) : KOk w MX6_isLetter (KX6_isLetter w) := KOk_mk flX6_ok ciX6_ok clX6_ok (fun _ _ h => by cases h) (fun _ _ h => by cases h) (List.forall_mem_cons.mpr ⟨itS (n := 50) (COk_S (n := 3) (ctX6_in w) wcX6_65586 nmX6_in (by decide)), List.forall_mem_nil _⟩)
theorem ctX6_isLetter (w : WW) : CT w yX6_isLetter MX6_isLetter (csX6_isLetter w).2.1 (csX6_isLetter w).2.2 := by
  refine CT_of (by decide) rfl TX6_isLetter_ok TX6_isLetter_v (KX6_isLetter_ok w) (fun as u h => ?_)
  obtain ⟨a0, rfl, h⟩ := sgI h
  have hh := h
  refine ⟨Nat.le_of_ble_eq_true rfl, ?_⟩
  have key := vX6_isLetter w a0 u hh
  exact key
theorem vX6_isDigit (w : WW) : VX6_isDigit w := by
  intro s u h
  simp only [eX6_isDigit_0, eX6_isDigit_1, eX6_isDigit_3, eX6_isDigit_5, eX6_isDigit_8, kl_i, kl_r, kl_n, kl_l, true_and, and_true, true_implies, false_implies, not_true_eq_false, not_false_eq_true, i10, Classical.not_not, pX6_in, rX6_in, rX6_isDigit, nb_bi]
set_option maxRecDepth 20000 in
theorem KX6_isDigit_ok (w : WW) : KOk w MX6_isDigit (KX6_isDigit w) := KOk_mk flX6_ok ciX6_ok clX6_ok (fun _ _ h => by cases h) (fun _ _ h => by cases h) (List.forall_mem_cons.mpr ⟨itS (n := 50) (COk_S (n := 3) (ctX6_in w) wcX6_65586 nmX6_in (by decide)), List.forall_mem_nil _⟩)
theorem ctX6_isDigit (w : WW) : CT w yX6_isDigit MX6_isDigit (csX6_isDigit w).2.1 (csX6_isDigit w).2.2 := by
  refine CT_of (by decide) rfl TX6_isDigit_ok TX6_isDigit_v (KX6_isDigit_ok w) (fun as u h => ?_)
  obtain ⟨a0, rfl, h⟩ := sgI h
  have hh := h
  refine ⟨Nat.le_of_ble_eq_true rfl, ?_⟩
  have key := vX6_isDigit w a0 u hh
  exact key
theorem vX6_isWord (w : WW) : VX6_isWord w := by
  intro x u h
  simp only [eX6_isWord_0, eX6_isWord_1, eX6_isWord_4, eX6_isWord_5, eX6_isWord_8, eX6_isWord_9, eX6_isWord_12, eX6_isWord_13, eX6_isWord_14, eX6_isWord_17, eX6_isWord_18, eX6_isWord_21, eX6_isWord_22, kl_i, kl_r, kl_n, kl_l, true_and, and_true, true_implies, false_implies, not_true_eq_false, not_false_eq_true, i10, Classical.not_not, ok_m6, ix_m6, ok_m9, ix_m9, lgc_0, rX6_isWord, Option.some.injEq, Value.int.injEq]
  exact 0
set_option maxRecDepth 20000 in
theorem KX6_isWord_ok (w : WW) : KOk w MX6_isWord (KX6_isWord w) := KOk_mk flX6_ok ciX6_ok clX6_ok (fun _ _ h => by cases h) (fun _ _ h => by cases h) (List.forall_mem_nil _)
theorem ctX6_isWord (w : WW) : CT w yX6_isWord MX6_isWord (csX6_isWord w).2.1 (csX6_isWord w).2.2 := by
  refine CT_of (by decide) rfl TX6_isWord_ok TX6_isWord_v (KX6_isWord_ok w) (fun as u h => ?_)
  obtain ⟨a0, a1, rfl, h⟩ := sgRJ h
  obtain ⟨rfl, hh⟩ := h
  refine ⟨Nat.le_of_ble_eq_true rfl, ?_⟩
  have key := vX6_isWord w a1 u hh
  exact key
theorem prX6_isWord (w : WW) : ∀ as u, (csX6_isWord w).2.1 as u → ∃ a r, as = .ref a :: r ∧ r.length = 1 ∧ okO w a 6 := by
  intro as u h
  obtain ⟨a0, a1, rfl, h⟩ := sgRJ h
  exact ⟨_, _, rfl, rfl, okO_m h⟩
theorem vX6_kindHere (w : WW) : VX6_kindHere w := by
  intro u h
  simp only [eX6_kindHere_0, eX6_kindHere_1, eX6_kindHere_4, eX6_kindHere_7, eX6_kindHere_10, eX6_kindHere_11, eX6_kindHere_14, eX6_kindHere_15, eX6_kindHere_18, eX6_kindHere_21, eX6_kindHere_24, eX6_kindHere_25, eX6_kindHere_28, eX6_kindHere_29, eX6_kindHere_32, eX6_kindHere_35, eX6_kindHere_38, eX6_kindHere_39, eX6_kindHere_42, eX6_kindHere_43, eX6_kindHere_46, eX6_kindHere_49, eX6_kindHere_52, eX6_kindHere_53, eX6_kindHere_56, eX6_kindHere_57, eX6_kindHere_60, eX6_kindHere_63, eX6_kindHere_66, eX6_kindHere_67, eX6_kindHere_70, eX6_kindHere_71, eX6_kindHere_74, eX6_kindHere_77, eX6_kindHere_80, eX6_kindHere_81, eX6_kindHere_84, eX6_kindHere_85, kl_i, kl_r, kl_n, kl_l, true_and, and_true, true_implies, false_implies, not_true_eq_false, not_false_eq_true, i10, Classical.not_not, pX6_isWord, rX6_isWord, bi_0, rX6_kindHere, Option.some.injEq, Value.int.injEq]
  exact 0
theorem wcX6_220 : ∀ x ∈ wV1 RX6 220 yX6_isWord MX6_isWord, x ∈ Gt := by decide +kernel
theorem nmX6_isWord : nmOk yX6_isWord 1 = true := by decide +kernel
set_option maxRecDepth 20000 in
theorem KX6_kindHere_ok (w : WW) : KOk w MX6_kindHere (KX6_kindHere w) := KOk_mk flX6_ok ciX6_ok clX6_ok (fun _ _ h => by cases h) (fun _ _ h => by cases h) (List.forall_mem_cons.mpr ⟨itV (n := 220) (by decide) (COk_V (n := 1) (ci := 6) (ctX6_isWord w) wcX6_220 nmX6_isWord (by decide) (by decide) rfl (prX6_isWord w)), List.forall_mem_nil _⟩)
theorem ctX6_kindHere (w : WW) : CT w yX6_kindHere MX6_kindHere (csX6_kindHere w).2.1 (csX6_kindHere w).2.2 := by
  refine CT_of (by decide) rfl TX6_kindHere_ok TX6_kindHere_v (KX6_kindHere_ok w) (fun as u h => ?_)
  obtain ⟨a0, rfl, h⟩ := sgR h
  obtain ⟨rfl, hh⟩ := h
  refine ⟨Nat.le_of_ble_eq_true rfl, ?_⟩
  have key := vX6_kindHere w u hh
  exact key
theorem prX6_kindHere (w : WW) : ∀ as u, (csX6_kindHere w).2.1 as u → ∃ a r, as = .ref a :: r ∧ r.length = 0 ∧ okO w a 6 := by
  intro as u h
  obtain ⟨a0, rfl, h⟩ := sgR h
  exact ⟨_, _, rfl, rfl, okO_m h⟩
theorem scn_ge (p : Int32 → Prop) [DecidablePred p] (B : Nat → Int32) : ∀ f j, j ≤ scn p B f j ∧ scn p B f j ≤ j + f
  | 0, j => ⟨Nat.le_refl _, Nat.le_refl _⟩
  | f + 1, j => by
    simp only [scn]; split
    · have := scn_ge p B f (j + 1); omega
    · omega
theorem bt_out {u : MM} {j : Nat} (h : tL u ≤ j) : bt u j = -1 := if_neg (by have : tL u = NN (u.1 1001) := rfl; omega)
theorem subN {a b : Nat} (h : b ≤ a) : nI a - nI b = nI (a - b) := by
  have : nI a = nI (a - b) + nI b := by rw [nI_add]; congr 1; omega
  rw [this, Int32.add_sub_cancel]
theorem vX6_advance (w : WW) : VX6_advance w := by
  intro u h
  obtain ⟨⟨L, hL, eL⟩, e, he, ee⟩ := h
  have eLN : NN (u.1 1001) = L := by rw [eL, NN_nI (by omega)]
  rw [eLN] at he
  have eT : tL u = L := eLN
  generalize hB : bt u = B
  have hTw : ∀ t k, k < 2 ^ 31 → pX6_byteAt (nI k) (tw u t) := fun t k hk => ⟨⟨L, hL, by rw [tw_1 u t (by decide)]; exact eL⟩, k, hk, rfl⟩
  have rTw : ∀ t k, k < 2 ^ 31 → rX6_byteAt (nI k) (tw u t) = B k := fun t k hk => by rw [rX6_byteAt, bt_tw, hB, NN_nI hk]
  have hOut : ∀ k, L ≤ k → B k = -1 := fun k hk => by rw [← hB]; exact bt_out (by rw [eT]; exact hk)
  have hu : u = tw u (mkT (u.1 1002) (u.1 1003) (nI e) (u.1 1005) (u.1 1006) (u.2 450)) := by
    have := (tw_ts u).symm
    rw [ts, ee] at this
    exact this
  have hen : TS.en (ts u) = nI e := ee
  have hm : mX6_advance u = tw u (adv B L (mkT (u.1 1002) (u.1 1003) (nI e) (u.1 1005) (u.1 1006) (u.2 450))) := by
    rw [mX6_advance, hB, eT, ts, ee]
  rw [hm]
  generalize u.1 1002 = a2 at *
  generalize u.1 1003 = a3 at *
  generalize u.1 1005 = a5 at *
  generalize u.1 1006 = a6 at *
  generalize u.2 450 = a7 at *
  exact 0
theorem wcX6_193 : ∀ x ∈ wV1 RX6 193 yX6_byteAt MX6_byteAt, x ∈ Gt := by decide +kernel
theorem nmX6_byteAt : nmOk yX6_byteAt 1 = true := by decide +kernel
theorem wcX6_65732 : ∀ x ∈ wS1 RX6 196 yX6_isLetter MX6_isLetter, x ∈ Gt := by decide +kernel
theorem nmX6_isLetter : nmOk yX6_isLetter 1 = true := by decide +kernel
theorem wcX6_65735 : ∀ x ∈ wS1 RX6 199 yX6_isDigit MX6_isDigit, x ∈ Gt := by decide +kernel
theorem nmX6_isDigit : nmOk yX6_isDigit 1 = true := by decide +kernel
set_option maxRecDepth 20000 in
theorem KX6_advance_ok (w : WW) : KOk w MX6_advance (KX6_advance w) := KOk_mk flX6_ok ciX6_ok clX6_ok (fun _ _ h => by cases h) (fun _ _ h => by cases h) (List.forall_mem_cons.mpr ⟨itV (n := 193) (by decide) (COk_V (n := 1) (ci := 6) (ctX6_byteAt w) wcX6_193 nmX6_byteAt (by decide) (by decide) rfl (prX6_byteAt w)), List.forall_mem_cons.mpr ⟨itS (n := 196) (COk_S (n := 1) (ctX6_isLetter w) wcX6_65732 nmX6_isLetter (by decide)), List.forall_mem_cons.mpr ⟨itS (n := 199) (COk_S (n := 1) (ctX6_isDigit w) wcX6_65735 nmX6_isDigit (by decide)), List.forall_mem_nil _⟩⟩⟩)
theorem ctX6_advance (w : WW) : CT w yX6_advance MX6_advance (csX6_advance w).2.1 (csX6_advance w).2.2 := by
  refine CT_of (by decide) rfl TX6_advance_ok TX6_advance_v (KX6_advance_ok w) (fun as u h => ?_)
  obtain ⟨a0, rfl, h⟩ := sgR h
  obtain ⟨rfl, hh⟩ := h
  refine ⟨Nat.le_of_ble_eq_true rfl, ?_⟩
  have key := vX6_advance w u hh
  exact key
theorem prX6_advance (w : WW) : ∀ as u, (csX6_advance w).2.1 as u → ∃ a r, as = .ref a :: r ∧ r.length = 0 ∧ okO w a 6 := by
  intro as u h
  obtain ⟨a0, rfl, h⟩ := sgR h
  exact ⟨_, _, rfl, rfl, okO_m h⟩
