/-! ===== the class's tokens, walked ===== -/
theorem tx_r1 (u : MM) (t : TC) : (tx u t).1 281 = u.1 281 := rfl
theorem tx_r2 (u : MM) (t : TC) : (tx u t).1 282 = t.1 := rfl
theorem tx_r3 (u : MM) (t : TC) : (tx u t).1 283 = t.2.1 := rfl
theorem tx_r4 (u : MM) (t : TC) : (tx u t).1 284 = t.2.2.1 := rfl
theorem tx_r5 (u : MM) (t : TC) : (tx u t).1 285 = t.2.2.2 := rfl
theorem tx_1 (u : MM) (t : TC) {j : Nat} (h : j < 282 ∨ 285 < j) : (tx u t).1 j = u.1 j := by
  simp only [tx]; rw [if_neg (by omega), if_neg (by omega), if_neg (by omega), if_neg (by omega)]
theorem tx_b (u : MM) (t : TC) (k : Nat) : (tx u t).1 (300 + k) = u.1 (300 + k) := tx_1 u t (by omega)
theorem tx_w2 (u : MM) (t : TC) (v : Int32) : uI (tx u t) 282 v = tx u (v, t.2.1, t.2.2.1, t.2.2.2) := by
  apply Prod.ext
  · funext j; simp only [tx, uI, upd]; split <;> rfl
  · rfl
theorem tx_w3 (u : MM) (t : TC) (v : Int32) : uI (tx u t) 283 v = tx u (t.1, v, t.2.2.1, t.2.2.2) := by
  apply Prod.ext
  · funext j; simp only [tx, uI, upd]
    by_cases h : j = 283
    · subst h; rfl
    · rw [if_neg h, if_neg h, if_neg h]
  · rfl
theorem tx_w4 (u : MM) (t : TC) (v : Int32) : uI (tx u t) 284 v = tx u (t.1, t.2.1, v, t.2.2.2) := by
  apply Prod.ext
  · funext j; simp only [tx, uI, upd]
    by_cases h : j = 284
    · subst h; rfl
    · rw [if_neg h, if_neg h, if_neg h]
  · rfl
theorem tx_w5 (u : MM) (t : TC) (v : Int32) : uI (tx u t) 285 v = tx u (t.1, t.2.1, t.2.2.1, v) := by
  apply Prod.ext
  · funext j; simp only [tx, uI, upd]
    by_cases h : j = 285
    · subst h; rfl
    · rw [if_neg h, if_neg h, if_neg h]
  · rfl
theorem tx_tc (u : MM) : tx u (tc u) = u := by
  apply Prod.ext
  · funext j
    simp only [tx, tc]
    split; { rename_i h; rw [h] }
    split; { rename_i h; rw [h] }
    split; { rename_i h; rw [h] }
    split; { rename_i h; rw [h] }
    rfl
  · rfl
theorem tc_tx (u : MM) (t : TC) : tc (tx u t) = t := rfl
theorem tx_tx (u : MM) (t s : TC) : tx (tx u t) s = tx u s := by
  apply Prod.ext
  · funext j
    simp only [tx]
    split; { rfl }
    split; { rfl }
    split; { rfl }
    split <;> rfl
  · rfl
theorem bx_tx (u : MM) (t : TC) : bx (tx u t) = bx u := by
  funext k; simp only [bx, tx_r1, tx_b]
theorem TX_tx (u : MM) (t : TC) : TX (tx u t) ↔ TX u := by simp only [TX, tx_r1, tx_b]
theorem bx_at {u : MM} {L k : Nat} (eL : u.1 281 = nI L) (hL : L ≤ 120) (hk : k < L) : u.1 (300 + k) = bx u k := by
  simp only [bx]; rw [eL, NN_nI (by omega), if_pos hk]
theorem bx_out {u : MM} {L k : Nat} (eL : u.1 281 = nI L) (hL : L ≤ 120) (hk : L ≤ k) : bx u k = -1 := by
  simp only [bx]; rw [eL, NN_nI (by omega), if_neg (by omega)]
theorem lX4_readWord {w : WW} {u : MM} {L : Nat} (hL : L ≤ 120) (eL : u.1 281 = nI L) {Q : Option Value → MM → Prop} (a b d : Int32) :
    ∀ (f i : Nat), i + f = L → Q none (tx u (a, b, nI (scn isLt (bx u) f i), d)) → GX4_readWord w Q 0 [some (.ref (tpA w))] [] (tx u (a, b, nI i, d)) := by
  intro f
  induction f with
  | zero =>
    intro i hi hQ
    have e : i = L := by omega
    subst e
    have hle : nI i ≤ nI i := nI_le (Nat.le_refl i) (by omega)
    rw [eX4_readWord_0]
    simp only [eX4_readWord_1, eX4_readWord_4, eX4_readWord_5, eX4_readWord_8, eX4_readWord_11, eX4_readWord_12, eX4_readWord_15, eX4_readWord_16, eX4_readWord_19, eX4_readWord_20, eX4_readWord_23, eX4_readWord_26, eX4_readWord_27, eX4_readWord_28, eX4_readWord_31, eX4_readWord_32, eX4_readWord_33, eX4_readWord_36, eX4_readWord_39, kl_i, kl_r, kl_n, kl_l, true_and, and_true, true_implies, false_implies, not_true_eq_false, not_false_eq_true, i10, Classical.not_not, ok_tp0, rf_tp0, ok_tp1, ix_tp1, ok_tp2, ix_tp2, ok_tp3, ix_tp3, ok_tp4, ix_tp4, ok_tp5, ix_tp5, ai_tbb, rd_tbb, tx_r1, tx_r2, tx_r3, tx_r4, tx_r5, tx_b, tx_w2, tx_w3, tx_w4, tx_w5, eL, hle]
    exact hQ
  | succ f ih =>
    intro i hi hQ
    have hlt : ¬ nI L ≤ nI i := nI_ge (by omega) (by omega)
    have hv : vp_in (nI i) 120 := vi_nI (by omega)
    have hN : NN (nI i) = i := NN_nI (by omega)
    have hb := bx_at eL hL (k := i) (by omega)
    rw [eX4_readWord_0]
    simp only [eX4_readWord_1, eX4_readWord_4, eX4_readWord_5, eX4_readWord_8, eX4_readWord_11, eX4_readWord_12, eX4_readWord_15, eX4_readWord_16, eX4_readWord_19, eX4_readWord_20, eX4_readWord_23, eX4_readWord_26, eX4_readWord_27, eX4_readWord_28, eX4_readWord_31, eX4_readWord_32, eX4_readWord_33, eX4_readWord_36, eX4_readWord_39, kl_i, kl_r, kl_n, kl_l, true_and, and_true, true_implies, false_implies, not_true_eq_false, not_false_eq_true, i10, Classical.not_not, ok_tp0, rf_tp0, ok_tp1, ix_tp1, ok_tp2, ix_tp2, ok_tp3, ix_tp3, ok_tp4, ix_tp4, ok_tp5, ix_tp5, ai_tbb, rd_tbb, tx_r1, tx_r2, tx_r3, tx_r4, tx_r5, tx_b, tx_w2, tx_w3, tx_w4, tx_w5, eL, hlt, hv, hN, hb, pX4_isLetter, rX4_isLetter, bi_0]
    refine ⟨fun c => ?_, fun c => ?_⟩
    · rw [scn, if_neg c] at hQ; exact hQ
    · rw [scn, if_pos c] at hQ
      rw [nI_1]; exact ih (i + 1) (by omega) hQ
theorem vX4_readWord (w : WW) : VX4_readWord w := by
  intro u h
  obtain ⟨⟨⟨L, hL, eL⟩, hB⟩, e, he, ee⟩ := h
  rw [eL, NN_nI (by omega)] at he
  have key := lX4_readWord (w := w) hL eL (Q := fun r u' => r = none ∧ u' = mX4_readWord u) (u.1 282) (u.1 283) (u.1 285) (L - e) e (by omega) ⟨rfl, by
    rw [mX4_readWord, eL, ee, NN_nI (by omega), NN_nI (by omega)]
    have := tx_w4 u (tc u) (nI (scn isLt (bx u) (L - e) e))
    rw [tx_tc] at this
    exact this.symm⟩
  rw [← ee] at key
  rw [show (u.1 282, u.1 283, u.1 284, u.1 285) = tc u from rfl, tx_tc] at key
  exact key
theorem wcX4_65670 : ∀ x ∈ wS1 RX4 134 yX4_isLetter MX4_isLetter, x ∈ Gt := by decide +kernel
theorem nmX4_isLetter : nmOk yX4_isLetter 1 = true := by decide +kernel
set_option maxRecDepth 20000 in
theorem KX4_readWord_ok (w : WW) : KOk w MX4_readWord (KX4_readWord w) := KOk_mk flX4_ok ciX4_ok clX4_ok (fun _ _ h => by cases h) (fun n t h => tx_ok n t h) (List.forall_mem_cons.mpr ⟨itS (n := 134) (COk_S (n := 1) (ctX4_isLetter w) wcX4_65670 nmX4_isLetter (by decide)), List.forall_mem_nil _⟩)
theorem ctX4_readWord (w : WW) : CT w yX4_readWord MX4_readWord (csX4_readWord w).2.1 (csX4_readWord w).2.2 := by
  refine CT_of (by decide) rfl TX4_readWord_ok TX4_readWord_v (KX4_readWord_ok w) (fun as u h => ?_)
  obtain ⟨a0, rfl, h⟩ := sgR h
  obtain ⟨rfl, hh⟩ := h
  refine ⟨Nat.le_of_ble_eq_true rfl, ?_⟩
  have key := vX4_readWord w u hh
  exact key
theorem prX4_readWord (w : WW) : ∀ as u, (csX4_readWord w).2.1 as u → ∃ a r, as = .ref a :: r ∧ r.length = 0 ∧ okO w a 4 := by
  intro as u h
  obtain ⟨a0, rfl, h⟩ := sgR h
  exact ⟨_, _, rfl, rfl, okO_tp h⟩
theorem dg_nI {b : Int32} (h : isDg b) : ∃ y, 48 ≤ y ∧ y ≤ 57 ∧ b = nI y := by
  obtain ⟨y, hy, e⟩ := nI_of2 (M := 57) (n := 57) rfl (fun z => absurd (Int32.lt_of_le_of_lt h.1 z) (by decide)) h.2
  refine ⟨y, ?_, hy, e⟩
  have h1 := h.1
  rw [e] at h1
  exact (nI_leI (a := 48) (by decide) (by omega)).mp h1
theorem nmb_st {x : Nat} (hx : x ≤ 10000) {b : Int32} (h : isDg b) : (∃ y, y ≤ 10000 ∧ (if 999 < nI x then (10000 : Int32) else 10 * nI x + b - 48) = nI y) ∧ minI (10 * nI x + b - 48) 10000 = if 999 < nI x then (10000 : Int32) else 10 * nI x + b - 48 := by
  obtain ⟨y, h1, h2, rfl⟩ := dg_nI h
  have e : 10 * nI x + nI y - 48 = nI (10 * x + y - 48) := by
    rw [nlit 10, pk_mul, nI_add]
    have : nI (10 * x + y) = nI (10 * x + y - 48) + 48 := by rw [nlit 48, nI_add]; congr 1; omega
    rw [this, Int32.add_sub_cancel]
  rw [e]
  have c9 : (999 : Int32) < nI x ↔ 999 < x := nI_ltI (a := 999) (by decide) (by omega)
  have cm : (10000 : Int32) < nI (10 * x + y - 48) ↔ 10000 < 10 * x + y - 48 := nI_ltI (a := 10000) (by decide) (by omega)
  unfold minI
  by_cases c : 999 < x
  · rw [if_pos (c9.mpr c)]
    refine ⟨⟨10000, by omega, rfl⟩, ?_⟩
    by_cases d : 10000 < 10 * x + y - 48
    · rw [if_pos (cm.mpr d)]
    · rw [if_neg (fun z => d (cm.mp z)), show 10 * x + y - 48 = 10000 by omega]; rfl
  · rw [if_neg (fun z => c (c9.mp z))]
    refine ⟨⟨10 * x + y - 48, by omega, rfl⟩, ?_⟩
    rw [if_neg (fun z => by have := cm.mp z; omega)]
theorem lX4_readNumber {w : WW} {u : MM} {L s : Nat} (hL : L ≤ 120) (eL : u.1 281 = nI L) {Q : Option Value → MM → Prop} (a b : Int32) :
    ∀ (f i : Nat), i + f = L → s ≤ i → (∃ x, x ≤ 10000 ∧ nmb (bx u) s (i - s) = nI x) → Q none (tx u (a, b, nI (scn isDg (bx u) f i), nmb (bx u) s (scn isDg (bx u) f i - s))) → GX4_readNumber w Q 5 [some (.ref (tpA w))] [] (tx u (a, b, nI i, nmb (bx u) s (i - s))) := by
  intro f
  induction f with
  | zero =>
    intro i hi hs hx hQ
    have e : i = L := by omega
    subst e
    have hle : nI i ≤ nI i := nI_le (Nat.le_refl i) (by omega)
    rw [eX4_readNumber_5]
    simp only [eX4_readNumber_0, eX4_readNumber_1, eX4_readNumber_2, eX4_readNumber_6, eX4_readNumber_9, eX4_readNumber_10, eX4_readNumber_13, eX4_readNumber_16, eX4_readNumber_17, eX4_readNumber_20, eX4_readNumber_21, eX4_readNumber_24, eX4_readNumber_25, eX4_readNumber_28, eX4_readNumber_31, eX4_readNumber_32, eX4_readNumber_34, eX4_readNumber_35, eX4_readNumber_38, eX4_readNumber_39, eX4_readNumber_40, eX4_readNumber_43, eX4_readNumber_44, eX4_readNumber_47, eX4_readNumber_48, eX4_readNumber_49, eX4_readNumber_51, eX4_readNumber_52, eX4_readNumber_55, eX4_readNumber_58, eX4_readNumber_61, eX4_readNumber_62, eX4_readNumber_63, eX4_readNumber_66, eX4_readNumber_67, eX4_readNumber_68, eX4_readNumber_71, eX4_readNumber_74, kl_i, kl_r, kl_n, kl_l, true_and, and_true, true_implies, false_implies, not_true_eq_false, not_false_eq_true, i10, Classical.not_not, ok_tp0, rf_tp0, ok_tp1, ix_tp1, ok_tp2, ix_tp2, ok_tp3, ix_tp3, ok_tp4, ix_tp4, ok_tp5, ix_tp5, ai_tbb, rd_tbb, tx_r1, tx_r2, tx_r3, tx_r4, tx_r5, tx_b, tx_w2, tx_w3, tx_w4, tx_w5, eL, hle]
    exact hQ
  | succ f ih =>
    intro i hi hs hx hQ
    have hlt : ¬ nI L ≤ nI i := nI_ge (by omega) (by omega)
    have hv : vp_in (nI i) 120 := vi_nI (by omega)
    have hN : NN (nI i) = i := NN_nI (by omega)
    have hb := bx_at eL hL (k := i) (by omega)
    obtain ⟨x, x1, x2⟩ := hx
    rw [eX4_readNumber_5]
    simp only [eX4_readNumber_0, eX4_readNumber_1, eX4_readNumber_2, eX4_readNumber_6, eX4_readNumber_9, eX4_readNumber_10, eX4_readNumber_13, eX4_readNumber_16, eX4_readNumber_17, eX4_readNumber_20, eX4_readNumber_21, eX4_readNumber_24, eX4_readNumber_25, eX4_readNumber_28, eX4_readNumber_31, eX4_readNumber_32, eX4_readNumber_34, eX4_readNumber_35, eX4_readNumber_38, eX4_readNumber_39, eX4_readNumber_40, eX4_readNumber_43, eX4_readNumber_44, eX4_readNumber_47, eX4_readNumber_48, eX4_readNumber_49, eX4_readNumber_51, eX4_readNumber_52, eX4_readNumber_55, eX4_readNumber_58, eX4_readNumber_61, eX4_readNumber_62, eX4_readNumber_63, eX4_readNumber_66, eX4_readNumber_67, eX4_readNumber_68, eX4_readNumber_71, eX4_readNumber_74, kl_i, kl_r, kl_n, kl_l, true_and, and_true, true_implies, false_implies, not_true_eq_false, not_false_eq_true, i10, Classical.not_not, ok_tp0, rf_tp0, ok_tp1, ix_tp1, ok_tp2, ix_tp2, ok_tp3, ix_tp3, ok_tp4, ix_tp4, ok_tp5, ix_tp5, ai_tbb, rd_tbb, tx_r1, tx_r2, tx_r3, tx_r4, tx_r5, tx_b, tx_w2, tx_w3, tx_w4, tx_w5, eL, hlt, hv, hN, hb, pX4_isDigit, rX4_isDigit, bi_0, pJ9_min_7cf53, rJ9_min_7cf53]
    refine ⟨fun c => ?_, fun c => ?_⟩
    · rw [scn, if_neg c] at hQ; exact hQ
    · rw [scn, if_pos c] at hQ
      obtain ⟨k1, k2⟩ := nmb_st x1 c
      have e1 : nmb (bx u) s (i + 1 - s) = if 999 < nI x then (10000 : Int32) else 10 * nI x + bx u i - 48 := by
        rw [show i + 1 - s = (i - s) + 1 by omega, nmb, x2, show s + (i - s) = i by omega]
      rw [x2, k2, ← e1, nI_1]
      exact ih (i + 1) (by omega) (by omega) (by rw [e1]; exact k1) hQ
theorem vX4_readNumber (w : WW) : VX4_readNumber w := by
  intro u h
  obtain ⟨⟨⟨L, hL, eL⟩, hB⟩, e, he, ee⟩ := h
  rw [eL, NN_nI (by omega)] at he
  have key := lX4_readNumber (w := w) hL eL (s := e) (Q := fun r u' => r = none ∧ u' = mX4_readNumber u) (u.1 282) (u.1 283) (L - e) e (by omega) (Nat.le_refl e) ⟨0, by decide, by rw [Nat.sub_self]; rfl⟩ ⟨rfl, by
    rw [mX4_readNumber, eL, ee, NN_nI (by omega), NN_nI (by omega)]
    have h1 := tx_w4 u (tc u) (nI (scn isDg (bx u) (L - e) e))
    rw [tx_tc] at h1
    rw [h1, tx_w5]; rfl⟩
  have h0 := tx_w5 u (tc u) 0
  rw [tx_tc] at h0
  rw [Nat.sub_self, ← ee] at key
  simp only [eX4_readNumber_0, eX4_readNumber_1, eX4_readNumber_2, eX4_readNumber_6, eX4_readNumber_9, eX4_readNumber_10, eX4_readNumber_13, eX4_readNumber_16, eX4_readNumber_17, eX4_readNumber_20, eX4_readNumber_21, eX4_readNumber_24, eX4_readNumber_25, eX4_readNumber_28, eX4_readNumber_31, eX4_readNumber_32, eX4_readNumber_34, eX4_readNumber_35, eX4_readNumber_38, eX4_readNumber_39, eX4_readNumber_40, eX4_readNumber_43, eX4_readNumber_44, eX4_readNumber_47, eX4_readNumber_48, eX4_readNumber_49, eX4_readNumber_51, eX4_readNumber_52, eX4_readNumber_55, eX4_readNumber_58, eX4_readNumber_61, eX4_readNumber_62, eX4_readNumber_63, eX4_readNumber_66, eX4_readNumber_67, eX4_readNumber_68, eX4_readNumber_71, eX4_readNumber_74, kl_i, kl_r, kl_n, kl_l, true_and, and_true, true_implies, false_implies, not_true_eq_false, not_false_eq_true, i10, Classical.not_not, ok_tp5, ix_tp5, h0]
  exact key
theorem wcX4_65676 : ∀ x ∈ wS1 RX4 140 yX4_isDigit MX4_isDigit, x ∈ Gt := by decide +kernel
theorem nmX4_isDigit : nmOk yX4_isDigit 1 = true := by decide +kernel
theorem wcX4_65682 : ∀ x ∈ wS1 RX4 146 yJ9_min_7cf53 MJ9_min_7cf53, x ∈ Gt := by decide +kernel
theorem nmJ9_min_7cf53 : nmOk yJ9_min_7cf53 2 = true := by decide +kernel
set_option maxRecDepth 20000 in
theorem KX4_readNumber_ok (w : WW) : KOk w MX4_readNumber (KX4_readNumber w) := KOk_mk flX4_ok ciX4_ok clX4_ok (fun _ _ h => by cases h) (fun n t h => tx_ok n t h) (List.forall_mem_cons.mpr ⟨itS (n := 140) (COk_S (n := 1) (ctX4_isDigit w) wcX4_65676 nmX4_isDigit (by decide)), List.forall_mem_cons.mpr ⟨itS (n := 146) (COk_S (n := 2) (ctJ9_min_7cf53 w) wcX4_65682 nmJ9_min_7cf53 (by decide)), List.forall_mem_nil _⟩⟩)
theorem ctX4_readNumber (w : WW) : CT w yX4_readNumber MX4_readNumber (csX4_readNumber w).2.1 (csX4_readNumber w).2.2 := by
  refine CT_of (by decide) rfl TX4_readNumber_ok TX4_readNumber_v (KX4_readNumber_ok w) (fun as u h => ?_)
  obtain ⟨a0, rfl, h⟩ := sgR h
  obtain ⟨rfl, hh⟩ := h
  refine ⟨Nat.le_of_ble_eq_true rfl, ?_⟩
  have key := vX4_readNumber w u hh
  exact key
theorem prX4_readNumber (w : WW) : ∀ as u, (csX4_readNumber w).2.1 as u → ∃ a r, as = .ref a :: r ∧ r.length = 0 ∧ okO w a 4 := by
  intro as u h
  obtain ⟨a0, rfl, h⟩ := sgR h
  exact ⟨_, _, rfl, rfl, okO_tp h⟩
theorem scn_le {p : Int32 → Prop} [DecidablePred p] {B : Nat → Int32} : ∀ (f j : Nat), j ≤ scn p B f j ∧ scn p B f j ≤ j + f
  | 0, j => ⟨Nat.le_refl _, Nat.le_refl _⟩
  | f + 1, j => by
    simp only [scn]
    split
    · have := scn_le (p := p) (B := B) f (j + 1); omega
    · omega
theorem lX4_advance {w : WW} {u : MM} {L : Nat} (hL : L ≤ 120) (eL : u.1 281 = nI L) {Q : Option Value → MM → Prop} (a b d : Int32) :
    ∀ (f i : Nat), i + f = L → GX4_advance w Q 38 [some (.ref (tpA w))] [] (tx u (a, b, nI (scn (· = 32) (bx u) f i), d)) → GX4_advance w Q 0 [some (.ref (tpA w))] [] (tx u (a, b, nI i, d)) := by
  intro f
  induction f with
  | zero =>
    intro i hi hQ
    have e : i = L := by omega
    subst e
    have hle : nI i ≤ nI i := nI_le (Nat.le_refl i) (by omega)
    rw [eX4_advance_0]
    simp only [eX4_advance_1, eX4_advance_4, eX4_advance_5, eX4_advance_8, eX4_advance_11, eX4_advance_12, eX4_advance_15, eX4_advance_16, eX4_advance_19, eX4_advance_20, eX4_advance_22, eX4_advance_25, eX4_advance_26, eX4_advance_27, eX4_advance_30, eX4_advance_31, eX4_advance_32, eX4_advance_35, eX4_advance_39, eX4_advance_40, eX4_advance_43, eX4_advance_46, eX4_advance_47, eX4_advance_50, eX4_advance_51, eX4_advance_54, eX4_advance_57, eX4_advance_58, eX4_advance_59, eX4_advance_62, eX4_advance_65, eX4_advance_66, eX4_advance_69, eX4_advance_70, eX4_advance_73, eX4_advance_74, eX4_advance_77, eX4_advance_80, eX4_advance_81, eX4_advance_82, eX4_advance_85, eX4_advance_86, eX4_advance_89, eX4_advance_92, eX4_advance_93, eX4_advance_96, eX4_advance_97, eX4_advance_100, eX4_advance_101, eX4_advance_104, eX4_advance_107, eX4_advance_108, eX4_advance_109, eX4_advance_112, eX4_advance_113, eX4_advance_116, eX4_advance_119, eX4_advance_120, eX4_advance_121, eX4_advance_124, eX4_advance_125, eX4_advance_128, eX4_advance_129, eX4_advance_131, eX4_advance_134, eX4_advance_135, eX4_advance_138, eX4_advance_139, eX4_advance_142, eX4_advance_143, eX4_advance_144, eX4_advance_147, eX4_advance_148, eX4_advance_149, eX4_advance_152, kl_i, kl_r, kl_n, kl_l, true_and, and_true, true_implies, false_implies, not_true_eq_false, not_false_eq_true, i10, Classical.not_not, ok_tp0, rf_tp0, ok_tp1, ix_tp1, ok_tp2, ix_tp2, ok_tp3, ix_tp3, ok_tp4, ix_tp4, ok_tp5, ix_tp5, ai_tbb, rd_tbb, tx_r1, tx_r2, tx_r3, tx_r4, tx_r5, tx_b, tx_w2, tx_w3, tx_w4, tx_w5, eL, hle]
    exact hQ
  | succ f ih =>
    intro i hi hQ
    have hlt : ¬ nI L ≤ nI i := nI_ge (by omega) (by omega)
    have hv : vp_in (nI i) 120 := vi_nI (by omega)
    have hN : NN (nI i) = i := NN_nI (by omega)
    have hb := bx_at eL hL (k := i) (by omega)
    rw [eX4_advance_0]
    simp only [eX4_advance_1, eX4_advance_4, eX4_advance_5, eX4_advance_8, eX4_advance_11, eX4_advance_12, eX4_advance_15, eX4_advance_16, eX4_advance_19, eX4_advance_20, eX4_advance_22, eX4_advance_25, eX4_advance_26, eX4_advance_27, eX4_advance_30, eX4_advance_31, eX4_advance_32, eX4_advance_35, eX4_advance_39, eX4_advance_40, eX4_advance_43, eX4_advance_46, eX4_advance_47, eX4_advance_50, eX4_advance_51, eX4_advance_54, eX4_advance_57, eX4_advance_58, eX4_advance_59, eX4_advance_62, eX4_advance_65, eX4_advance_66, eX4_advance_69, eX4_advance_70, eX4_advance_73, eX4_advance_74, eX4_advance_77, eX4_advance_80, eX4_advance_81, eX4_advance_82, eX4_advance_85, eX4_advance_86, eX4_advance_89, eX4_advance_92, eX4_advance_93, eX4_advance_96, eX4_advance_97, eX4_advance_100, eX4_advance_101, eX4_advance_104, eX4_advance_107, eX4_advance_108, eX4_advance_109, eX4_advance_112, eX4_advance_113, eX4_advance_116, eX4_advance_119, eX4_advance_120, eX4_advance_121, eX4_advance_124, eX4_advance_125, eX4_advance_128, eX4_advance_129, eX4_advance_131, eX4_advance_134, eX4_advance_135, eX4_advance_138, eX4_advance_139, eX4_advance_142, eX4_advance_143, eX4_advance_144, eX4_advance_147, eX4_advance_148, eX4_advance_149, eX4_advance_152, kl_i, kl_r, kl_n, kl_l, true_and, and_true, true_implies, false_implies, not_true_eq_false, not_false_eq_true, i10, Classical.not_not, ok_tp0, rf_tp0, ok_tp1, ix_tp1, ok_tp2, ix_tp2, ok_tp3, ix_tp3, ok_tp4, ix_tp4, ok_tp5, ix_tp5, ai_tbb, rd_tbb, tx_r1, tx_r2, tx_r3, tx_r4, tx_r5, tx_b, tx_w2, tx_w3, tx_w4, tx_w5, eL, hlt, hv, hN, hb]
    refine ⟨fun c => ?_, fun c => ?_⟩
    · rw [scn, if_neg c] at hQ; exact hQ
    · rw [scn, if_pos c] at hQ
      rw [nI_1]; exact ih (i + 1) (by omega) hQ
theorem srt_2 (b : Int32) : srt b = 2 ↔ ¬ b < 0 ∧ ¬ isLt b ∧ isDg b := by
  unfold srt
  by_cases h1 : b < 0
  · rw [if_pos h1]; exact ⟨fun z => absurd z (by decide), fun z => absurd h1 z.1⟩
  · rw [if_neg h1]
    by_cases h2 : isLt b
    · rw [if_pos h2]; exact ⟨fun z => absurd z (by decide), fun z => absurd h2 z.2.1⟩
    · rw [if_neg h2]
      by_cases h3 : isDg b
      · rw [if_pos h3]; exact ⟨fun _ => ⟨h1, h2, h3⟩, fun _ => rfl⟩
      · rw [if_neg h3]; exact ⟨fun z => absurd z (by decide), fun z => absurd z.2.2 h3⟩
theorem vX4_advance (w : WW) : VX4_advance w := by
  intro u h
  obtain ⟨hT, e, he, ee⟩ := h
  have hT' := hT
  obtain ⟨⟨L, hL, eL⟩, hB⟩ := hT'
  rw [eL, NN_nI (by omega)] at he hB
  have key := lX4_advance (w := w) hL eL (Q := fun r u' => r = none ∧ u' = mX4_advance u) (u.1 282) (u.1 283) (u.1 285) (L - e) e (by omega)
  rw [← ee] at key
  rw [show (u.1 282, u.1 283, u.1 284, u.1 285) = tc u from rfl, tx_tc] at key
  refine key ?_
  have hs := scn_le (p := (· = 32)) (B := bx u) (L - e) e
  have em : mX4_advance u = tx u (tkC (bx u (scn (· = 32) (bx u) (L - e) e)), nI (scn (· = 32) (bx u) (L - e) e), nI (tkE (bx u) L (scn (· = 32) (bx u) (L - e) e)), if srt (bx u (scn (· = 32) (bx u) (L - e) e)) = 2 then nmb (bx u) (scn (· = 32) (bx u) (L - e) e) (tkE (bx u) L (scn (· = 32) (bx u) (L - e) e) - scn (· = 32) (bx u) (L - e) e) else u.1 285) := by
    rw [mX4_advance, eL]
    simp only [advC, tc, ee, tkB]
    rw [NN_nI (by omega), NN_nI (by omega)]
  rw [em]
  generalize scn (· = 32) (bx u) (L - e) e = s at hs ⊢
  have hN : NN (nI s) = s := NN_nI (by omega)
  by_cases c : L ≤ s
  · have hge : ¬ nI s < nI L := nI_nlt c (by omega)
    have hb := bx_out eL hL c
    have hb0 : (bx u s) < 0 := by rw [hb]; decide
    simp only [eX4_advance_1, eX4_advance_4, eX4_advance_5, eX4_advance_8, eX4_advance_11, eX4_advance_12, eX4_advance_15, eX4_advance_16, eX4_advance_19, eX4_advance_20, eX4_advance_22, eX4_advance_25, eX4_advance_26, eX4_advance_27, eX4_advance_30, eX4_advance_31, eX4_advance_32, eX4_advance_35, eX4_advance_38, eX4_advance_39, eX4_advance_40, eX4_advance_43, eX4_advance_46, eX4_advance_47, eX4_advance_50, eX4_advance_51, eX4_advance_54, eX4_advance_57, eX4_advance_58, eX4_advance_59, eX4_advance_62, eX4_advance_65, eX4_advance_66, eX4_advance_69, eX4_advance_70, eX4_advance_73, eX4_advance_74, eX4_advance_77, eX4_advance_80, eX4_advance_81, eX4_advance_82, eX4_advance_85, eX4_advance_86, eX4_advance_89, eX4_advance_92, eX4_advance_93, eX4_advance_96, eX4_advance_97, eX4_advance_100, eX4_advance_101, eX4_advance_104, eX4_advance_107, eX4_advance_108, eX4_advance_109, eX4_advance_112, eX4_advance_113, eX4_advance_116, eX4_advance_119, eX4_advance_120, eX4_advance_121, eX4_advance_124, eX4_advance_125, eX4_advance_128, eX4_advance_129, eX4_advance_131, eX4_advance_134, eX4_advance_135, eX4_advance_138, eX4_advance_139, eX4_advance_142, eX4_advance_143, eX4_advance_144, eX4_advance_147, eX4_advance_148, eX4_advance_149, eX4_advance_152, kl_i, kl_r, kl_n, kl_l, true_and, and_true, true_implies, false_implies, not_true_eq_false, not_false_eq_true, i10, Classical.not_not, ok_tp0, rf_tp0, ok_tp1, ix_tp1, ok_tp2, ix_tp2, ok_tp3, ix_tp3, ok_tp4, ix_tp4, ok_tp5, ix_tp5, ai_tbb, rd_tbb, tx_r1, tx_r2, tx_r3, tx_r4, tx_r5, tx_b, tx_w2, tx_w3, tx_w4, tx_w5, eL, hge]
    unfold tkC tkE
    rw [if_pos hb0, if_pos hb0, if_neg (fun z => ((srt_2 _).mp z).1 hb0)]
  · have hlt : nI s < nI L := nI_lt (by omega) (by omega)
    have hv : vp_in (nI s) 120 := vi_nI (by omega)
    have hb := bx_at eL hL (k := s) (by omega)
    have hb0 : ¬ (bx u s) < 0 := by rw [← hb]; exact hB s (by omega)
    have hE : ∀ a b d, EX (tx u (a, b, nI s, d)) := fun a b d => ⟨s, by rw [tx_r1, eL, NN_nI (by omega)]; omega, rfl⟩
    simp only [eX4_advance_1, eX4_advance_4, eX4_advance_5, eX4_advance_8, eX4_advance_11, eX4_advance_12, eX4_advance_15, eX4_advance_16, eX4_advance_19, eX4_advance_20, eX4_advance_22, eX4_advance_25, eX4_advance_26, eX4_advance_27, eX4_advance_30, eX4_advance_31, eX4_advance_32, eX4_advance_35, eX4_advance_38, eX4_advance_39, eX4_advance_40, eX4_advance_43, eX4_advance_46, eX4_advance_47, eX4_advance_50, eX4_advance_51, eX4_advance_54, eX4_advance_57, eX4_advance_58, eX4_advance_59, eX4_advance_62, eX4_advance_65, eX4_advance_66, eX4_advance_69, eX4_advance_70, eX4_advance_73, eX4_advance_74, eX4_advance_77, eX4_advance_80, eX4_advance_81, eX4_advance_82, eX4_advance_85, eX4_advance_86, eX4_advance_89, eX4_advance_92, eX4_advance_93, eX4_advance_96, eX4_advance_97, eX4_advance_100, eX4_advance_101, eX4_advance_104, eX4_advance_107, eX4_advance_108, eX4_advance_109, eX4_advance_112, eX4_advance_113, eX4_advance_116, eX4_advance_119, eX4_advance_120, eX4_advance_121, eX4_advance_124, eX4_advance_125, eX4_advance_128, eX4_advance_129, eX4_advance_131, eX4_advance_134, eX4_advance_135, eX4_advance_138, eX4_advance_139, eX4_advance_142, eX4_advance_143, eX4_advance_144, eX4_advance_147, eX4_advance_148, eX4_advance_149, eX4_advance_152, kl_i, kl_r, kl_n, kl_l, true_and, and_true, true_implies, false_implies, not_true_eq_false, not_false_eq_true, i10, Classical.not_not, ok_tp0, rf_tp0, ok_tp1, ix_tp1, ok_tp2, ix_tp2, ok_tp3, ix_tp3, ok_tp4, ix_tp4, ok_tp5, ix_tp5, ai_tbb, rd_tbb, tx_r1, tx_r2, tx_r3, tx_r4, tx_r5, tx_b, tx_w2, tx_w3, tx_w4, tx_w5, eL, hlt, hv, hN, hb, pX4_isLetter, rX4_isLetter, pX4_isDigit, rX4_isDigit, bi_0, pX4_readWord, pX4_readNumber, hT, hE, mX4_readWord, mX4_readNumber, bx_tx, TX_tx]
    rw [NN_nI (show L < 2 ^ 31 by omega)]
    unfold tkC tkE
    simp only [hb0, if_false]
    refine ⟨fun c1 => ⟨fun c2 => ?_, fun c2 => ?_⟩, fun c1 => ?_⟩
    · have ns : ¬ srt (bx u s) = 2 := fun z => c2 ((srt_2 _).mp z).2.2
      simp only [c1, c2, ns, if_false, nI_1]
      exact ⟨fun c3 => by simp only [c3, if_false], fun c3 => by simp only [c3, if_true]⟩
    · have ns : srt (bx u s) = 2 := (srt_2 _).mpr ⟨hb0, c1, c2⟩
      rw [if_neg c1, if_pos c2, if_neg c1, if_pos c2, if_pos ns]
    · have ns : ¬ srt (bx u s) = 2 := fun z => ((srt_2 _).mp z).2.1 c1
      rw [if_pos c1, if_pos c1, if_neg ns]
theorem wcX4_137 : ∀ x ∈ wV1 RX4 137 yX4_readWord MX4_readWord, x ∈ Gt := by decide +kernel
theorem nmX4_readWord : nmOk yX4_readWord 0 = true := by decide +kernel
theorem wcX4_143 : ∀ x ∈ wV1 RX4 143 yX4_readNumber MX4_readNumber, x ∈ Gt := by decide +kernel
theorem nmX4_readNumber : nmOk yX4_readNumber 0 = true := by decide +kernel
set_option maxRecDepth 20000 in
theorem KX4_advance_ok (w : WW) : KOk w MX4_advance (KX4_advance w) := KOk_mk flX4_ok ciX4_ok clX4_ok (fun _ _ h => by cases h) (fun n t h => tx_ok n t h) (List.forall_mem_cons.mpr ⟨itV (n := 137) (by decide) (COk_V (n := 0) (ci := 4) (ctX4_readWord w) wcX4_137 nmX4_readWord (by decide) (by decide) rfl (prX4_readWord w)), List.forall_mem_cons.mpr ⟨itV (n := 143) (by decide) (COk_V (n := 0) (ci := 4) (ctX4_readNumber w) wcX4_143 nmX4_readNumber (by decide) (by decide) rfl (prX4_readNumber w)), List.forall_mem_cons.mpr ⟨itS (n := 134) (COk_S (n := 1) (ctX4_isLetter w) wcX4_65670 nmX4_isLetter (by decide)), List.forall_mem_cons.mpr ⟨itS (n := 140) (COk_S (n := 1) (ctX4_isDigit w) wcX4_65676 nmX4_isDigit (by decide)), List.forall_mem_nil _⟩⟩⟩⟩)
theorem ctX4_advance (w : WW) : CT w yX4_advance MX4_advance (csX4_advance w).2.1 (csX4_advance w).2.2 := by
  refine CT_of (by decide) rfl TX4_advance_ok TX4_advance_v (KX4_advance_ok w) (fun as u h => ?_)
  obtain ⟨a0, rfl, h⟩ := sgR h
  obtain ⟨rfl, hh⟩ := h
  refine ⟨Nat.le_of_ble_eq_true rfl, ?_⟩
  have key := vX4_advance w u hh
  exact key
theorem prX4_advance (w : WW) : ∀ as u, (csX4_advance w).2.1 as u → ∃ a r, as = .ref a :: r ∧ r.length = 0 ∧ okO w a 4 := by
  intro as u h
  obtain ⟨a0, rfl, h⟩ := sgR h
  exact ⟨_, _, rfl, rfl, okO_tp h⟩
