/-! ===== the reference's items, walked ===== -/
theorem tL_tw (u : MM) (t : TS) : tL (tw u t) = tL u := congrArg NN (tw_1 u t (by decide))
theorem X6_tw (u : MM) (t : TS) : X6 (tw u t) ↔ tpOk u ∧ enOk (tL u) t := by
  unfold X6 tpOk enOk; rw [tw_1 u t (by decide), tw_en]
theorem X6_ts (u : MM) : X6 u ↔ tpOk u ∧ enOk (tL u) (ts u) := Iff.rfl
theorem btOut (u : MM) : ∀ k, tL u ≤ k → bt u k = -1 := fun _ h => bt_out h
theorem adv_gd (B : Nat → Int32) (L : Nat) (t : TS) : (adv B L t).gd = t.gd := rfl
theorem tkB_b (B : Nat → Int32) (L : Nat) {e : Nat} (h : e ≤ L) : e ≤ tkB B L e ∧ tkB B L e ≤ L := by
  have := scn_ge (· = 32) B (L - e) e; unfold tkB; omega
theorem tkE_b {B : Nat → Int32} {L : Nat} (hB : ∀ k, L ≤ k → B k = -1) {s : Nat} (h : s ≤ L) : s ≤ tkE B L s ∧ tkE B L s ≤ L := by
  unfold tkE
  split; { omega }
  split; { have := scn_ge isLt B (L - s) s; omega }
  split; { have := scn_ge isDg B (L - s) s; omega }
  rename_i h0 _ _
  have : s < L := by
    rcases Nat.lt_or_ge s L with q | q
    · exact q
    · rw [hB s q] at h0; exact absurd (by decide) h0
  omega
theorem adv_en {B : Nat → Int32} {L : Nat} (hB : ∀ k, L ≤ k → B k = -1) (hL : L ≤ 120) {t : TS} (h : enOk L t) : enOk L (adv B L t) := by
  obtain ⟨e, he, ee⟩ := h
  refine ⟨tkE B L (tkB B L (NN t.en)), ?_, rfl⟩
  rw [ee, NN_nI (by omega)]
  exact (tkE_b hB (tkB_b B L he).2).2
theorem en_gd {L : Nat} {t : TS} (v : Int32) (h : enOk L t) : enOk L (TS.sgd t v) := h
theorem wN_en {B : Nat → Int32} {L : Nat} (hB : ∀ k, L ≤ k → B k = -1) (hL : L ≤ 120) {l m : Int32} {t : TS} (h : enOk L t) : enOk L (wN B L l m t) := by
  unfold wN; split
  · exact adv_en hB hL (en_gd 1 h)
  · exact en_gd 0 h
theorem mW_en {B : Nat → Int32} {L : Nat} (hB : ∀ k, L ≤ k → B k = -1) (hL : L ≤ 120) {x : Int64} {l m o : Int32} {t : TS} (h : enOk L t) : enOk L (mW B L x l m o t).2 := by
  unfold mW; split
  · exact h
  · exact wN_en hB hL (adv_en hB hL h)
theorem wN_gd {B : Nat → Int32} {L : Nat} {l m : Int32} {t : TS} (h : ¬ (wN B L l m t).gd = 0) : ¬ t.gd = 0 ∧ t.so = 2 ∧ l ≤ t.va ∧ t.va ≤ m := by
  unfold wN at h
  split at h
  · assumption
  · exact absurd rfl h
theorem mW_gd {B : Nat → Int32} {L : Nat} {x : Int64} {l m o : Int32} {t : TS} (h : ¬ (mW B L x l m o t).2.gd = 0) : ¬ t.gd = 0 := by
  unfold mW at h
  split at h
  · exact h
  · exact (wN_gd h).1
theorem mW_va {B : Nat → Int32} {L : Nat} {x : Int64} {l m o : Int32} {t : TS} (h : ¬ (mW B L x l m o t).2.gd = 0) : (mW B L x l m o t).1 = o ∨ (l ≤ (mW B L x l m o t).1 ∧ (mW B L x l m o t).1 ≤ m) := by
  unfold mW at h ⊢
  split
  · exact Or.inl rfl
  · rename_i z
    rw [if_neg z] at h
    exact Or.inr (wN_gd h).2.2
theorem vX6_wantNumber (w : WW) : VX6_wantNumber w := by
  intro l m u h
  have key : GX6_wantNumber w (fun r u' => r = some (.int (rX6_wantNumber l m u)) ∧ u' = mX6_wantNumber l m u) 0 [some (.ref (mA w)), some (.int l), some (.int m), none] [] (tw u (ts u)) := by
    rw [X6_ts] at h
    generalize ts u = t at *
    exact 0
  rw [tw_ts] at key
  exact key
theorem wcX6_238 : ∀ x ∈ wV1 RX6 238 yX6_advance MX6_advance, x ∈ Gt := by decide +kernel
theorem nmX6_advance : nmOk yX6_advance 0 = true := by decide +kernel
set_option maxRecDepth 20000 in
theorem KX6_wantNumber_ok (w : WW) : KOk w MX6_wantNumber (KX6_wantNumber w) := KOk_mk flX6_ok ciX6_ok clX6_ok (fun _ _ h => by cases h) (fun _ _ h => by cases h) (List.forall_mem_cons.mpr ⟨itV (n := 238) (by decide) (COk_V (n := 0) (ci := 6) (ctX6_advance w) wcX6_238 nmX6_advance (by decide) (by decide) rfl (prX6_advance w)), List.forall_mem_cons.mpr ⟨itS (n := 50) (COk_S (n := 3) (ctX6_in w) wcX6_65586 nmX6_in (by decide)), List.forall_mem_nil _⟩⟩)
theorem ctX6_wantNumber (w : WW) : CT w yX6_wantNumber MX6_wantNumber (csX6_wantNumber w).2.1 (csX6_wantNumber w).2.2 := by
  refine CT_of (by decide) rfl TX6_wantNumber_ok TX6_wantNumber_v (KX6_wantNumber_ok w) (fun as u h => ?_)
  obtain ⟨a0, a1, a2, rfl, h⟩ := sgRII h
  obtain ⟨rfl, hh⟩ := h
  refine ⟨Nat.le_of_ble_eq_true rfl, ?_⟩
  have key := vX6_wantNumber w a1 a2 u hh
  exact key
theorem prX6_wantNumber (w : WW) : ∀ as u, (csX6_wantNumber w).2.1 as u → ∃ a r, as = .ref a :: r ∧ r.length = 2 ∧ okO w a 6 := by
  intro as u h
  obtain ⟨a0, a1, a2, rfl, h⟩ := sgRII h
  exact ⟨_, _, rfl, rfl, okO_m h⟩
