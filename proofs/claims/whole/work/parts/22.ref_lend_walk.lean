/-! ===== the reference's acts that lend, walked ===== -/
theorem at91 (u : MM) : (mX6_lends u).1 1000 = 91 := by simp [mX6_lends]
theorem atL (u : MM) : atOk (mX6_lends u) := Or.inr (at91 u)
theorem B6L (u : MM) : B6 (mX6_lends u) = 1191 := by rw [B6, at91]; rfl
theorem ln_lo (u : MM) {i : Nat} (hi : i < 91) : ln u i = R6 u i := by
  show vw (mX6_lends u) (B6 (mX6_lends u)) i = _
  rw [B6L]
  simp only [vw, mX6_lends]
  rw [if_neg (by omega), if_pos (by omega), show 1191 + i - 91 = 1100 + i by omega]
theorem ln_hi (u : MM) {i : Nat} (hi : 91 ≤ i) : ln u i = u.1 (1191 + i) := by
  show vw (mX6_lends u) (B6 (mX6_lends u)) i = _
  rw [B6L]
  simp only [vw, mX6_lends]
  rw [if_neg (by omega), if_neg (by omega)]
theorem Lv_of {R S : Nat → Int32} (hM : NN (R 1) ≤ 6) (hK : NN (R 2) ≤ 10) (h : ∀ i, i < 91 → R i = S i) : Lv R S :=
  ⟨h 0 (by decide), h 1 (by decide), h 2 (by decide), fun s hs k hk => h _ (by omega), fun c hc k hk => h _ (by omega)⟩
theorem lnV {u : MM} (h : Ok (R6 u)) : Lv (R6 u) (ln u) := Lv_of h.M.1 h.K.1 (fun _ hi => (ln_lo u hi).symm)
/-- the same but for what is lent -/
def Sc (u v : MM) : Prop := v.2 = u.2 ∧ ∀ j, j < 1191 ∨ 1282 ≤ j → v.1 j = u.1 j
theorem Sc.rf (u : MM) : Sc u u := ⟨rfl, fun _ _ => rfl⟩
theorem Sc.tr {u v x : MM} (h : Sc u v) (g : Sc v x) : Sc u x := ⟨g.1.trans h.1, fun j hj => (g.2 j hj).trans (h.2 j hj)⟩
theorem sc_Sc {u : MM} {R : Nat → Int32} (h0 : u.1 1000 = 0) (hR : ∀ i, 91 ≤ i → R i = ln u i) : Sc u (sc u R) := by
  refine ⟨rfl, fun j hj => ?_⟩
  simp only [sc, uI, upd]
  by_cases q : j = 1000
  · rw [if_pos q, q, h0]
  · rw [if_neg q, pv]
    simp only [B6L]
    rcases hj with hj | hj
    · rw [if_neg (by omega)]
      simp only [mX6_lends]
      rw [if_neg q, if_neg (by omega)]
    · rw [if_pos (by omega), hR _ (by omega), ln_hi u (by omega), show 1191 + (j - 1191) = j by omega]
theorem Sc.lv {u v : MM} (h : Ok (R6 u)) (s : Sc u v) : Lv (R6 u) (R6 v) := Lv_of h.M.1 h.K.1 (fun i hi => (s.2 (1100 + i) (by omega)).symm)
theorem Sc.i6 {u v : MM} (h : I6 u) (s : Sc u v) : I6 v := ⟨(s.2 1000 (by decide)).trans h.1, (s.lv h.2).Ok h.2⟩
theorem sc_go {u : MM} (h : I6 u) (n : Nat) : Sc u (sc u (goP n (ln u))) := sc_Sc h.1 (fun _ hi => goP_hi ((lnV h.2).Ok h.2) hi n)
theorem ml0 {o : OP} {u v : MM} (h : o = .inl 0) : (-1000000001 : Int32) = an o ∧ fnd6 0 u = ml o u v := by subst h; exact ⟨fk0.symm, rfl⟩
theorem ml3 {o : OP} {u v : MM} (h : o = .inl 3) : (-1000000004 : Int32) = an o ∧ fnd6 3 v = ml o u v := by subst h; exact ⟨fk3.symm, rfl⟩
theorem ml4 {o : OP} {u v : MM} (h : o = .inl 4) : (-1000000005 : Int32) = an o ∧ fnd6 4 u = ml o u v := by subst h; exact ⟨fk4.symm, rfl⟩
theorem mlr {o : OP} {u v : MM} {a : Int32} {S : Nat → Int32} (h : o = .inr (a, S)) : a = an o ∧ v = ml o u v := by subst h; exact ⟨rfl, rfl⟩
theorem goSe {R S : Nat → Int32} (h : Lv R S) (hO : Ok R) (n : Nat) {s : Nat} (hs : s < NN (R 1)) : se (goP n R) s 2 = se (goP n S) s 2 := (goP_lv h hO n).2.2.2.1 s (by rw [(goP_12 n).1]; exact hs) 2 (by decide)
theorem goOn {R S : Nat → Int32} (h : Lv R S) (hO : Ok R) (n : Nat) {c k : Nat} (hc : c < NN (R 2)) (hk : k < 7) : on (goP n R) c k = on (goP n S) c k := (goP_lv h hO n).2.2.2.2 c (by rw [(goP_12 n).2]; exact hc) k hk
theorem vX6_holder (w : WW) : VX6_holder w := by
  intro s n u h
  have h0 := h.1
  have ha : atOk u := Or.inl h0
  have hl := lnV h.2
  have hLO : Ok (ln u) := hl.Ok h.2
  have e0 : u.1 1100 = R6 u 0 := rfl
  simp only [eX6_holder_0, eX6_holder_1, eX6_holder_2, eX6_holder_5, eX6_holder_8, eX6_holder_9, eX6_holder_12, eX6_holder_15, eX6_holder_16, eX6_holder_18, eX6_holder_21, eX6_holder_22, eX6_holder_23, eX6_holder_24, eX6_holder_27, eX6_holder_30, eX6_holder_31, eX6_holder_33, eX6_holder_36, eX6_holder_37, eX6_holder_38, eX6_holder_41, eX6_holder_42, eX6_holder_43, eX6_holder_46, eX6_holder_47, eX6_holder_48, eX6_holder_49, eX6_holder_52, eX6_holder_53, eX6_holder_54, eX6_holder_55, eX6_holder_58, eX6_holder_59, kl_i, kl_r, kl_n, kl_l, true_and, and_true, true_implies, false_implies, not_true_eq_false, not_false_eq_true, i10, Classical.not_not, pOne, mX6_sets, mX6_setsChair, pX6_sets, pX6_setsChair, pX6_chair, pX6_man, pX6_its, RW_pv, pv_pv, B6_pv, atOk_pv, N_0, N_1, N_2, N_3, N_4, N_5, N_6, v7_0, v7_1, v7_2, v7_3, v7_4, v7_5, v7_6, v3_0, v3_1, v3_2, ch0, ch1, ch2, man0, man1, man2, man3, man4, man5, man6, its0, its1, its2, pX6_isSeat, rX6_isSeat, pX6_isOne, rX6_isOne, pX6_isLong, rX6_isLong, pX6_isLate, rX6_isLate, pX6_lends, pX6_go, mX6_go, bi_0, pf0, pf1, pf2, pf3, pf4, pf5, pf6, mf0, mf1, mf2, mf3, mf4, mf5, mf6, rX6_finds, RW6 h0, ha, atL, hLO, ok_m1, ix_m1, e0, rX6_holder, mX6_holder, Option.some.injEq, Value.int.injEq]
  refine ⟨fun c1 => ml0 (by rw [oHolder, if_pos (fun z => c1 z.1)]), fun c1 => ⟨fun c2 => ⟨fun c3 => ?_, fun c3 => ml4 (by rw [oHolder, if_neg (fun z => z ⟨c1, c2⟩), if_pos c3])⟩, fun c2 => ml0 (by rw [oHolder, if_pos (fun z => c2 z.2)])⟩⟩
  have hs := (isSt_vi h.2).mp c1
  have hN : NN s < NN (R6 u 1) := vi_lt hs
  refine ⟨vi_mono hs h.2.M.1, mlr (S := R6 u) ?_⟩
  rw [oHolder, if_neg (fun z => z ⟨c1, c2⟩), if_neg c3, goSe hl h.2 (NN n) hN]
theorem wcX6_148 : ∀ x ∈ wV1 RX6 148 yX6_isLate MX6_isLate, x ∈ Gt := by decide +kernel
theorem nmX6_isLate : nmOk yX6_isLate 1 = true := by decide +kernel
theorem wcX6_151 : ∀ x ∈ wV1 RX6 151 yX6_go MX6_go, x ∈ Gt := by decide +kernel
theorem nmX6_go : nmOk yX6_go 1 = true := by decide +kernel
theorem wcX6_157 : ∀ x ∈ wV1 RX6 157 yX6_lends MX6_lends, x ∈ Gt := by decide +kernel
theorem nmX6_lends : nmOk yX6_lends 0 = true := by decide +kernel
theorem wcX6_65690 : ∀ x ∈ wS1 RX6 154 yX6_isLong MX6_isLong, x ∈ Gt := by decide +kernel
theorem nmX6_isLong : nmOk yX6_isLong 1 = true := by decide +kernel
set_option maxRecDepth 20000 in
theorem KX6_holder_ok (w : WW) : KOk w MX6_holder (KX6_holder w) := KOk_mk flX6_ok ciX6_ok clX6_ok (fun _ _ h => by cases h) (fun _ _ h => by cases h) (List.forall_mem_cons.mpr ⟨itV (n := 71) (by decide) (COk_V (n := 2) (ci := 6) (ctX6_chair w) wcX6_71 nmX6_chair (by decide) (by decide) rfl (prX6_chair w)), List.forall_mem_cons.mpr ⟨itV (n := 87) (by decide) (COk_V (n := 1) (ci := 6) (ctX6_finds w) wcX6_87 nmX6_finds (by decide) (by decide) rfl (prX6_finds w)), List.forall_mem_cons.mpr ⟨itV (n := 99) (by decide) (COk_V (n := 1) (ci := 6) (ctX6_isSeat w) wcX6_99 nmX6_isSeat (by decide) (by decide) rfl (prX6_isSeat w)), List.forall_mem_cons.mpr ⟨itV (n := 148) (by decide) (COk_V (n := 1) (ci := 6) (ctX6_isLate w) wcX6_148 nmX6_isLate (by decide) (by decide) rfl (prX6_isLate w)), List.forall_mem_cons.mpr ⟨itV (n := 151) (by decide) (COk_V (n := 1) (ci := 6) (ctX6_go w) wcX6_151 nmX6_go (by decide) (by decide) rfl (prX6_go w)), List.forall_mem_cons.mpr ⟨itV (n := 157) (by decide) (COk_V (n := 0) (ci := 6) (ctX6_lends w) wcX6_157 nmX6_lends (by decide) (by decide) rfl (prX6_lends w)), List.forall_mem_cons.mpr ⟨itS (n := 154) (COk_S (n := 1) (ctX6_isLong w) wcX6_65690 nmX6_isLong (by decide)), List.forall_mem_nil _⟩⟩⟩⟩⟩⟩⟩)
theorem ctX6_holder (w : WW) : CT w yX6_holder MX6_holder (csX6_holder w).2.1 (csX6_holder w).2.2 := by
  refine CT_of (by decide) rfl TX6_holder_ok TX6_holder_v (KX6_holder_ok w) (fun as u h => ?_)
  obtain ⟨a0, a1, a2, rfl, h⟩ := sgRII h
  obtain ⟨rfl, hh⟩ := h
  refine ⟨Nat.le_of_ble_eq_true rfl, ?_⟩
  have key := vX6_holder w a1 a2 u hh
  exact key
theorem prX6_holder (w : WW) : ∀ as u, (csX6_holder w).2.1 as u → ∃ a r, as = .ref a :: r ∧ r.length = 2 ∧ okO w a 6 := by
  intro as u h
  obtain ⟨a0, a1, a2, rfl, h⟩ := sgRII h
  exact ⟨_, _, rfl, rfl, okO_m h⟩
theorem vX6_where (w : WW) : VX6_where w := by
  intro s n u h
  have h0 := h.1
  have ha : atOk u := Or.inl h0
  have hl := lnV h.2
  have hLO : Ok (ln u) := hl.Ok h.2
  have e0 : u.1 1100 = R6 u 0 := rfl
  simp only [eX6_where_0, eX6_where_1, eX6_where_2, eX6_where_5, eX6_where_8, eX6_where_9, eX6_where_12, eX6_where_15, eX6_where_16, eX6_where_18, eX6_where_21, eX6_where_22, eX6_where_23, eX6_where_24, eX6_where_27, eX6_where_30, eX6_where_31, eX6_where_33, eX6_where_36, eX6_where_37, eX6_where_38, eX6_where_41, eX6_where_42, eX6_where_43, eX6_where_46, eX6_where_47, eX6_where_48, eX6_where_49, eX6_where_52, eX6_where_53, eX6_where_54, eX6_where_55, eX6_where_58, eX6_where_59, kl_i, kl_r, kl_n, kl_l, true_and, and_true, true_implies, false_implies, not_true_eq_false, not_false_eq_true, i10, Classical.not_not, pOne, mX6_sets, mX6_setsChair, pX6_sets, pX6_setsChair, pX6_chair, pX6_man, pX6_its, RW_pv, pv_pv, B6_pv, atOk_pv, N_0, N_1, N_2, N_3, N_4, N_5, N_6, v7_0, v7_1, v7_2, v7_3, v7_4, v7_5, v7_6, v3_0, v3_1, v3_2, ch0, ch1, ch2, man0, man1, man2, man3, man4, man5, man6, its0, its1, its2, pX6_isSeat, rX6_isSeat, pX6_isOne, rX6_isOne, pX6_isLong, rX6_isLong, pX6_isLate, rX6_isLate, pX6_lends, pX6_go, mX6_go, bi_0, pf0, pf1, pf2, pf3, pf4, pf5, pf6, mf0, mf1, mf2, mf3, mf4, mf5, mf6, rX6_finds, RW6 h0, ha, atL, hLO, ok_m1, ix_m1, e0, rX6_where, mX6_where, Option.some.injEq, Value.int.injEq]
  refine ⟨fun c1 => ml0 (by rw [oWhere, if_pos (fun z => c1 z.1)]), fun c1 => ⟨fun c2 => ⟨fun c3 => ?_, fun c3 => ml4 (by rw [oWhere, if_neg (fun z => z ⟨c1, c2⟩), if_pos c3])⟩, fun c2 => ml0 (by rw [oWhere, if_pos (fun z => c2 z.2)])⟩⟩
  have hs := (isOn_vi h.2).mp c1
  have hN : NN s < NN (R6 u 2) := vi_lt hs
  refine ⟨vi_mono hs h.2.K.1, mlr (S := R6 u) ?_⟩
  rw [oWhere, if_neg (fun z => z ⟨c1, c2⟩), if_neg c3, goOn hl h.2 (NN n) hN (by decide)]
set_option maxRecDepth 20000 in
theorem KX6_where_ok (w : WW) : KOk w MX6_where (KX6_where w) := KOk_mk flX6_ok ciX6_ok clX6_ok (fun _ _ h => by cases h) (fun _ _ h => by cases h) (List.forall_mem_cons.mpr ⟨itV (n := 54) (by decide) (COk_V (n := 2) (ci := 6) (ctX6_man w) wcX6_54 nmX6_man (by decide) (by decide) rfl (prX6_man w)), List.forall_mem_cons.mpr ⟨itV (n := 87) (by decide) (COk_V (n := 1) (ci := 6) (ctX6_finds w) wcX6_87 nmX6_finds (by decide) (by decide) rfl (prX6_finds w)), List.forall_mem_cons.mpr ⟨itV (n := 115) (by decide) (COk_V (n := 1) (ci := 6) (ctX6_isOne w) wcX6_115 nmX6_isOne (by decide) (by decide) rfl (prX6_isOne w)), List.forall_mem_cons.mpr ⟨itV (n := 148) (by decide) (COk_V (n := 1) (ci := 6) (ctX6_isLate w) wcX6_148 nmX6_isLate (by decide) (by decide) rfl (prX6_isLate w)), List.forall_mem_cons.mpr ⟨itV (n := 151) (by decide) (COk_V (n := 1) (ci := 6) (ctX6_go w) wcX6_151 nmX6_go (by decide) (by decide) rfl (prX6_go w)), List.forall_mem_cons.mpr ⟨itV (n := 157) (by decide) (COk_V (n := 0) (ci := 6) (ctX6_lends w) wcX6_157 nmX6_lends (by decide) (by decide) rfl (prX6_lends w)), List.forall_mem_cons.mpr ⟨itS (n := 154) (COk_S (n := 1) (ctX6_isLong w) wcX6_65690 nmX6_isLong (by decide)), List.forall_mem_nil _⟩⟩⟩⟩⟩⟩⟩)
theorem ctX6_where (w : WW) : CT w yX6_where MX6_where (csX6_where w).2.1 (csX6_where w).2.2 := by
  refine CT_of (by decide) rfl TX6_where_ok TX6_where_v (KX6_where_ok w) (fun as u h => ?_)
  obtain ⟨a0, a1, a2, rfl, h⟩ := sgRII h
  obtain ⟨rfl, hh⟩ := h
  refine ⟨Nat.le_of_ble_eq_true rfl, ?_⟩
  have key := vX6_where w a1 a2 u hh
  exact key
theorem prX6_where (w : WW) : ∀ as u, (csX6_where w).2.1 as u → ∃ a r, as = .ref a :: r ∧ r.length = 2 ∧ okO w a 6 := by
  intro as u h
  obtain ⟨a0, a1, a2, rfl, h⟩ := sgRII h
  exact ⟨_, _, rfl, rfl, okO_m h⟩
theorem vX6_coins (w : WW) : VX6_coins w := by
  intro s n u h
  have h0 := h.1
  have ha : atOk u := Or.inl h0
  have hl := lnV h.2
  have hLO : Ok (ln u) := hl.Ok h.2
  have e0 : u.1 1100 = R6 u 0 := rfl
  simp only [eX6_coins_0, eX6_coins_1, eX6_coins_2, eX6_coins_5, eX6_coins_8, eX6_coins_9, eX6_coins_12, eX6_coins_15, eX6_coins_16, eX6_coins_18, eX6_coins_21, eX6_coins_22, eX6_coins_23, eX6_coins_24, eX6_coins_27, eX6_coins_30, eX6_coins_31, eX6_coins_33, eX6_coins_36, eX6_coins_37, eX6_coins_38, eX6_coins_41, eX6_coins_42, eX6_coins_43, eX6_coins_46, eX6_coins_47, eX6_coins_48, eX6_coins_49, eX6_coins_52, eX6_coins_53, eX6_coins_54, eX6_coins_55, eX6_coins_58, eX6_coins_59, kl_i, kl_r, kl_n, kl_l, true_and, and_true, true_implies, false_implies, not_true_eq_false, not_false_eq_true, i10, Classical.not_not, pOne, mX6_sets, mX6_setsChair, pX6_sets, pX6_setsChair, pX6_chair, pX6_man, pX6_its, RW_pv, pv_pv, B6_pv, atOk_pv, N_0, N_1, N_2, N_3, N_4, N_5, N_6, v7_0, v7_1, v7_2, v7_3, v7_4, v7_5, v7_6, v3_0, v3_1, v3_2, ch0, ch1, ch2, man0, man1, man2, man3, man4, man5, man6, its0, its1, its2, pX6_isSeat, rX6_isSeat, pX6_isOne, rX6_isOne, pX6_isLong, rX6_isLong, pX6_isLate, rX6_isLate, pX6_lends, pX6_go, mX6_go, bi_0, pf0, pf1, pf2, pf3, pf4, pf5, pf6, mf0, mf1, mf2, mf3, mf4, mf5, mf6, rX6_finds, RW6 h0, ha, atL, hLO, ok_m1, ix_m1, e0, rX6_coins, mX6_coins, Option.some.injEq, Value.int.injEq]
  refine ⟨fun c1 => ml0 (by rw [oCoins, if_pos (fun z => c1 z.1)]), fun c1 => ⟨fun c2 => ⟨fun c3 => ?_, fun c3 => ml4 (by rw [oCoins, if_neg (fun z => z ⟨c1, c2⟩), if_pos c3])⟩, fun c2 => ml0 (by rw [oCoins, if_pos (fun z => c2 z.2)])⟩⟩
  have hs := (isOn_vi h.2).mp c1
  have hN : NN s < NN (R6 u 2) := vi_lt hs
  refine ⟨vi_mono hs h.2.K.1, mlr (S := R6 u) ?_⟩
  rw [oCoins, if_neg (fun z => z ⟨c1, c2⟩), if_neg c3, goOn hl h.2 (NN n) hN (by decide)]
set_option maxRecDepth 20000 in
theorem KX6_coins_ok (w : WW) : KOk w MX6_coins (KX6_coins w) := KOk_mk flX6_ok ciX6_ok clX6_ok (fun _ _ h => by cases h) (fun _ _ h => by cases h) (List.forall_mem_cons.mpr ⟨itV (n := 54) (by decide) (COk_V (n := 2) (ci := 6) (ctX6_man w) wcX6_54 nmX6_man (by decide) (by decide) rfl (prX6_man w)), List.forall_mem_cons.mpr ⟨itV (n := 87) (by decide) (COk_V (n := 1) (ci := 6) (ctX6_finds w) wcX6_87 nmX6_finds (by decide) (by decide) rfl (prX6_finds w)), List.forall_mem_cons.mpr ⟨itV (n := 115) (by decide) (COk_V (n := 1) (ci := 6) (ctX6_isOne w) wcX6_115 nmX6_isOne (by decide) (by decide) rfl (prX6_isOne w)), List.forall_mem_cons.mpr ⟨itV (n := 148) (by decide) (COk_V (n := 1) (ci := 6) (ctX6_isLate w) wcX6_148 nmX6_isLate (by decide) (by decide) rfl (prX6_isLate w)), List.forall_mem_cons.mpr ⟨itV (n := 151) (by decide) (COk_V (n := 1) (ci := 6) (ctX6_go w) wcX6_151 nmX6_go (by decide) (by decide) rfl (prX6_go w)), List.forall_mem_cons.mpr ⟨itV (n := 157) (by decide) (COk_V (n := 0) (ci := 6) (ctX6_lends w) wcX6_157 nmX6_lends (by decide) (by decide) rfl (prX6_lends w)), List.forall_mem_cons.mpr ⟨itS (n := 154) (COk_S (n := 1) (ctX6_isLong w) wcX6_65690 nmX6_isLong (by decide)), List.forall_mem_nil _⟩⟩⟩⟩⟩⟩⟩)
theorem ctX6_coins (w : WW) : CT w yX6_coins MX6_coins (csX6_coins w).2.1 (csX6_coins w).2.2 := by
  refine CT_of (by decide) rfl TX6_coins_ok TX6_coins_v (KX6_coins_ok w) (fun as u h => ?_)
  obtain ⟨a0, a1, a2, rfl, h⟩ := sgRII h
  obtain ⟨rfl, hh⟩ := h
  refine ⟨Nat.le_of_ble_eq_true rfl, ?_⟩
  have key := vX6_coins w a1 a2 u hh
  exact key
theorem prX6_coins (w : WW) : ∀ as u, (csX6_coins w).2.1 as u → ∃ a r, as = .ref a :: r ∧ r.length = 2 ∧ okO w a 6 := by
  intro as u h
  obtain ⟨a0, a1, a2, rfl, h⟩ := sgRII h
  exact ⟨_, _, rfl, rfl, okO_m h⟩
theorem getN_lv {R S : Nat → Int32} (h : Lv R S) (hO : Ok R) {s : Nat} (hs : s < NN (R 1)) (c : Int32) : ∀ f n, getN S s c n f = getN R s c n f
  | 0, _ => rfl
  | f + 1, n => by simp only [getN]; rw [← goSe h hO n hs, getN_lv h hO hs c f]
theorem vX6_gets (w : WW) : VX6_gets w := by
  intro c s u h
  have h0 := h.1
  have ha : atOk u := Or.inl h0
  have hl := lnV h.2
  have hLO : Ok (ln u) := hl.Ok h.2
  have e0 : u.1 1100 = R6 u 0 := rfl
  simp only [eX6_gets_0, eX6_gets_1, eX6_gets_2, eX6_gets_5, eX6_gets_8, eX6_gets_9, eX6_gets_10, eX6_gets_13, eX6_gets_16, eX6_gets_17, eX6_gets_19, eX6_gets_22, eX6_gets_23, eX6_gets_24, eX6_gets_27, eX6_gets_30, eX6_gets_33, eX6_gets_34, eX6_gets_36, eX6_gets_39, eX6_gets_40, eX6_gets_41, eX6_gets_44, eX6_gets_45, eX6_gets_47, eX6_gets_50, eX6_gets_53, eX6_gets_54, eX6_gets_55, eX6_gets_56, eX6_gets_59, eX6_gets_60, eX6_gets_63, eX6_gets_64, eX6_gets_67, eX6_gets_70, eX6_gets_73, eX6_gets_74, eX6_gets_75, eX6_gets_78, eX6_gets_79, eX6_gets_82, eX6_gets_85, eX6_gets_86, eX6_gets_88, eX6_gets_91, eX6_gets_94, eX6_gets_95, kl_i, kl_r, kl_n, kl_l, true_and, and_true, true_implies, false_implies, not_true_eq_false, not_false_eq_true, i10, Classical.not_not, pOne, mX6_sets, mX6_setsChair, pX6_sets, pX6_setsChair, pX6_chair, pX6_man, pX6_its, RW_pv, pv_pv, B6_pv, atOk_pv, N_0, N_1, N_2, N_3, N_4, N_5, N_6, v7_0, v7_1, v7_2, v7_3, v7_4, v7_5, v7_6, v3_0, v3_1, v3_2, ch0, ch1, ch2, man0, man1, man2, man3, man4, man5, man6, its0, its1, its2, pX6_isSeat, rX6_isSeat, pX6_isOne, rX6_isOne, pX6_isLate, rX6_isLate, pX6_lends, bi_0, pf0, pf1, pf2, pf3, pf4, pf5, pf6, mf0, mf1, mf2, mf3, mf4, mf5, mf6, rX6_finds, RW6 h0, ha, e0, rX6_gets, mX6_gets, Option.some.injEq, Value.int.injEq]
  refine ⟨fun c1 => ml0 (by rw [oGets, if_pos (fun z => c1 z.1)]), fun c1 => ⟨fun c2 => ⟨fun c3 => ?_, fun c3 => ml4 (by rw [oGets, if_neg (fun z => z ⟨c1, c2⟩), if_pos c3])⟩, fun c2 => ml0 (by rw [oGets, if_pos (fun z => c2 z.2)])⟩⟩
  have hs := (isSt_vi h.2).mp c2
  have hN : NN s < NN (R6 u 1) := vi_lt hs
  have hs6 : vp_in s 6 := vi_mono hs h.2.M.1
  have key : ∀ (f n : Nat), n + f = 201 → getN (R6 u) (NN s) c n f = getN (R6 u) (NN s) c 0 201 → GX6_gets w (fun r u' => r = some (.int (an (oGets (R6 u) c s))) ∧ u' = ml (oGets (R6 u) c s) u (sc u (goP (getN (R6 u) (NN s) c 0 201) (ln u)))) 46 [some (.ref (mA w)), some (.int c), some (.int s), some (.int (nI n))] [] (pv (mX6_lends u) (B6 (mX6_lends u)) (goP n (ln u))) := by
    intro f
    induction f with
    | zero =>
      intro n hn e
      have e3 : n = 201 := by omega
      subst e3
      have hgt : ¬ nI 201 ≤ 200 := by decide
      have hgt2 : 200 < nI 201 := by decide
      have e4 : getN (R6 u) (NN s) c 0 201 = 201 := e.symm.trans rfl
      rw [eX6_gets_46]
      simp only [eX6_gets_0, eX6_gets_1, eX6_gets_2, eX6_gets_5, eX6_gets_8, eX6_gets_9, eX6_gets_10, eX6_gets_13, eX6_gets_16, eX6_gets_17, eX6_gets_19, eX6_gets_22, eX6_gets_23, eX6_gets_24, eX6_gets_27, eX6_gets_30, eX6_gets_33, eX6_gets_34, eX6_gets_36, eX6_gets_39, eX6_gets_40, eX6_gets_41, eX6_gets_44, eX6_gets_45, eX6_gets_47, eX6_gets_50, eX6_gets_53, eX6_gets_54, eX6_gets_55, eX6_gets_56, eX6_gets_59, eX6_gets_60, eX6_gets_63, eX6_gets_64, eX6_gets_67, eX6_gets_70, eX6_gets_73, eX6_gets_74, eX6_gets_75, eX6_gets_78, eX6_gets_79, eX6_gets_82, eX6_gets_85, eX6_gets_86, eX6_gets_88, eX6_gets_91, eX6_gets_94, eX6_gets_95, kl_i, kl_r, kl_n, kl_l, true_and, and_true, true_implies, false_implies, not_true_eq_false, not_false_eq_true, i10, Classical.not_not, hgt, hgt2, ok_m1, ix_m1, pf0, pf1, pf2, pf3, pf4, pf5, pf6, mf0, mf1, mf2, mf3, mf4, mf5, mf6, rX6_finds, Option.some.injEq, Value.int.injEq, e4]
      exact ml3 (by rw [oGets, if_neg (fun z => z ⟨c1, c2⟩), if_neg c3, if_pos (by omega)])
    | succ f ih =>
      intro n hn e
      have hle : nI n ≤ 200 := nI_le (a := n) (b := 200) (by omega) (by decide)
      have hle2 : ¬ 200 < nI n := Int32.not_lt.mpr hle
      rw [getN] at e
      have e5 := (goSe hl h.2 n hN).symm
      rw [eX6_gets_46]
      simp only [eX6_gets_0, eX6_gets_1, eX6_gets_2, eX6_gets_5, eX6_gets_8, eX6_gets_9, eX6_gets_10, eX6_gets_13, eX6_gets_16, eX6_gets_17, eX6_gets_19, eX6_gets_22, eX6_gets_23, eX6_gets_24, eX6_gets_27, eX6_gets_30, eX6_gets_33, eX6_gets_34, eX6_gets_36, eX6_gets_39, eX6_gets_40, eX6_gets_41, eX6_gets_44, eX6_gets_45, eX6_gets_47, eX6_gets_50, eX6_gets_53, eX6_gets_54, eX6_gets_55, eX6_gets_56, eX6_gets_59, eX6_gets_60, eX6_gets_63, eX6_gets_64, eX6_gets_67, eX6_gets_70, eX6_gets_73, eX6_gets_74, eX6_gets_75, eX6_gets_78, eX6_gets_79, eX6_gets_82, eX6_gets_85, eX6_gets_86, eX6_gets_88, eX6_gets_91, eX6_gets_94, eX6_gets_95, kl_i, kl_r, kl_n, kl_l, true_and, and_true, true_implies, false_implies, not_true_eq_false, not_false_eq_true, i10, Classical.not_not, pOne, mX6_sets, mX6_setsChair, pX6_sets, pX6_setsChair, pX6_chair, pX6_man, pX6_its, RW_pv, pv_pv, B6_pv, atOk_pv, N_0, N_1, N_2, N_3, N_4, N_5, N_6, v7_0, v7_1, v7_2, v7_3, v7_4, v7_5, v7_6, v3_0, v3_1, v3_2, ch0, ch1, ch2, man0, man1, man2, man3, man4, man5, man6, its0, its1, its2, hle, hle2, atL, hs6, ok_m1, ix_m1, pf0, pf1, pf2, pf3, pf4, pf5, pf6, mf0, mf1, mf2, mf3, mf4, mf5, mf6, rX6_finds, Option.some.injEq, Value.int.injEq, e5, pX6_secondGoes, mX6_secondGoes, goP_Ok hLO n, ← goP_1]
      refine ⟨fun d => ?_, fun d => ?_⟩
      · rw [if_pos d] at e
        rw [← e]
        refine mlr (S := R6 u) ?_
        rw [oGets, if_neg (fun z => z ⟨c1, c2⟩), if_neg c3, ← e, if_neg (by omega)]
      · rw [if_neg d] at e
        rw [nI_1]
        exact ih (n + 1) (by omega) e
  have := key 201 0 (by omega) rfl
  rw [show goP 0 (ln u) = RW (mX6_lends u) from rfl, pv_vw] at this
  exact this
set_option maxRecDepth 20000 in
theorem KX6_gets_ok (w : WW) : KOk w MX6_gets (KX6_gets w) := KOk_mk flX6_ok ciX6_ok clX6_ok (fun _ _ h => by cases h) (fun _ _ h => by cases h) (List.forall_mem_cons.mpr ⟨itV (n := 71) (by decide) (COk_V (n := 2) (ci := 6) (ctX6_chair w) wcX6_71 nmX6_chair (by decide) (by decide) rfl (prX6_chair w)), List.forall_mem_cons.mpr ⟨itV (n := 87) (by decide) (COk_V (n := 1) (ci := 6) (ctX6_finds w) wcX6_87 nmX6_finds (by decide) (by decide) rfl (prX6_finds w)), List.forall_mem_cons.mpr ⟨itV (n := 99) (by decide) (COk_V (n := 1) (ci := 6) (ctX6_isSeat w) wcX6_99 nmX6_isSeat (by decide) (by decide) rfl (prX6_isSeat w)), List.forall_mem_cons.mpr ⟨itV (n := 115) (by decide) (COk_V (n := 1) (ci := 6) (ctX6_isOne w) wcX6_115 nmX6_isOne (by decide) (by decide) rfl (prX6_isOne w)), List.forall_mem_cons.mpr ⟨itV (n := 145) (by decide) (COk_V (n := 0) (ci := 6) (ctX6_secondGoes w) wcX6_145 nmX6_secondGoes (by decide) (by decide) rfl (prX6_secondGoes w)), List.forall_mem_cons.mpr ⟨itV (n := 148) (by decide) (COk_V (n := 1) (ci := 6) (ctX6_isLate w) wcX6_148 nmX6_isLate (by decide) (by decide) rfl (prX6_isLate w)), List.forall_mem_cons.mpr ⟨itV (n := 157) (by decide) (COk_V (n := 0) (ci := 6) (ctX6_lends w) wcX6_157 nmX6_lends (by decide) (by decide) rfl (prX6_lends w)), List.forall_mem_nil _⟩⟩⟩⟩⟩⟩⟩)
theorem ctX6_gets (w : WW) : CT w yX6_gets MX6_gets (csX6_gets w).2.1 (csX6_gets w).2.2 := by
  refine CT_of (by decide) rfl TX6_gets_ok TX6_gets_v (KX6_gets_ok w) (fun as u h => ?_)
  obtain ⟨a0, a1, a2, rfl, h⟩ := sgRII h
  obtain ⟨rfl, hh⟩ := h
  refine ⟨Nat.le_of_ble_eq_true rfl, ?_⟩
  have key := vX6_gets w a1 a2 u hh
  exact key
theorem prX6_gets (w : WW) : ∀ as u, (csX6_gets w).2.1 as u → ∃ a r, as = .ref a :: r ∧ r.length = 2 ∧ okO w a 6 := by
  intro as u h
  obtain ⟨a0, a1, a2, rfl, h⟩ := sgRII h
  exact ⟨_, _, rfl, rfl, okO_m h⟩
theorem richN_rng (R : Nat → Int32) : ∀ n, richN R n = -1 ∨ ∃ c, c < n ∧ richN R n = nI c
  | 0 => Or.inl rfl
  | n + 1 => by
    simp only [richN]; split
    · exact Or.inr ⟨n, by omega, rfl⟩
    · rcases richN_rng R n with e | ⟨c, hc, e⟩
      · exact Or.inl e
      · exact Or.inr ⟨c, by omega, e⟩
theorem richN_lv {R S : Nat → Int32} (h : Lv R S) (hK : NN (R 2) < 2 ^ 31) : ∀ n, n ≤ NN (R 2) → richN S n = richN R n
  | 0, _ => rfl
  | n + 1, hn => by
    have ih := richN_lv h hK n (by omega)
    simp only [richN]
    rw [ih, ← h.2.2.2.2 n (by omega) 4 (by decide)]
    rcases richN_rng R n with e | ⟨c, hc, e⟩
    · rw [e, if_pos (Or.inl (by decide)), if_pos (Or.inl (by decide))]
    · rw [e, NN_nI (by omega), ← h.2.2.2.2 c (by omega) 4 (by decide)]
theorem vX6_rich (w : WW) : VX6_rich w := by
  intro n u h
  have h0 := h.1
  have ha : atOk u := Or.inl h0
  have hl := lnV h.2
  have hLO : Ok (ln u) := hl.Ok h.2
  have e0 : u.1 1100 = R6 u 0 := rfl
  obtain ⟨K, hK, eK, eN⟩ := i6K h
  simp only [eX6_rich_0, eX6_rich_1, eX6_rich_4, eX6_rich_7, eX6_rich_8, eX6_rich_10, eX6_rich_13, eX6_rich_14, eX6_rich_15, eX6_rich_16, eX6_rich_19, eX6_rich_22, eX6_rich_23, eX6_rich_25, eX6_rich_28, eX6_rich_29, eX6_rich_30, eX6_rich_33, eX6_rich_34, eX6_rich_35, eX6_rich_38, eX6_rich_39, eX6_rich_40, eX6_rich_41, eX6_rich_43, eX6_rich_44, eX6_rich_45, eX6_rich_48, eX6_rich_51, eX6_rich_52, eX6_rich_55, eX6_rich_56, eX6_rich_57, eX6_rich_58, eX6_rich_61, eX6_rich_62, eX6_rich_63, eX6_rich_66, eX6_rich_67, eX6_rich_70, eX6_rich_71, eX6_rich_72, eX6_rich_75, eX6_rich_78, eX6_rich_79, eX6_rich_82, eX6_rich_83, eX6_rich_84, eX6_rich_87, eX6_rich_90, eX6_rich_91, eX6_rich_92, eX6_rich_95, eX6_rich_96, eX6_rich_99, eX6_rich_100, eX6_rich_102, eX6_rich_105, eX6_rich_108, eX6_rich_109, kl_i, kl_r, kl_n, kl_l, true_and, and_true, true_implies, false_implies, not_true_eq_false, not_false_eq_true, i10, Classical.not_not, pOne, mX6_sets, mX6_setsChair, pX6_sets, pX6_setsChair, pX6_chair, pX6_man, pX6_its, RW_pv, pv_pv, B6_pv, atOk_pv, N_0, N_1, N_2, N_3, N_4, N_5, N_6, v7_0, v7_1, v7_2, v7_3, v7_4, v7_5, v7_6, v3_0, v3_1, v3_2, ch0, ch1, ch2, man0, man1, man2, man3, man4, man5, man6, its0, its1, its2, pX6_isLong, rX6_isLong, pX6_isLate, rX6_isLate, pX6_lends, pX6_go, mX6_go, bi_0, pf0, pf1, pf2, pf3, pf4, pf5, pf6, mf0, mf1, mf2, mf3, mf4, mf5, mf6, rX6_finds, RW6 h0, ha, atL, hLO, e0, rX6_rich, mX6_rich, Option.some.injEq, Value.int.injEq]
  refine ⟨fun c1 => ⟨fun c2 => ?_, fun c2 => ml4 (by rw [oRich, if_neg (fun z => z c1), if_pos c2])⟩, fun c1 => ml0 (by rw [oRich, if_pos c1])⟩
  have gl := goP_lv hl h.2 (NN n)
  have e2 : goP (NN n) (ln u) 2 = nI K := by rw [(goP_12 _).2, ← hl.2.2.1]; exact eK
  have key : ∀ (m i : Nat), i + m = K → GX6_rich w (fun r u' => r = some (.int (an (oRich (R6 u) n))) ∧ u' = ml (oRich (R6 u) n) u (sc u (goP (NN n) (ln u)))) 42 [some (.ref (mA w)), some (.int n), some (.int (richN (goP (NN n) (ln u)) i)), some (.int (nI i))] [] (pv (mX6_lends u) (B6 (mX6_lends u)) (goP (NN n) (ln u))) := by
    intro m
    induction m with
    | zero =>
      intro i hi
      have e3 : i = K := by omega
      subst e3
      have hle : nI i ≤ nI i := Int32.le_refl _
      have er : richN (goP (NN n) (ln u)) i = richN (goP (NN n) (R6 u)) (NN (R6 u 2)) := by
        rw [eN]; exact richN_lv gl (by rw [(goP_12 _).2, eN]; omega) i (by rw [(goP_12 _).2, eN]; omega)
      rw [eX6_rich_42]
      simp only [eX6_rich_0, eX6_rich_1, eX6_rich_4, eX6_rich_7, eX6_rich_8, eX6_rich_10, eX6_rich_13, eX6_rich_14, eX6_rich_15, eX6_rich_16, eX6_rich_19, eX6_rich_22, eX6_rich_23, eX6_rich_25, eX6_rich_28, eX6_rich_29, eX6_rich_30, eX6_rich_33, eX6_rich_34, eX6_rich_35, eX6_rich_38, eX6_rich_39, eX6_rich_40, eX6_rich_41, eX6_rich_43, eX6_rich_44, eX6_rich_45, eX6_rich_48, eX6_rich_51, eX6_rich_52, eX6_rich_55, eX6_rich_56, eX6_rich_57, eX6_rich_58, eX6_rich_61, eX6_rich_62, eX6_rich_63, eX6_rich_66, eX6_rich_67, eX6_rich_70, eX6_rich_71, eX6_rich_72, eX6_rich_75, eX6_rich_78, eX6_rich_79, eX6_rich_82, eX6_rich_83, eX6_rich_84, eX6_rich_87, eX6_rich_90, eX6_rich_91, eX6_rich_92, eX6_rich_95, eX6_rich_96, eX6_rich_99, eX6_rich_100, eX6_rich_102, eX6_rich_105, eX6_rich_108, eX6_rich_109, kl_i, kl_r, kl_n, kl_l, true_and, and_true, true_implies, false_implies, not_true_eq_false, not_false_eq_true, i10, Classical.not_not, pOne, mX6_sets, mX6_setsChair, pX6_sets, pX6_setsChair, pX6_chair, pX6_man, pX6_its, RW_pv, pv_pv, B6_pv, atOk_pv, N_0, N_1, N_2, N_3, N_4, N_5, N_6, v7_0, v7_1, v7_2, v7_3, v7_4, v7_5, v7_6, v3_0, v3_1, v3_2, ch0, ch1, ch2, man0, man1, man2, man3, man4, man5, man6, its0, its1, its2, atL, e2, hle, ok_m1, ix_m1, pf0, pf1, pf2, pf3, pf4, pf5, pf6, mf0, mf1, mf2, mf3, mf4, mf5, mf6, rX6_finds, Option.some.injEq, Value.int.injEq]
      rw [er]
      refine ⟨fun d => mlr (S := R6 u) ?_, fun d => ml3 ?_⟩
      · rw [oRich, if_neg (fun z => z c1), if_neg c2, if_neg (Int32.not_lt.mpr d)]
      · rw [oRich, if_neg (fun z => z c1), if_neg c2, if_pos (Int32.not_le.mp d)]
    | succ m ih =>
      intro i hi
      have hlt : ¬ nI K ≤ nI i := nI_ge (by omega) (by omega)
      have hv : vp_in (nI i) 10 := vi_nI (by omega)
      have hNi : NN (nI i) = i := NN_nI (by omega)
      have go : ∀ x : Int32, x = richN (goP (NN n) (ln u)) (i + 1) → GX6_rich w (fun r u' => r = some (.int (an (oRich (R6 u) n))) ∧ u' = ml (oRich (R6 u) n) u (sc u (goP (NN n) (ln u)))) 42 [some (.ref (mA w)), some (.int n), some (.int x), some (.int (nI i + 1))] [] (pv (mX6_lends u) (B6 (mX6_lends u)) (goP (NN n) (ln u))) := fun x hx => by rw [hx, nI_1]; exact ih (i + 1) (by omega)
      rw [eX6_rich_42]
      rcases richN_rng (goP (NN n) (ln u)) i with e | ⟨d, hd, e⟩
      · rw [e]
        have hm : (-1 : Int32) < 0 := by decide
        have hm2 : ¬ (0 : Int32) ≤ -1 := by decide
        simp only [eX6_rich_0, eX6_rich_1, eX6_rich_4, eX6_rich_7, eX6_rich_8, eX6_rich_10, eX6_rich_13, eX6_rich_14, eX6_rich_15, eX6_rich_16, eX6_rich_19, eX6_rich_22, eX6_rich_23, eX6_rich_25, eX6_rich_28, eX6_rich_29, eX6_rich_30, eX6_rich_33, eX6_rich_34, eX6_rich_35, eX6_rich_38, eX6_rich_39, eX6_rich_40, eX6_rich_41, eX6_rich_43, eX6_rich_44, eX6_rich_45, eX6_rich_48, eX6_rich_51, eX6_rich_52, eX6_rich_55, eX6_rich_56, eX6_rich_57, eX6_rich_58, eX6_rich_61, eX6_rich_62, eX6_rich_63, eX6_rich_66, eX6_rich_67, eX6_rich_70, eX6_rich_71, eX6_rich_72, eX6_rich_75, eX6_rich_78, eX6_rich_79, eX6_rich_82, eX6_rich_83, eX6_rich_84, eX6_rich_87, eX6_rich_90, eX6_rich_91, eX6_rich_92, eX6_rich_95, eX6_rich_96, eX6_rich_99, eX6_rich_100, eX6_rich_102, eX6_rich_105, eX6_rich_108, eX6_rich_109, kl_i, kl_r, kl_n, kl_l, true_and, and_true, true_implies, false_implies, not_true_eq_false, not_false_eq_true, i10, Classical.not_not, pOne, mX6_sets, mX6_setsChair, pX6_sets, pX6_setsChair, pX6_chair, pX6_man, pX6_its, RW_pv, pv_pv, B6_pv, atOk_pv, N_0, N_1, N_2, N_3, N_4, N_5, N_6, v7_0, v7_1, v7_2, v7_3, v7_4, v7_5, v7_6, v3_0, v3_1, v3_2, ch0, ch1, ch2, man0, man1, man2, man3, man4, man5, man6, its0, its1, its2, atL, e2, hlt, hv, hNi, hm, hm2]
        exact go _ (by rw [richN, e, if_pos (Or.inl hm)])
      · rw [e]
        have hm : ¬ nI d < 0 := Int32.not_lt.mpr (nI_pos' (by omega))
        have hm2 : (0 : Int32) ≤ nI d := nI_pos' (by omega)
        have hvd : vp_in (nI d) 10 := vi_nI (by omega)
        have hNd : NN (nI d) = d := NN_nI (by omega)
        simp only [eX6_rich_0, eX6_rich_1, eX6_rich_4, eX6_rich_7, eX6_rich_8, eX6_rich_10, eX6_rich_13, eX6_rich_14, eX6_rich_15, eX6_rich_16, eX6_rich_19, eX6_rich_22, eX6_rich_23, eX6_rich_25, eX6_rich_28, eX6_rich_29, eX6_rich_30, eX6_rich_33, eX6_rich_34, eX6_rich_35, eX6_rich_38, eX6_rich_39, eX6_rich_40, eX6_rich_41, eX6_rich_43, eX6_rich_44, eX6_rich_45, eX6_rich_48, eX6_rich_51, eX6_rich_52, eX6_rich_55, eX6_rich_56, eX6_rich_57, eX6_rich_58, eX6_rich_61, eX6_rich_62, eX6_rich_63, eX6_rich_66, eX6_rich_67, eX6_rich_70, eX6_rich_71, eX6_rich_72, eX6_rich_75, eX6_rich_78, eX6_rich_79, eX6_rich_82, eX6_rich_83, eX6_rich_84, eX6_rich_87, eX6_rich_90, eX6_rich_91, eX6_rich_92, eX6_rich_95, eX6_rich_96, eX6_rich_99, eX6_rich_100, eX6_rich_102, eX6_rich_105, eX6_rich_108, eX6_rich_109, kl_i, kl_r, kl_n, kl_l, true_and, and_true, true_implies, false_implies, not_true_eq_false, not_false_eq_true, i10, Classical.not_not, pOne, mX6_sets, mX6_setsChair, pX6_sets, pX6_setsChair, pX6_chair, pX6_man, pX6_its, RW_pv, pv_pv, B6_pv, atOk_pv, N_0, N_1, N_2, N_3, N_4, N_5, N_6, v7_0, v7_1, v7_2, v7_3, v7_4, v7_5, v7_6, v3_0, v3_1, v3_2, ch0, ch1, ch2, man0, man1, man2, man3, man4, man5, man6, its0, its1, its2, atL, e2, hlt, hv, hNi, hm, hm2, hvd, hNd]
        refine ⟨fun z => go _ ?_, fun z => go _ ?_⟩
        · rw [richN, e, hNd, if_neg (fun y => y.elim hm (Int32.not_lt.mpr z))]
        · rw [richN, e, hNd, if_pos (Or.inr (Int32.not_le.mp z))]
  exact key K 0 (by omega)
set_option maxRecDepth 20000 in
theorem KX6_rich_ok (w : WW) : KOk w MX6_rich (KX6_rich w) := KOk_mk flX6_ok ciX6_ok clX6_ok (fun _ _ h => by cases h) (fun _ _ h => by cases h) (List.forall_mem_cons.mpr ⟨itV (n := 46) (by decide) (COk_V (n := 1) (ci := 6) (ctX6_its w) wcX6_46 nmX6_its (by decide) (by decide) rfl (prX6_its w)), List.forall_mem_cons.mpr ⟨itV (n := 54) (by decide) (COk_V (n := 2) (ci := 6) (ctX6_man w) wcX6_54 nmX6_man (by decide) (by decide) rfl (prX6_man w)), List.forall_mem_cons.mpr ⟨itV (n := 87) (by decide) (COk_V (n := 1) (ci := 6) (ctX6_finds w) wcX6_87 nmX6_finds (by decide) (by decide) rfl (prX6_finds w)), List.forall_mem_cons.mpr ⟨itV (n := 148) (by decide) (COk_V (n := 1) (ci := 6) (ctX6_isLate w) wcX6_148 nmX6_isLate (by decide) (by decide) rfl (prX6_isLate w)), List.forall_mem_cons.mpr ⟨itV (n := 151) (by decide) (COk_V (n := 1) (ci := 6) (ctX6_go w) wcX6_151 nmX6_go (by decide) (by decide) rfl (prX6_go w)), List.forall_mem_cons.mpr ⟨itV (n := 157) (by decide) (COk_V (n := 0) (ci := 6) (ctX6_lends w) wcX6_157 nmX6_lends (by decide) (by decide) rfl (prX6_lends w)), List.forall_mem_cons.mpr ⟨itS (n := 154) (COk_S (n := 1) (ctX6_isLong w) wcX6_65690 nmX6_isLong (by decide)), List.forall_mem_nil _⟩⟩⟩⟩⟩⟩⟩)
theorem ctX6_rich (w : WW) : CT w yX6_rich MX6_rich (csX6_rich w).2.1 (csX6_rich w).2.2 := by
  refine CT_of (by decide) rfl TX6_rich_ok TX6_rich_v (KX6_rich_ok w) (fun as u h => ?_)
  obtain ⟨a0, a1, rfl, h⟩ := sgRI h
  obtain ⟨rfl, hh⟩ := h
  refine ⟨Nat.le_of_ble_eq_true rfl, ?_⟩
  have key := vX6_rich w a1 u hh
  exact key
theorem prX6_rich (w : WW) : ∀ as u, (csX6_rich w).2.1 as u → ∃ a r, as = .ref a :: r ∧ r.length = 1 ∧ okO w a 6 := by
  intro as u h
  obtain ⟨a0, a1, rfl, h⟩ := sgRI h
  exact ⟨_, _, rfl, rfl, okO_m h⟩
theorem risesP_hi2 {R : Nat → Int32} {s i : Nat} (hO : Ok R) (hs : s < NN (R 1)) (hh : ¬ se R s 2 < 0) (hi : 91 ≤ i) : risesP R (nI s) i = R i := by
  have hM := hO.M.1
  have hN : NN (nI s) = s := NN_nI (by omega)
  exact risesP_hi hO (by omega) (by rw [hN]; exact vi_mono ((hO.2.2.1 s hs).resolve_left hh) hO.K.1) hi
theorem risesP_Ok2 {R : Nat → Int32} {s : Nat} (hO : Ok R) (hs : s < NN (R 1)) : Ok (risesP R (nI s)) := risesP_Ok hO (vi_nI hs (by have := hO.M.1; omega))
theorem risesP_lv2 {R S : Nat → Int32} (h : Lv R S) (hO : Ok R) {s : Nat} (hs : s < NN (R 1)) : Lv (risesP R (nI s)) (risesP S (nI s)) := risesP_lv h hO.M.1 (by have := hO.K.1; omega) (by rw [NN_nI (by have := hO.M.1; omega)]; exact hs)
theorem cfM_Sc {u : MM} (h : I6 u) : ∀ n, n ≤ NN (R6 u 1) → Sc u (cfM u n)
  | 0, _ => Sc.rf u
  | n + 1, hn => by
    have ih := cfM_Sc h n (by omega)
    simp only [cfM]; split
    · exact ih
    · rename_i z
      have hv := ih.i6 h
      have l := (ih.lv h.2).tr (lnV hv.2)
      refine ih.tr (sc_Sc hv.1 (fun i hi => risesP_hi2 (l.Ok h.2) (by rw [← l.2.1]; omega) ?_ hi))
      rw [← l.2.2.2.1 n (by omega) 2 (by decide)]; exact z
theorem cfN_rng (R : Nat → Int32) (c : Int32) : ∀ n, cfN R c n = -1 ∨ ∃ s, s < n ∧ cfN R c n = nI s
  | 0 => Or.inl rfl
  | n + 1 => by
    simp only [cfN]; split
    · exact Or.inr ⟨n, by omega, rfl⟩
    · rcases cfN_rng R c n with e | ⟨s, hs, e⟩
      · exact Or.inl e
      · exact Or.inr ⟨s, by omega, e⟩
theorem vX6_coughFor (w : WW) : VX6_coughFor w := by
  intro c u h
  have h0 := h.1
  have ha : atOk u := Or.inl h0
  obtain ⟨M, hM, eM, eN⟩ := i6M h
  simp only [eX6_coughFor_0, eX6_coughFor_1, eX6_coughFor_2, eX6_coughFor_5, eX6_coughFor_8, eX6_coughFor_9, eX6_coughFor_11, eX6_coughFor_14, eX6_coughFor_15, eX6_coughFor_16, eX6_coughFor_17, eX6_coughFor_20, eX6_coughFor_23, eX6_coughFor_24, eX6_coughFor_26, eX6_coughFor_29, eX6_coughFor_30, eX6_coughFor_31, eX6_coughFor_32, eX6_coughFor_33, eX6_coughFor_35, eX6_coughFor_36, eX6_coughFor_39, eX6_coughFor_40, eX6_coughFor_41, eX6_coughFor_44, eX6_coughFor_45, eX6_coughFor_46, eX6_coughFor_47, eX6_coughFor_50, eX6_coughFor_53, eX6_coughFor_54, eX6_coughFor_57, eX6_coughFor_58, eX6_coughFor_59, eX6_coughFor_62, eX6_coughFor_63, eX6_coughFor_64, eX6_coughFor_65, eX6_coughFor_68, eX6_coughFor_69, eX6_coughFor_72, eX6_coughFor_73, eX6_coughFor_76, eX6_coughFor_77, eX6_coughFor_79, eX6_coughFor_80, eX6_coughFor_81, eX6_coughFor_84, eX6_coughFor_86, eX6_coughFor_89, eX6_coughFor_90, eX6_coughFor_93, eX6_coughFor_94, eX6_coughFor_95, eX6_coughFor_96, eX6_coughFor_99, eX6_coughFor_100, eX6_coughFor_101, eX6_coughFor_104, eX6_coughFor_105, eX6_coughFor_108, eX6_coughFor_109, eX6_coughFor_110, eX6_coughFor_113, eX6_coughFor_116, eX6_coughFor_117, eX6_coughFor_120, eX6_coughFor_121, eX6_coughFor_122, eX6_coughFor_125, eX6_coughFor_128, eX6_coughFor_129, eX6_coughFor_132, eX6_coughFor_133, eX6_coughFor_135, eX6_coughFor_138, eX6_coughFor_141, eX6_coughFor_142, kl_i, kl_r, kl_n, kl_l, true_and, and_true, true_implies, false_implies, not_true_eq_false, not_false_eq_true, i10, Classical.not_not, pOne, mX6_sets, mX6_setsChair, pX6_sets, pX6_setsChair, pX6_chair, pX6_man, pX6_its, RW_pv, pv_pv, B6_pv, atOk_pv, N_0, N_1, N_2, N_3, N_4, N_5, N_6, v7_0, v7_1, v7_2, v7_3, v7_4, v7_5, v7_6, v3_0, v3_1, v3_2, ch0, ch1, ch2, man0, man1, man2, man3, man4, man5, man6, its0, its1, its2, pX6_isOne, rX6_isOne, pX6_stands, rX6_stands, bi_0, pf0, pf1, pf2, pf3, pf4, pf5, pf6, mf0, mf1, mf2, mf3, mf4, mf5, mf6, rX6_finds, RW6 h0, ha, rX6_coughFor, mX6_coughFor, Option.some.injEq, Value.int.injEq]
  refine ⟨fun c1 => ⟨vi_mono ((isOn_vi h.2).mp c1) h.2.K.1, fun c2 => ?_, fun c2 => ml4 (by rw [oCoughFor, if_neg (fun z => z c1), if_pos c2])⟩, fun c1 => ml0 (by rw [oCoughFor, if_pos c1])⟩
  have eo : oCoughFor (R6 u) c = if cfN (R6 u) c M < 0 then .inl 3 else .inr (cfN (R6 u) c M, R6 u) := by rw [oCoughFor, if_neg (fun z => z c1), if_neg (fun z => z c2), eN]
  have key : ∀ (m i : Nat) (j : Option Value), i + m = M → GX6_coughFor w (fun r u' => r = some (.int (an (oCoughFor (R6 u) c))) ∧ u' = ml (oCoughFor (R6 u) c) u (cfM u (NN (R6 u 1)))) 34 [some (.ref (mA w)), some (.int c), some (.int (cfN (R6 u) c i)), some (.int (nI i)), j] [] (cfM u i) := by
    intro m
    induction m with
    | zero =>
      intro i j hi
      have e3 : i = M := by omega
      subst e3
      have hle : nI i ≤ nI i := Int32.le_refl _
      have hS := cfM_Sc h i (by rw [eN]; omega)
      have e1 : (cfM u i).1 (1100 + 1) = nI i := (hS.2 1101 (by decide)).trans eM
      rw [eX6_coughFor_34]
      simp only [eX6_coughFor_0, eX6_coughFor_1, eX6_coughFor_2, eX6_coughFor_5, eX6_coughFor_8, eX6_coughFor_9, eX6_coughFor_11, eX6_coughFor_14, eX6_coughFor_15, eX6_coughFor_16, eX6_coughFor_17, eX6_coughFor_20, eX6_coughFor_23, eX6_coughFor_24, eX6_coughFor_26, eX6_coughFor_29, eX6_coughFor_30, eX6_coughFor_31, eX6_coughFor_32, eX6_coughFor_33, eX6_coughFor_35, eX6_coughFor_36, eX6_coughFor_39, eX6_coughFor_40, eX6_coughFor_41, eX6_coughFor_44, eX6_coughFor_45, eX6_coughFor_46, eX6_coughFor_47, eX6_coughFor_50, eX6_coughFor_53, eX6_coughFor_54, eX6_coughFor_57, eX6_coughFor_58, eX6_coughFor_59, eX6_coughFor_62, eX6_coughFor_63, eX6_coughFor_64, eX6_coughFor_65, eX6_coughFor_68, eX6_coughFor_69, eX6_coughFor_72, eX6_coughFor_73, eX6_coughFor_76, eX6_coughFor_77, eX6_coughFor_79, eX6_coughFor_80, eX6_coughFor_81, eX6_coughFor_84, eX6_coughFor_86, eX6_coughFor_89, eX6_coughFor_90, eX6_coughFor_93, eX6_coughFor_94, eX6_coughFor_95, eX6_coughFor_96, eX6_coughFor_99, eX6_coughFor_100, eX6_coughFor_101, eX6_coughFor_104, eX6_coughFor_105, eX6_coughFor_108, eX6_coughFor_109, eX6_coughFor_110, eX6_coughFor_113, eX6_coughFor_116, eX6_coughFor_117, eX6_coughFor_120, eX6_coughFor_121, eX6_coughFor_122, eX6_coughFor_125, eX6_coughFor_128, eX6_coughFor_129, eX6_coughFor_132, eX6_coughFor_133, eX6_coughFor_135, eX6_coughFor_138, eX6_coughFor_141, eX6_coughFor_142, kl_i, kl_r, kl_n, kl_l, true_and, and_true, true_implies, false_implies, not_true_eq_false, not_false_eq_true, i10, Classical.not_not, ok_m0, rf_m0, ai_mr0, rd_mr0, v182_1, N_1, e1, hle, pf0, pf1, pf2, pf3, pf4, pf5, pf6, mf0, mf1, mf2, mf3, mf4, mf5, mf6, rX6_finds, Option.some.injEq, Value.int.injEq]
      rw [eN]
      refine ⟨fun d => mlr (S := R6 u) ?_, fun d => ml3 ?_⟩
      · rw [eo, if_neg (Int32.not_lt.mpr d)]
      · rw [eo, if_pos (Int32.not_le.mp d)]
    | succ m ih =>
      intro i j hi
      have hlt : ¬ nI M ≤ nI i := nI_ge (by omega) (by omega)
      have hv : vp_in (nI i) 6 := vi_nI (by omega)
      have hNi : NN (nI i) = i := NN_nI (by omega)
      have hS := cfM_Sc h i (by rw [eN]; omega)
      have hv6 := hS.i6 h
      have hv0 := hv6.1
      have e1 : (cfM u i).1 (1100 + 1) = nI M := (hS.2 1101 (by decide)).trans eM
      have l0 := hS.lv h.2
      have av : atOk (cfM u i) := Or.inl hv0
      have q2 : se (R6 (cfM u i)) i 2 = se (R6 u) i 2 := (l0.2.2.2.1 i (by rw [eN]; omega) 2 (by decide)).symm
      have go : ∀ (x : Int32) (y : MM) (j : Option Value), x = cfN (R6 u) c (i + 1) → y = cfM u (i + 1) → GX6_coughFor w (fun r u' => r = some (.int (an (oCoughFor (R6 u) c))) ∧ u' = ml (oCoughFor (R6 u) c) u (cfM u (NN (R6 u 1)))) 34 [some (.ref (mA w)), some (.int c), some (.int x), some (.int (nI i + 1)), j] [] y := fun x y j hx hy => by rw [hx, hy, nI_1]; exact ih (i + 1) j (by omega)
      rw [eX6_coughFor_34]
      by_cases z : se (R6 u) i 2 < 0
      · simp only [eX6_coughFor_0, eX6_coughFor_1, eX6_coughFor_2, eX6_coughFor_5, eX6_coughFor_8, eX6_coughFor_9, eX6_coughFor_11, eX6_coughFor_14, eX6_coughFor_15, eX6_coughFor_16, eX6_coughFor_17, eX6_coughFor_20, eX6_coughFor_23, eX6_coughFor_24, eX6_coughFor_26, eX6_coughFor_29, eX6_coughFor_30, eX6_coughFor_31, eX6_coughFor_32, eX6_coughFor_33, eX6_coughFor_35, eX6_coughFor_36, eX6_coughFor_39, eX6_coughFor_40, eX6_coughFor_41, eX6_coughFor_44, eX6_coughFor_45, eX6_coughFor_46, eX6_coughFor_47, eX6_coughFor_50, eX6_coughFor_53, eX6_coughFor_54, eX6_coughFor_57, eX6_coughFor_58, eX6_coughFor_59, eX6_coughFor_62, eX6_coughFor_63, eX6_coughFor_64, eX6_coughFor_65, eX6_coughFor_68, eX6_coughFor_69, eX6_coughFor_72, eX6_coughFor_73, eX6_coughFor_76, eX6_coughFor_77, eX6_coughFor_79, eX6_coughFor_80, eX6_coughFor_81, eX6_coughFor_84, eX6_coughFor_86, eX6_coughFor_89, eX6_coughFor_90, eX6_coughFor_93, eX6_coughFor_94, eX6_coughFor_95, eX6_coughFor_96, eX6_coughFor_99, eX6_coughFor_100, eX6_coughFor_101, eX6_coughFor_104, eX6_coughFor_105, eX6_coughFor_108, eX6_coughFor_109, eX6_coughFor_110, eX6_coughFor_113, eX6_coughFor_116, eX6_coughFor_117, eX6_coughFor_120, eX6_coughFor_121, eX6_coughFor_122, eX6_coughFor_125, eX6_coughFor_128, eX6_coughFor_129, eX6_coughFor_132, eX6_coughFor_133, eX6_coughFor_135, eX6_coughFor_138, eX6_coughFor_141, eX6_coughFor_142, kl_i, kl_r, kl_n, kl_l, true_and, and_true, true_implies, false_implies, not_true_eq_false, not_false_eq_true, i10, Classical.not_not, pOne, mX6_sets, mX6_setsChair, pX6_sets, pX6_setsChair, pX6_chair, pX6_man, pX6_its, RW_pv, pv_pv, B6_pv, atOk_pv, N_0, N_1, N_2, N_3, N_4, N_5, N_6, v7_0, v7_1, v7_2, v7_3, v7_4, v7_5, v7_6, v3_0, v3_1, v3_2, ch0, ch1, ch2, man0, man1, man2, man3, man4, man5, man6, its0, its1, its2, ok_m0, rf_m0, ai_mr0, rd_mr0, v182_1, e1, hlt, av, hv, hNi, RW6 hv0, q2, z]
        exact go _ _ _ (by rw [cfN, if_neg (fun y => y.1 z)]) (by rw [cfM, if_pos z])
      · have l1 := l0.tr (lnV hv6.2)
        have hO1 : Ok (ln (cfM u i)) := l1.Ok h.2
        have hi1 : i < NN (R6 u 1) := by rw [eN]; omega
        have hh : vp_in (se (ln (cfM u i)) i 2) 10 := by
          rw [← l1.2.2.2.1 i hi1 2 (by decide)]; exact vi_mono ((h.2.2.2.1 i hi1).resolve_left z) h.2.K.1
        have hcr : crtOk (ln (cfM u i)) := hO1.crt
        have er : se (risesP (ln (cfM u i)) (nI i)) i 2 = se (risesP (R6 u) (nI i)) i 2 := ((risesP_lv2 l1 h.2 hi1).2.2.2.1 i (by rw [risesP_hd (by decide)]; exact hi1) 2 (by decide)).symm
        have em : cfM u (i + 1) = sc (cfM u i) (risesP (ln (cfM u i)) (nI i)) := by rw [cfM, if_neg z]
        have hS2 := cfM_Sc h (i + 1) (by rw [eN]; omega)
        have hv2 := (hS2.i6 h).1
        have l2 := hS2.lv h.2
        have q1 : se (R6 (cfM u (i + 1))) i 1 = se (R6 u) i 1 := (l2.2.2.2.1 i hi1 1 (by decide)).symm
        have a2 : atOk (cfM u (i + 1)) := Or.inl hv2
        have emf : uI (pv (mX6_lends (cfM u i)) (B6 (mX6_lends (cfM u i))) (risesP (ln (cfM u i)) (nI i))) 1000 0 = cfM u (i + 1) := em.symm
        rcases cfN_rng (R6 u) c i with e | ⟨d, hd, e⟩
        · rw [e]
          have hm : (-1 : Int32) < 0 := by decide
          have hm2 : ¬ (0 : Int32) ≤ -1 := by decide
          simp only [eX6_coughFor_0, eX6_coughFor_1, eX6_coughFor_2, eX6_coughFor_5, eX6_coughFor_8, eX6_coughFor_9, eX6_coughFor_11, eX6_coughFor_14, eX6_coughFor_15, eX6_coughFor_16, eX6_coughFor_17, eX6_coughFor_20, eX6_coughFor_23, eX6_coughFor_24, eX6_coughFor_26, eX6_coughFor_29, eX6_coughFor_30, eX6_coughFor_31, eX6_coughFor_32, eX6_coughFor_33, eX6_coughFor_35, eX6_coughFor_36, eX6_coughFor_39, eX6_coughFor_40, eX6_coughFor_41, eX6_coughFor_44, eX6_coughFor_45, eX6_coughFor_46, eX6_coughFor_47, eX6_coughFor_50, eX6_coughFor_53, eX6_coughFor_54, eX6_coughFor_57, eX6_coughFor_58, eX6_coughFor_59, eX6_coughFor_62, eX6_coughFor_63, eX6_coughFor_64, eX6_coughFor_65, eX6_coughFor_68, eX6_coughFor_69, eX6_coughFor_72, eX6_coughFor_73, eX6_coughFor_76, eX6_coughFor_77, eX6_coughFor_79, eX6_coughFor_80, eX6_coughFor_81, eX6_coughFor_84, eX6_coughFor_86, eX6_coughFor_89, eX6_coughFor_90, eX6_coughFor_93, eX6_coughFor_94, eX6_coughFor_95, eX6_coughFor_96, eX6_coughFor_99, eX6_coughFor_100, eX6_coughFor_101, eX6_coughFor_104, eX6_coughFor_105, eX6_coughFor_108, eX6_coughFor_109, eX6_coughFor_110, eX6_coughFor_113, eX6_coughFor_116, eX6_coughFor_117, eX6_coughFor_120, eX6_coughFor_121, eX6_coughFor_122, eX6_coughFor_125, eX6_coughFor_128, eX6_coughFor_129, eX6_coughFor_132, eX6_coughFor_133, eX6_coughFor_135, eX6_coughFor_138, eX6_coughFor_141, eX6_coughFor_142, kl_i, kl_r, kl_n, kl_l, true_and, and_true, true_implies, false_implies, not_true_eq_false, not_false_eq_true, i10, Classical.not_not, pOne, mX6_sets, mX6_setsChair, pX6_sets, pX6_setsChair, pX6_chair, pX6_man, pX6_its, RW_pv, pv_pv, B6_pv, atOk_pv, N_0, N_1, N_2, N_3, N_4, N_5, N_6, v7_0, v7_1, v7_2, v7_3, v7_4, v7_5, v7_6, v3_0, v3_1, v3_2, ch0, ch1, ch2, man0, man1, man2, man3, man4, man5, man6, its0, its1, its2, ok_m0, rf_m0, ai_mr0, rd_mr0, v182_1, e1, hlt, av, hv, hNi, RW6 hv0, q2, z, pX6_lends, pX6_rises, mX6_rises, atL, hh, hcr, er, ok_m1, ix_m1, emf, hm, hm2]
          refine ⟨fun y => go _ _ _ ?_ rfl, fun y => go _ _ _ ?_ rfl⟩
          · rw [cfN, e, if_neg (fun x => y x.2.1)]
          · rw [cfN, e, if_pos ⟨z, y, Or.inl hm⟩]
        · rw [e]
          have hm : ¬ nI d < 0 := Int32.not_lt.mpr (nI_pos' (by omega))
          have hm2 : (0 : Int32) ≤ nI d := nI_pos' (by omega)
          have hvd : vp_in (nI d) 6 := vi_nI (by omega)
          have hNd : NN (nI d) = d := NN_nI (by omega)
          have q3 : se (R6 (cfM u (i + 1))) d 1 = se (R6 u) d 1 := (l2.2.2.2.1 d (by omega) 1 (by decide)).symm
          simp only [eX6_coughFor_0, eX6_coughFor_1, eX6_coughFor_2, eX6_coughFor_5, eX6_coughFor_8, eX6_coughFor_9, eX6_coughFor_11, eX6_coughFor_14, eX6_coughFor_15, eX6_coughFor_16, eX6_coughFor_17, eX6_coughFor_20, eX6_coughFor_23, eX6_coughFor_24, eX6_coughFor_26, eX6_coughFor_29, eX6_coughFor_30, eX6_coughFor_31, eX6_coughFor_32, eX6_coughFor_33, eX6_coughFor_35, eX6_coughFor_36, eX6_coughFor_39, eX6_coughFor_40, eX6_coughFor_41, eX6_coughFor_44, eX6_coughFor_45, eX6_coughFor_46, eX6_coughFor_47, eX6_coughFor_50, eX6_coughFor_53, eX6_coughFor_54, eX6_coughFor_57, eX6_coughFor_58, eX6_coughFor_59, eX6_coughFor_62, eX6_coughFor_63, eX6_coughFor_64, eX6_coughFor_65, eX6_coughFor_68, eX6_coughFor_69, eX6_coughFor_72, eX6_coughFor_73, eX6_coughFor_76, eX6_coughFor_77, eX6_coughFor_79, eX6_coughFor_80, eX6_coughFor_81, eX6_coughFor_84, eX6_coughFor_86, eX6_coughFor_89, eX6_coughFor_90, eX6_coughFor_93, eX6_coughFor_94, eX6_coughFor_95, eX6_coughFor_96, eX6_coughFor_99, eX6_coughFor_100, eX6_coughFor_101, eX6_coughFor_104, eX6_coughFor_105, eX6_coughFor_108, eX6_coughFor_109, eX6_coughFor_110, eX6_coughFor_113, eX6_coughFor_116, eX6_coughFor_117, eX6_coughFor_120, eX6_coughFor_121, eX6_coughFor_122, eX6_coughFor_125, eX6_coughFor_128, eX6_coughFor_129, eX6_coughFor_132, eX6_coughFor_133, eX6_coughFor_135, eX6_coughFor_138, eX6_coughFor_141, eX6_coughFor_142, kl_i, kl_r, kl_n, kl_l, true_and, and_true, true_implies, false_implies, not_true_eq_false, not_false_eq_true, i10, Classical.not_not, pOne, mX6_sets, mX6_setsChair, pX6_sets, pX6_setsChair, pX6_chair, pX6_man, pX6_its, RW_pv, pv_pv, B6_pv, atOk_pv, N_0, N_1, N_2, N_3, N_4, N_5, N_6, v7_0, v7_1, v7_2, v7_3, v7_4, v7_5, v7_6, v3_0, v3_1, v3_2, ch0, ch1, ch2, man0, man1, man2, man3, man4, man5, man6, its0, its1, its2, ok_m0, rf_m0, ai_mr0, rd_mr0, v182_1, e1, hlt, av, hv, hNi, RW6 hv0, q2, z, pX6_lends, pX6_rises, mX6_rises, atL, hh, hcr, er, ok_m1, ix_m1, emf, hm, hm2, a2, hvd, hNd, RW6 hv2, q1, q3]
          refine ⟨fun y => go _ _ _ ?_ rfl, fun y => ⟨fun x => go _ _ _ ?_ rfl, fun x => go _ _ _ ?_ rfl⟩⟩
          · rw [cfN, e, hNd, if_neg (fun x => y x.2.1)]
          · rw [cfN, e, hNd, if_neg (fun t => t.2.2.elim hm (Int32.not_lt.mpr x))]
          · rw [cfN, e, hNd, if_pos ⟨z, y, Or.inr (Int32.not_le.mp x)⟩]
  exact key M 0 _ (by omega)
set_option maxRecDepth 20000 in
theorem KX6_coughFor_ok (w : WW) : KOk w MX6_coughFor (KX6_coughFor w) := KOk_mk flX6_ok ciX6_ok clX6_ok (fun _ _ h => by cases h) (fun _ _ h => by cases h) (List.forall_mem_cons.mpr ⟨itV (n := 64) (by decide) (COk_V (n := 1) (ci := 6) (ctX6_stands w) wcX6_64 nmX6_stands (by decide) (by decide) rfl (prX6_stands w)), List.forall_mem_cons.mpr ⟨itV (n := 71) (by decide) (COk_V (n := 2) (ci := 6) (ctX6_chair w) wcX6_71 nmX6_chair (by decide) (by decide) rfl (prX6_chair w)), List.forall_mem_cons.mpr ⟨itV (n := 87) (by decide) (COk_V (n := 1) (ci := 6) (ctX6_finds w) wcX6_87 nmX6_finds (by decide) (by decide) rfl (prX6_finds w)), List.forall_mem_cons.mpr ⟨itV (n := 115) (by decide) (COk_V (n := 1) (ci := 6) (ctX6_isOne w) wcX6_115 nmX6_isOne (by decide) (by decide) rfl (prX6_isOne w)), List.forall_mem_cons.mpr ⟨itV (n := 142) (by decide) (COk_V (n := 1) (ci := 6) (ctX6_rises w) wcX6_142 nmX6_rises (by decide) (by decide) rfl (prX6_rises w)), List.forall_mem_cons.mpr ⟨itV (n := 157) (by decide) (COk_V (n := 0) (ci := 6) (ctX6_lends w) wcX6_157 nmX6_lends (by decide) (by decide) rfl (prX6_lends w)), List.forall_mem_nil _⟩⟩⟩⟩⟩⟩)
theorem ctX6_coughFor (w : WW) : CT w yX6_coughFor MX6_coughFor (csX6_coughFor w).2.1 (csX6_coughFor w).2.2 := by
  refine CT_of (by decide) rfl TX6_coughFor_ok TX6_coughFor_v (KX6_coughFor_ok w) (fun as u h => ?_)
  obtain ⟨a0, a1, rfl, h⟩ := sgRI h
  obtain ⟨rfl, hh⟩ := h
  refine ⟨Nat.le_of_ble_eq_true rfl, ?_⟩
  have key := vX6_coughFor w a1 u hh
  exact key
theorem prX6_coughFor (w : WW) : ∀ as u, (csX6_coughFor w).2.1 as u → ∃ a r, as = .ref a :: r ∧ r.length = 1 ∧ okO w a 6 := by
  intro as u h
  obtain ⟨a0, a1, rfl, h⟩ := sgRI h
  exact ⟨_, _, rfl, rfl, okO_m h⟩
theorem vX6_coinsWith (w : WW) : VX6_coinsWith w := by
  intro c k v n u h
  obtain ⟨h6, hc, hk, hO⟩ := h
  have hl := lnV h6.2
  have h7 := vi_lt hk
  have l2 := ost_lv (c := NN c) hl h6.2.M.1 h7 v
  have hO2 : Ok (ost (ln u) (NN c) (NN k) v) := l2.Ok hO
  have hc10 : vp_in c 10 := vi_mono hc h6.2.K.1
  have hcN := vi_lt hc
  simp only [eX6_coinsWith_0, eX6_coinsWith_1, eX6_coinsWith_4, eX6_coinsWith_5, eX6_coinsWith_6, eX6_coinsWith_7, eX6_coinsWith_8, eX6_coinsWith_11, eX6_coinsWith_12, eX6_coinsWith_14, eX6_coinsWith_17, eX6_coinsWith_18, eX6_coinsWith_19, eX6_coinsWith_20, eX6_coinsWith_23, eX6_coinsWith_25, eX6_coinsWith_26, eX6_coinsWith_27, eX6_coinsWith_30, eX6_coinsWith_32, kl_i, kl_r, kl_n, kl_l, true_and, and_true, true_implies, false_implies, not_true_eq_false, not_false_eq_true, i10, Classical.not_not, pOne, mX6_sets, mX6_setsChair, pX6_sets, pX6_setsChair, pX6_chair, pX6_man, pX6_its, RW_pv, pv_pv, B6_pv, atOk_pv, N_0, N_1, N_2, N_3, N_4, N_5, N_6, v7_0, v7_1, v7_2, v7_3, v7_4, v7_5, v7_6, v3_0, v3_1, v3_2, ch0, ch1, ch2, man0, man1, man2, man3, man4, man5, man6, its0, its1, its2, pX6_lends, pX6_go, mX6_go, atL, hc10, hk, hO2, ok_m1, ix_m1, rX6_coinsWith, mX6_coinsWith, Option.some.injEq, Value.int.injEq]
  refine ⟨?_, rfl⟩
  rw [coinsW]
  exact (goOn l2 hO (NN n) (by rw [hd_ost (by decide)]; exact hcN) (by decide)).symm
set_option maxRecDepth 20000 in
theorem KX6_coinsWith_ok (w : WW) : KOk w MX6_coinsWith (KX6_coinsWith w) := KOk_mk flX6_ok ciX6_ok clX6_ok (fun _ _ h => by cases h) (fun _ _ h => by cases h) (List.forall_mem_cons.mpr ⟨itV (n := 54) (by decide) (COk_V (n := 2) (ci := 6) (ctX6_man w) wcX6_54 nmX6_man (by decide) (by decide) rfl (prX6_man w)), List.forall_mem_cons.mpr ⟨itV (n := 105) (by decide) (COk_V (n := 3) (ci := 6) (ctX6_sets w) wcX6_105 nmX6_sets (by decide) (by decide) rfl (prX6_sets w)), List.forall_mem_cons.mpr ⟨itV (n := 151) (by decide) (COk_V (n := 1) (ci := 6) (ctX6_go w) wcX6_151 nmX6_go (by decide) (by decide) rfl (prX6_go w)), List.forall_mem_cons.mpr ⟨itV (n := 157) (by decide) (COk_V (n := 0) (ci := 6) (ctX6_lends w) wcX6_157 nmX6_lends (by decide) (by decide) rfl (prX6_lends w)), List.forall_mem_nil _⟩⟩⟩⟩)
theorem ctX6_coinsWith (w : WW) : CT w yX6_coinsWith MX6_coinsWith (csX6_coinsWith w).2.1 (csX6_coinsWith w).2.2 := by
  refine CT_of (by decide) rfl TX6_coinsWith_ok TX6_coinsWith_v (KX6_coinsWith_ok w) (fun as u h => ?_)
  obtain ⟨a0, a1, a2, a3, a4, rfl, h⟩ := sgRIIII h
  obtain ⟨rfl, hh⟩ := h
  refine ⟨Nat.le_of_ble_eq_true rfl, ?_⟩
  have key := vX6_coinsWith w a1 a2 a3 a4 u hh
  exact key
theorem prX6_coinsWith (w : WW) : ∀ as u, (csX6_coinsWith w).2.1 as u → ∃ a r, as = .ref a :: r ∧ r.length = 4 ∧ okO w a 6 := by
  intro as u h
  obtain ⟨a0, a1, a2, a3, a4, rfl, h⟩ := sgRIIII h
  exact ⟨_, _, rfl, rfl, okO_m h⟩
theorem coinsW_lv {R S : Nat → Int32} (l : Lv R S) (hM : NN (R 1) ≤ 6) {c k : Nat} {v : Int32} (hk : k < 7) (hc : c < NN (R 2)) (hO : Ok (ost R c k v)) (n : Nat) : coinsW S c k v n = coinsW R c k v n := by
  rw [coinsW, coinsW]
  exact (goOn (ost_lv l hM hk v) hO n (by rw [hd_ost (by decide)]; exact hc) (by decide)).symm
theorem cw_Sc {u : MM} (h : I6 u) {c k v n : Int32} (hc : vp_in c (NN (R6 u 2))) (hk : vp_in k 7) (hO : Ok (ost (R6 u) (NN c) (NN k) v)) : Sc u (mX6_coinsWith c k v n u) := by
  have hl := lnV h.2
  have h10 : NN c < 10 := by have := vi_lt hc; have : NN (R6 u 2) ≤ 10 := h.2.K.1; omega
  refine sc_Sc h.1 (fun i hi => ?_)
  rw [goP_hi ((ost_lv hl h.2.M.1 (vi_lt hk) v).Ok hO) hi, ost_hi h10 (vi_lt hk) hi]
theorem Ok3 {R : Nat → Int32} (hO : Ok R) {c : Nat} {v : Int32} (hv : v < 0 ∨ vp_in v (NN (R 1))) : Ok (ost R c 3 v) := ost_Ok hO (by decide) (fun _ => hv) (fun z => absurd z (by decide))
theorem Ok0 {R : Nat → Int32} (hO : Ok R) {c : Nat} {v : Int32} : Ok (ost R c 0 v) := ost_Ok hO (by decide) (fun z => absurd z (by decide)) (fun z => absurd z (by decide))
theorem Ok1 {R : Nat → Int32} (hO : Ok R) {c : Nat} {v : Int32} : Ok (ost R c 1 v) := ost_Ok hO (by decide) (fun z => absurd z (by decide)) (fun z => absurd z (by decide))
theorem m1lt : (-1 : Int32) < 0 := by decide
theorem wlM_Sc {u : MM} (h : I6 u) {c n : Int32} (hc : vp_in c (NN (R6 u 2))) : ∀ i, i ≤ NN (R6 u 1) → Sc u (wlM u c n i)
  | 0, _ => cw_Sc h hc v7_3 (Ok3 h.2 (Or.inl m1lt))
  | i + 1, hi => by
    have ih := wlM_Sc (n := n) h hc i (by omega)
    have l := ih.lv h.2
    have hv := ih.i6 h
    exact ih.tr (cw_Sc hv (by rw [← l.2.2.1]; exact hc) v7_3 (Ok3 (R := R6 (wlM u c n i)) hv.2 (Or.inr (by rw [← l.2.1]; exact vi_nI (by omega) (by have : NN (R6 u 1) ≤ 6 := h.2.M.1; omega)))))
theorem kdM_Sc {u : MM} (h : I6 u) {c n : Int32} (hc : vp_in c (NN (R6 u 2))) : ∀ i, Sc u (kdM u c n i)
  | 0 => Sc.rf u
  | i + 1 => by
    have ih := kdM_Sc (n := n) h hc i
    have l := ih.lv h.2
    have hv := ih.i6 h
    exact ih.tr (cw_Sc hv (by rw [← l.2.2.1]; exact hc) v7_0 (Ok0 hv.2))
theorem vX6_will (w : WW) : VX6_will w := by
  intro c n u h
  have h0 := h.1
  have ha : atOk u := Or.inl h0
  have e0 : u.1 1100 = R6 u 0 := rfl
  obtain ⟨M, hM, eM, eN⟩ := i6M h
  simp only [eX6_will_0, eX6_will_1, eX6_will_2, eX6_will_5, eX6_will_8, eX6_will_9, eX6_will_10, eX6_will_12, eX6_will_15, eX6_will_18, eX6_will_19, eX6_will_21, eX6_will_24, eX6_will_25, eX6_will_26, eX6_will_27, eX6_will_30, eX6_will_33, eX6_will_34, eX6_will_36, eX6_will_39, eX6_will_40, eX6_will_41, eX6_will_42, eX6_will_43, eX6_will_44, eX6_will_45, eX6_will_46, eX6_will_47, eX6_will_50, eX6_will_52, eX6_will_53, eX6_will_57, eX6_will_58, eX6_will_61, eX6_will_62, eX6_will_63, eX6_will_66, eX6_will_67, eX6_will_68, eX6_will_69, eX6_will_71, eX6_will_72, eX6_will_75, eX6_will_77, eX6_will_79, eX6_will_81, eX6_will_84, eX6_will_86, eX6_will_89, eX6_will_90, eX6_will_91, eX6_will_93, eX6_will_95, eX6_will_98, eX6_will_100, eX6_will_103, eX6_will_105, eX6_will_107, eX6_will_110, eX6_will_113, eX6_will_114, kl_i, kl_r, kl_n, kl_l, true_and, and_true, true_implies, false_implies, not_true_eq_false, not_false_eq_true, i10, Classical.not_not, pOne, mX6_sets, mX6_setsChair, pX6_sets, pX6_setsChair, pX6_chair, pX6_man, pX6_its, RW_pv, pv_pv, B6_pv, atOk_pv, N_0, N_1, N_2, N_3, N_4, N_5, N_6, v7_0, v7_1, v7_2, v7_3, v7_4, v7_5, v7_6, v3_0, v3_1, v3_2, ch0, ch1, ch2, man0, man1, man2, man3, man4, man5, man6, its0, its1, its2, pX6_isOne, rX6_isOne, pX6_in, rX6_in, pX6_isLate, rX6_isLate, bi_0, pf0, pf1, pf2, pf3, pf4, pf5, pf6, mf0, mf1, mf2, mf3, mf4, mf5, mf6, rX6_finds, RW6 h0, ha, e0, rX6_will, mX6_will, Option.some.injEq, Value.int.injEq, pX6_coinsWith, rX6_coinsWith]
  refine ⟨fun c1 => ml0 (by rw [oWill, if_pos (fun z => c1 z.1)]), fun c1 => ⟨fun c2 => ⟨fun c3 => ?_, fun c3 => ml4 (by rw [oWill, if_neg (fun z => z ⟨c1, c2⟩), if_pos c3])⟩, fun c2 => ml0 (by rw [oWill, if_pos (fun z => c2 z.2)])⟩⟩
  have hc := (isOn_vi h.2).mp c1
  have hcN := vi_lt hc
  refine ⟨⟨h, hc, Ok3 h.2 (Or.inl m1lt)⟩, ?_⟩
  have eo : oWill (R6 u) c n = .inr ((willN (R6 u) (NN c) (NN n) M).1, R6 u) := by rw [oWill, if_neg (fun z => z ⟨c1, c2⟩), if_neg c3, eN]
  rw [eo, an_r, eN, show ml (.inr ((willN (R6 u) (NN c) (NN n) M).1, R6 u)) u (wlM u c n M) = wlM u c n M from rfl]
  have key : ∀ (m i : Nat) (j : Option Value), i + m = M → GX6_will w (fun r u' => r = some (.int (willN (R6 u) (NN c) (NN n) M).1) ∧ u' = wlM u c n M) 55 [some (.ref (mA w)), some (.int c), some (.int n), some (.int (willN (R6 u) (NN c) (NN n) i).1), some (.int (willN (R6 u) (NN c) (NN n) i).2), some (.int (nI i)), j] [] (wlM u c n i) := by
    intro m
    induction m with
    | zero =>
      intro i j hi
      have e3 : i = M := by omega
      subst e3
      have hle : nI i ≤ nI i := Int32.le_refl _
      have hS := wlM_Sc (n := n) h hc i (by rw [eN]; omega)
      have e1 : (wlM u c n i).1 (1100 + 1) = nI i := (hS.2 1101 (by decide)).trans eM
      rw [eX6_will_55]
      simp only [eX6_will_0, eX6_will_1, eX6_will_2, eX6_will_5, eX6_will_8, eX6_will_9, eX6_will_10, eX6_will_12, eX6_will_15, eX6_will_18, eX6_will_19, eX6_will_21, eX6_will_24, eX6_will_25, eX6_will_26, eX6_will_27, eX6_will_30, eX6_will_33, eX6_will_34, eX6_will_36, eX6_will_39, eX6_will_40, eX6_will_41, eX6_will_42, eX6_will_43, eX6_will_44, eX6_will_45, eX6_will_46, eX6_will_47, eX6_will_50, eX6_will_52, eX6_will_53, eX6_will_57, eX6_will_58, eX6_will_61, eX6_will_62, eX6_will_63, eX6_will_66, eX6_will_67, eX6_will_68, eX6_will_69, eX6_will_71, eX6_will_72, eX6_will_75, eX6_will_77, eX6_will_79, eX6_will_81, eX6_will_84, eX6_will_86, eX6_will_89, eX6_will_90, eX6_will_91, eX6_will_93, eX6_will_95, eX6_will_98, eX6_will_100, eX6_will_103, eX6_will_105, eX6_will_107, eX6_will_110, eX6_will_113, eX6_will_114, kl_i, kl_r, kl_n, kl_l, true_and, and_true, true_implies, false_implies, not_true_eq_false, not_false_eq_true, i10, Classical.not_not, ok_m0, rf_m0, ai_mr0, rd_mr0, v182_1, N_1, e1, hle]
    | succ m ih =>
      intro i j hi
      have hlt : ¬ nI M ≤ nI i := nI_ge (by omega) (by omega)
      have hS := wlM_Sc (n := n) h hc i (by rw [eN]; omega)
      have hv := hS.i6 h
      have l := hS.lv h.2
      have e1 : (wlM u c n i).1 (1100 + 1) = nI M := (hS.2 1101 (by decide)).trans eM
      have hi1 : vp_in (nI i) (NN (R6 u 1)) := by rw [eN]; exact vi_nI (by omega) (by omega)
      have hOv : Ok (ost (R6 (wlM u c n i)) (NN c) 3 (nI i)) := Ok3 (R := R6 (wlM u c n i)) hv.2 (Or.inr (by rw [← l.2.1]; exact hi1))
      have hcv : vp_in c (NN (R6 (wlM u c n i) 2)) := by rw [← l.2.2.1]; exact hc
      have ec : coinsW (R6 (wlM u c n i)) (NN c) 3 (nI i) (NN n) = coinsW (R6 u) (NN c) 3 (nI i) (NN n) := coinsW_lv l h.2.M.1 (by decide) hcN (Ok3 h.2 (Or.inr hi1)) (NN n)
      have go : ∀ (x : Int32 × Int32) (j : Option Value), x = willN (R6 u) (NN c) (NN n) (i + 1) → GX6_will w (fun r u' => r = some (.int (willN (R6 u) (NN c) (NN n) M).1) ∧ u' = wlM u c n M) 55 [some (.ref (mA w)), some (.int c), some (.int n), some (.int x.1), some (.int x.2), some (.int (nI i + 1)), j] [] (mX6_coinsWith c 3 (nI i) n (wlM u c n i)) := fun x j hx => by rw [hx, nI_1]; exact ih (i + 1) j (by omega)
      rw [eX6_will_55]
      by_cases q : (willN (R6 u) (NN c) (NN n) i).2 < coinsW (R6 u) (NN c) 3 (nI i) (NN n)
      · have q2 : ¬ coinsW (R6 u) (NN c) 3 (nI i) (NN n) ≤ (willN (R6 u) (NN c) (NN n) i).2 := Int32.not_le.mpr q
        simp only [eX6_will_0, eX6_will_1, eX6_will_2, eX6_will_5, eX6_will_8, eX6_will_9, eX6_will_10, eX6_will_12, eX6_will_15, eX6_will_18, eX6_will_19, eX6_will_21, eX6_will_24, eX6_will_25, eX6_will_26, eX6_will_27, eX6_will_30, eX6_will_33, eX6_will_34, eX6_will_36, eX6_will_39, eX6_will_40, eX6_will_41, eX6_will_42, eX6_will_43, eX6_will_44, eX6_will_45, eX6_will_46, eX6_will_47, eX6_will_50, eX6_will_52, eX6_will_53, eX6_will_57, eX6_will_58, eX6_will_61, eX6_will_62, eX6_will_63, eX6_will_66, eX6_will_67, eX6_will_68, eX6_will_69, eX6_will_71, eX6_will_72, eX6_will_75, eX6_will_77, eX6_will_79, eX6_will_81, eX6_will_84, eX6_will_86, eX6_will_89, eX6_will_90, eX6_will_91, eX6_will_93, eX6_will_95, eX6_will_98, eX6_will_100, eX6_will_103, eX6_will_105, eX6_will_107, eX6_will_110, eX6_will_113, eX6_will_114, kl_i, kl_r, kl_n, kl_l, true_and, and_true, true_implies, false_implies, not_true_eq_false, not_false_eq_true, i10, Classical.not_not, pOne, mX6_sets, mX6_setsChair, pX6_sets, pX6_setsChair, pX6_chair, pX6_man, pX6_its, RW_pv, pv_pv, B6_pv, atOk_pv, N_0, N_1, N_2, N_3, N_4, N_5, N_6, v7_0, v7_1, v7_2, v7_3, v7_4, v7_5, v7_6, v3_0, v3_1, v3_2, ch0, ch1, ch2, man0, man1, man2, man3, man4, man5, man6, its0, its1, its2, ok_m0, rf_m0, ai_mr0, rd_mr0, v182_1, e1, hlt, pX6_coinsWith, rX6_coinsWith, hv, hOv, hcv, ec, q2]
        exact go (nI i, coinsW (R6 u) (NN c) 3 (nI i) (NN n)) _ (by rw [willN, if_pos q])
      · have q2 : coinsW (R6 u) (NN c) 3 (nI i) (NN n) ≤ (willN (R6 u) (NN c) (NN n) i).2 := Int32.not_lt.mp q
        simp only [eX6_will_0, eX6_will_1, eX6_will_2, eX6_will_5, eX6_will_8, eX6_will_9, eX6_will_10, eX6_will_12, eX6_will_15, eX6_will_18, eX6_will_19, eX6_will_21, eX6_will_24, eX6_will_25, eX6_will_26, eX6_will_27, eX6_will_30, eX6_will_33, eX6_will_34, eX6_will_36, eX6_will_39, eX6_will_40, eX6_will_41, eX6_will_42, eX6_will_43, eX6_will_44, eX6_will_45, eX6_will_46, eX6_will_47, eX6_will_50, eX6_will_52, eX6_will_53, eX6_will_57, eX6_will_58, eX6_will_61, eX6_will_62, eX6_will_63, eX6_will_66, eX6_will_67, eX6_will_68, eX6_will_69, eX6_will_71, eX6_will_72, eX6_will_75, eX6_will_77, eX6_will_79, eX6_will_81, eX6_will_84, eX6_will_86, eX6_will_89, eX6_will_90, eX6_will_91, eX6_will_93, eX6_will_95, eX6_will_98, eX6_will_100, eX6_will_103, eX6_will_105, eX6_will_107, eX6_will_110, eX6_will_113, eX6_will_114, kl_i, kl_r, kl_n, kl_l, true_and, and_true, true_implies, false_implies, not_true_eq_false, not_false_eq_true, i10, Classical.not_not, pOne, mX6_sets, mX6_setsChair, pX6_sets, pX6_setsChair, pX6_chair, pX6_man, pX6_its, RW_pv, pv_pv, B6_pv, atOk_pv, N_0, N_1, N_2, N_3, N_4, N_5, N_6, v7_0, v7_1, v7_2, v7_3, v7_4, v7_5, v7_6, v3_0, v3_1, v3_2, ch0, ch1, ch2, man0, man1, man2, man3, man4, man5, man6, its0, its1, its2, ok_m0, rf_m0, ai_mr0, rd_mr0, v182_1, e1, hlt, pX6_coinsWith, rX6_coinsWith, hv, hOv, hcv, ec, q2]
        exact go (willN (R6 u) (NN c) (NN n) i) _ (by rw [willN, if_neg q])
  exact key M 0 _ (by omega)
theorem wcX6_176 : ∀ x ∈ wV1 RX6 176 yX6_coinsWith MX6_coinsWith, x ∈ Gt := by decide +kernel
theorem nmX6_coinsWith : nmOk yX6_coinsWith 4 = true := by decide +kernel
set_option maxRecDepth 20000 in
theorem KX6_will_ok (w : WW) : KOk w MX6_will (KX6_will w) := KOk_mk flX6_ok ciX6_ok clX6_ok (fun _ _ h => by cases h) (fun _ _ h => by cases h) (List.forall_mem_cons.mpr ⟨itV (n := 87) (by decide) (COk_V (n := 1) (ci := 6) (ctX6_finds w) wcX6_87 nmX6_finds (by decide) (by decide) rfl (prX6_finds w)), List.forall_mem_cons.mpr ⟨itV (n := 115) (by decide) (COk_V (n := 1) (ci := 6) (ctX6_isOne w) wcX6_115 nmX6_isOne (by decide) (by decide) rfl (prX6_isOne w)), List.forall_mem_cons.mpr ⟨itV (n := 148) (by decide) (COk_V (n := 1) (ci := 6) (ctX6_isLate w) wcX6_148 nmX6_isLate (by decide) (by decide) rfl (prX6_isLate w)), List.forall_mem_cons.mpr ⟨itV (n := 176) (by decide) (COk_V (n := 4) (ci := 6) (ctX6_coinsWith w) wcX6_176 nmX6_coinsWith (by decide) (by decide) rfl (prX6_coinsWith w)), List.forall_mem_cons.mpr ⟨itS (n := 50) (COk_S (n := 3) (ctX6_in w) wcX6_65586 nmX6_in (by decide)), List.forall_mem_nil _⟩⟩⟩⟩⟩)
theorem ctX6_will (w : WW) : CT w yX6_will MX6_will (csX6_will w).2.1 (csX6_will w).2.2 := by
  refine CT_of (by decide) rfl TX6_will_ok TX6_will_v (KX6_will_ok w) (fun as u h => ?_)
  obtain ⟨a0, a1, a2, rfl, h⟩ := sgRII h
  obtain ⟨rfl, hh⟩ := h
  refine ⟨Nat.le_of_ble_eq_true rfl, ?_⟩
  have key := vX6_will w a1 a2 u hh
  exact key
theorem prX6_will (w : WW) : ∀ as u, (csX6_will w).2.1 as u → ∃ a r, as = .ref a :: r ∧ r.length = 2 ∧ okO w a 6 := by
  intro as u h
  obtain ⟨a0, a1, a2, rfl, h⟩ := sgRII h
  exact ⟨_, _, rfl, rfl, okO_m h⟩
theorem vX6_kind (w : WW) : VX6_kind w := by
  intro c n u h
  have h0 := h.1
  have ha : atOk u := Or.inl h0
  have e0 : u.1 1100 = R6 u 0 := rfl
  simp only [eX6_kind_0, eX6_kind_1, eX6_kind_2, eX6_kind_5, eX6_kind_8, eX6_kind_9, eX6_kind_10, eX6_kind_12, eX6_kind_15, eX6_kind_18, eX6_kind_19, eX6_kind_21, eX6_kind_24, eX6_kind_25, eX6_kind_26, eX6_kind_27, eX6_kind_30, eX6_kind_33, eX6_kind_34, eX6_kind_36, eX6_kind_39, eX6_kind_40, eX6_kind_41, eX6_kind_42, eX6_kind_43, eX6_kind_45, eX6_kind_46, eX6_kind_50, eX6_kind_51, eX6_kind_54, eX6_kind_55, eX6_kind_56, eX6_kind_57, eX6_kind_59, eX6_kind_60, eX6_kind_63, eX6_kind_65, eX6_kind_67, eX6_kind_69, eX6_kind_72, eX6_kind_74, eX6_kind_77, eX6_kind_78, eX6_kind_79, eX6_kind_81, eX6_kind_83, eX6_kind_86, eX6_kind_88, eX6_kind_91, eX6_kind_93, eX6_kind_95, eX6_kind_98, eX6_kind_101, eX6_kind_102, kl_i, kl_r, kl_n, kl_l, true_and, and_true, true_implies, false_implies, not_true_eq_false, not_false_eq_true, i10, Classical.not_not, pOne, mX6_sets, mX6_setsChair, pX6_sets, pX6_setsChair, pX6_chair, pX6_man, pX6_its, RW_pv, pv_pv, B6_pv, atOk_pv, N_0, N_1, N_2, N_3, N_4, N_5, N_6, v7_0, v7_1, v7_2, v7_3, v7_4, v7_5, v7_6, v3_0, v3_1, v3_2, ch0, ch1, ch2, man0, man1, man2, man3, man4, man5, man6, its0, its1, its2, pX6_isOne, rX6_isOne, pX6_in, rX6_in, pX6_isLate, rX6_isLate, bi_0, pf0, pf1, pf2, pf3, pf4, pf5, pf6, mf0, mf1, mf2, mf3, mf4, mf5, mf6, rX6_finds, RW6 h0, ha, e0, rX6_kind, mX6_kind, Option.some.injEq, Value.int.injEq]
  refine ⟨fun c1 => ml0 (by rw [oKind, if_pos (fun z => c1 z.1)]), fun c1 => ⟨fun c2 => ⟨fun c3 => ?_, fun c3 => ml4 (by rw [oKind, if_neg (fun z => z ⟨c1, c2⟩), if_pos c3])⟩, fun c2 => ml0 (by rw [oKind, if_pos (fun z => c2 z.2)])⟩⟩
  have hc := (isOn_vi h.2).mp c1
  have hcN := vi_lt hc
  have eo : oKind (R6 u) c n = .inr ((kindN (R6 u) (NN c) (NN n) 6).1, R6 u) := by rw [oKind, if_neg (fun z => z ⟨c1, c2⟩), if_neg c3]
  rw [eo, an_r, show ml (.inr ((kindN (R6 u) (NN c) (NN n) 6).1, R6 u)) u (kdM u c n 6) = kdM u c n 6 from rfl]
  have key : ∀ (m i : Nat) (j : Option Value), i + m = 6 → GX6_kind w (fun r u' => r = some (.int (kindN (R6 u) (NN c) (NN n) 6).1) ∧ u' = kdM u c n 6) 48 [some (.ref (mA w)), some (.int c), some (.int n), some (.int (kindN (R6 u) (NN c) (NN n) i).1), some (.int (kindN (R6 u) (NN c) (NN n) i).2), some (.int (nI i)), j] [] (kdM u c n i) := by
    intro m
    induction m with
    | zero =>
      intro i j hi
      have e3 : i = 6 := by omega
      subst e3
      have hle : (5 : Int32) < nI 6 := by decide
      rw [eX6_kind_48]
      simp only [eX6_kind_0, eX6_kind_1, eX6_kind_2, eX6_kind_5, eX6_kind_8, eX6_kind_9, eX6_kind_10, eX6_kind_12, eX6_kind_15, eX6_kind_18, eX6_kind_19, eX6_kind_21, eX6_kind_24, eX6_kind_25, eX6_kind_26, eX6_kind_27, eX6_kind_30, eX6_kind_33, eX6_kind_34, eX6_kind_36, eX6_kind_39, eX6_kind_40, eX6_kind_41, eX6_kind_42, eX6_kind_43, eX6_kind_45, eX6_kind_46, eX6_kind_50, eX6_kind_51, eX6_kind_54, eX6_kind_55, eX6_kind_56, eX6_kind_57, eX6_kind_59, eX6_kind_60, eX6_kind_63, eX6_kind_65, eX6_kind_67, eX6_kind_69, eX6_kind_72, eX6_kind_74, eX6_kind_77, eX6_kind_78, eX6_kind_79, eX6_kind_81, eX6_kind_83, eX6_kind_86, eX6_kind_88, eX6_kind_91, eX6_kind_93, eX6_kind_95, eX6_kind_98, eX6_kind_101, eX6_kind_102, kl_i, kl_r, kl_n, kl_l, true_and, and_true, true_implies, false_implies, not_true_eq_false, not_false_eq_true, i10, Classical.not_not, hle]
    | succ m ih =>
      intro i j hi
      have hlt : ¬ (5 : Int32) < nI i := Int32.not_lt.mpr (nI_le (a := i) (b := 5) (by omega) (by decide))
      have hS := kdM_Sc (n := n) h hc i
      have hv := hS.i6 h
      have l := hS.lv h.2
      have hOv : Ok (ost (R6 (kdM u c n i)) (NN c) 0 (nI i)) := Ok0 hv.2
      have hcv : vp_in c (NN (R6 (kdM u c n i) 2)) := by rw [← l.2.2.1]; exact hc
      have ec : coinsW (R6 (kdM u c n i)) (NN c) 0 (nI i) (NN n) = coinsW (R6 u) (NN c) 0 (nI i) (NN n) := coinsW_lv l h.2.M.1 (by decide) hcN (Ok0 h.2) (NN n)
      have go : ∀ (x : Int32 × Int32) (j : Option Value), x = kindN (R6 u) (NN c) (NN n) (i + 1) → GX6_kind w (fun r u' => r = some (.int (kindN (R6 u) (NN c) (NN n) 6).1) ∧ u' = kdM u c n 6) 48 [some (.ref (mA w)), some (.int c), some (.int n), some (.int x.1), some (.int x.2), some (.int (nI i + 1)), j] [] (mX6_coinsWith c 0 (nI i) n (kdM u c n i)) := fun x j hx => by rw [hx, nI_1]; exact ih (i + 1) j (by omega)
      rw [eX6_kind_48]
      by_cases q : (kindN (R6 u) (NN c) (NN n) i).2 < coinsW (R6 u) (NN c) 0 (nI i) (NN n)
      · have q2 : ¬ coinsW (R6 u) (NN c) 0 (nI i) (NN n) ≤ (kindN (R6 u) (NN c) (NN n) i).2 := Int32.not_le.mpr q
        simp only [eX6_kind_0, eX6_kind_1, eX6_kind_2, eX6_kind_5, eX6_kind_8, eX6_kind_9, eX6_kind_10, eX6_kind_12, eX6_kind_15, eX6_kind_18, eX6_kind_19, eX6_kind_21, eX6_kind_24, eX6_kind_25, eX6_kind_26, eX6_kind_27, eX6_kind_30, eX6_kind_33, eX6_kind_34, eX6_kind_36, eX6_kind_39, eX6_kind_40, eX6_kind_41, eX6_kind_42, eX6_kind_43, eX6_kind_45, eX6_kind_46, eX6_kind_50, eX6_kind_51, eX6_kind_54, eX6_kind_55, eX6_kind_56, eX6_kind_57, eX6_kind_59, eX6_kind_60, eX6_kind_63, eX6_kind_65, eX6_kind_67, eX6_kind_69, eX6_kind_72, eX6_kind_74, eX6_kind_77, eX6_kind_78, eX6_kind_79, eX6_kind_81, eX6_kind_83, eX6_kind_86, eX6_kind_88, eX6_kind_91, eX6_kind_93, eX6_kind_95, eX6_kind_98, eX6_kind_101, eX6_kind_102, kl_i, kl_r, kl_n, kl_l, true_and, and_true, true_implies, false_implies, not_true_eq_false, not_false_eq_true, i10, Classical.not_not, pOne, mX6_sets, mX6_setsChair, pX6_sets, pX6_setsChair, pX6_chair, pX6_man, pX6_its, RW_pv, pv_pv, B6_pv, atOk_pv, N_0, N_1, N_2, N_3, N_4, N_5, N_6, v7_0, v7_1, v7_2, v7_3, v7_4, v7_5, v7_6, v3_0, v3_1, v3_2, ch0, ch1, ch2, man0, man1, man2, man3, man4, man5, man6, its0, its1, its2, hlt, pX6_coinsWith, rX6_coinsWith, hv, hOv, hcv, ec, q2]
        exact go (nI i, coinsW (R6 u) (NN c) 0 (nI i) (NN n)) _ (by rw [kindN, if_pos q])
      · have q2 : coinsW (R6 u) (NN c) 0 (nI i) (NN n) ≤ (kindN (R6 u) (NN c) (NN n) i).2 := Int32.not_lt.mp q
        simp only [eX6_kind_0, eX6_kind_1, eX6_kind_2, eX6_kind_5, eX6_kind_8, eX6_kind_9, eX6_kind_10, eX6_kind_12, eX6_kind_15, eX6_kind_18, eX6_kind_19, eX6_kind_21, eX6_kind_24, eX6_kind_25, eX6_kind_26, eX6_kind_27, eX6_kind_30, eX6_kind_33, eX6_kind_34, eX6_kind_36, eX6_kind_39, eX6_kind_40, eX6_kind_41, eX6_kind_42, eX6_kind_43, eX6_kind_45, eX6_kind_46, eX6_kind_50, eX6_kind_51, eX6_kind_54, eX6_kind_55, eX6_kind_56, eX6_kind_57, eX6_kind_59, eX6_kind_60, eX6_kind_63, eX6_kind_65, eX6_kind_67, eX6_kind_69, eX6_kind_72, eX6_kind_74, eX6_kind_77, eX6_kind_78, eX6_kind_79, eX6_kind_81, eX6_kind_83, eX6_kind_86, eX6_kind_88, eX6_kind_91, eX6_kind_93, eX6_kind_95, eX6_kind_98, eX6_kind_101, eX6_kind_102, kl_i, kl_r, kl_n, kl_l, true_and, and_true, true_implies, false_implies, not_true_eq_false, not_false_eq_true, i10, Classical.not_not, pOne, mX6_sets, mX6_setsChair, pX6_sets, pX6_setsChair, pX6_chair, pX6_man, pX6_its, RW_pv, pv_pv, B6_pv, atOk_pv, N_0, N_1, N_2, N_3, N_4, N_5, N_6, v7_0, v7_1, v7_2, v7_3, v7_4, v7_5, v7_6, v3_0, v3_1, v3_2, ch0, ch1, ch2, man0, man1, man2, man3, man4, man5, man6, its0, its1, its2, hlt, pX6_coinsWith, rX6_coinsWith, hv, hOv, hcv, ec, q2]
        exact go (kindN (R6 u) (NN c) (NN n) i) _ (by rw [kindN, if_neg q])
  exact key 6 0 _ (by omega)
set_option maxRecDepth 20000 in
theorem KX6_kind_ok (w : WW) : KOk w MX6_kind (KX6_kind w) := KOk_mk flX6_ok ciX6_ok clX6_ok (fun _ _ h => by cases h) (fun _ _ h => by cases h) (List.forall_mem_cons.mpr ⟨itV (n := 87) (by decide) (COk_V (n := 1) (ci := 6) (ctX6_finds w) wcX6_87 nmX6_finds (by decide) (by decide) rfl (prX6_finds w)), List.forall_mem_cons.mpr ⟨itV (n := 115) (by decide) (COk_V (n := 1) (ci := 6) (ctX6_isOne w) wcX6_115 nmX6_isOne (by decide) (by decide) rfl (prX6_isOne w)), List.forall_mem_cons.mpr ⟨itV (n := 148) (by decide) (COk_V (n := 1) (ci := 6) (ctX6_isLate w) wcX6_148 nmX6_isLate (by decide) (by decide) rfl (prX6_isLate w)), List.forall_mem_cons.mpr ⟨itV (n := 176) (by decide) (COk_V (n := 4) (ci := 6) (ctX6_coinsWith w) wcX6_176 nmX6_coinsWith (by decide) (by decide) rfl (prX6_coinsWith w)), List.forall_mem_cons.mpr ⟨itS (n := 50) (COk_S (n := 3) (ctX6_in w) wcX6_65586 nmX6_in (by decide)), List.forall_mem_nil _⟩⟩⟩⟩⟩)
theorem ctX6_kind (w : WW) : CT w yX6_kind MX6_kind (csX6_kind w).2.1 (csX6_kind w).2.2 := by
  refine CT_of (by decide) rfl TX6_kind_ok TX6_kind_v (KX6_kind_ok w) (fun as u h => ?_)
  obtain ⟨a0, a1, a2, rfl, h⟩ := sgRII h
  obtain ⟨rfl, hh⟩ := h
  refine ⟨Nat.le_of_ble_eq_true rfl, ?_⟩
  have key := vX6_kind w a1 a2 u hh
  exact key
theorem prX6_kind (w : WW) : ∀ as u, (csX6_kind w).2.1 as u → ∃ a r, as = .ref a :: r ∧ r.length = 2 ∧ okO w a 6 := by
  intro as u h
  obtain ⟨a0, a1, a2, rfl, h⟩ := sgRII h
  exact ⟨_, _, rfl, rfl, okO_m h⟩
