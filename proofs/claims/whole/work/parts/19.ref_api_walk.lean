/-! ===== the reference's acts that lend nothing, walked ===== -/
theorem pf0 (u : MM) : pX6_finds (-1000000001) u := vi_nI (j := 0) (n := 7) (by decide)
theorem mf0 (u : MM) : mX6_finds (-1000000001) u = fnd6 0 u := rfl
theorem pf1 (u : MM) : pX6_finds (-1000000002) u := vi_nI (j := 1) (n := 7) (by decide)
theorem mf1 (u : MM) : mX6_finds (-1000000002) u = fnd6 1 u := rfl
theorem pf2 (u : MM) : pX6_finds (-1000000003) u := vi_nI (j := 2) (n := 7) (by decide)
theorem mf2 (u : MM) : mX6_finds (-1000000003) u = fnd6 2 u := rfl
theorem pf3 (u : MM) : pX6_finds (-1000000004) u := vi_nI (j := 3) (n := 7) (by decide)
theorem mf3 (u : MM) : mX6_finds (-1000000004) u = fnd6 3 u := rfl
theorem pf4 (u : MM) : pX6_finds (-1000000005) u := vi_nI (j := 4) (n := 7) (by decide)
theorem mf4 (u : MM) : mX6_finds (-1000000005) u = fnd6 4 u := rfl
theorem pf5 (u : MM) : pX6_finds (-1000000006) u := vi_nI (j := 5) (n := 7) (by decide)
theorem mf5 (u : MM) : mX6_finds (-1000000006) u = fnd6 5 u := rfl
theorem pf6 (u : MM) : pX6_finds (-1000000007) u := vi_nI (j := 6) (n := 7) (by decide)
theorem mf6 (u : MM) : mX6_finds (-1000000007) u = fnd6 6 u := rfl
theorem an_l (k : Nat) : an (.inl k) = -1000000001 - nI k := rfl
theorem an_r (a : Int32) (R : Nat → Int32) : an (.inr (a, R)) = a := rfl
theorem mo_l (k : Nat) (u : MM) : mo6 (.inl k) u = fnd6 k u := rfl
theorem mo_r (a : Int32) (R : Nat → Int32) (u : MM) : mo6 (.inr (a, R)) u = pv u 1100 R := rfl
theorem fk0 : (-1000000001 : Int32) - nI 0 = -1000000001 := by decide
theorem fk1 : (-1000000001 : Int32) - nI 1 = -1000000002 := by decide
theorem fk2 : (-1000000001 : Int32) - nI 2 = -1000000003 := by decide
theorem fk3 : (-1000000001 : Int32) - nI 3 = -1000000004 := by decide
theorem fk4 : (-1000000001 : Int32) - nI 4 = -1000000005 := by decide
theorem fk5 : (-1000000001 : Int32) - nI 5 = -1000000006 := by decide
theorem fk6 : (-1000000001 : Int32) - nI 6 = -1000000007 := by decide
theorem RW6 {u : MM} (h : u.1 1000 = 0) : RW u = R6 u := by rw [RW, B6_0 h]
theorem pv6 (u : MM) : pv u 1100 (vw u 1100) = u := pv_vw u 1100
theorem i6M {u : MM} (h : I6 u) : ∃ M, M ≤ 6 ∧ R6 u 1 = nI M ∧ NN (R6 u 1) = M := by
  obtain ⟨M, hM, e⟩ := h.2.1; exact ⟨M, hM, e, by rw [show R6 u 1 = nI M from e, NN_nI (by omega)]⟩
theorem i6K {u : MM} (h : I6 u) : ∃ K, K ≤ 10 ∧ R6 u 2 = nI K ∧ NN (R6 u 2) = K := by
  obtain ⟨K, hK, e⟩ := h.2.2.1; exact ⟨K, hK, e, by rw [show R6 u 2 = nI K from e, NN_nI (by omega)]⟩
/-- an index that is asked for, and the count -/
theorem le_pred {s : Int32} {M : Nat} (hM : M < 2 ^ 31) (h0 : 0 ≤ s) (h1 : s ≤ nI M - 1) : ∃ j, j < M ∧ s = nI j := by
  obtain ⟨j, hj, rfl⟩ := nI_of (Int32.not_lt.mpr h0)
  cases M with
  | zero =>
    exfalso
    have e : nI 0 - 1 = -1 := by decide
    rw [e] at h1
    have h2 := Int32.le_trans h0 h1
    exact absurd h2 (by decide)
  | succ M =>
    rw [nI_pred] at h1
    exact ⟨j, by have := (nI_leI hj (by omega)).mp h1; omega, rfl⟩
theorem pred_le {j M : Nat} (hM : M < 2 ^ 31) (h : j < M) : 0 ≤ nI j ∧ nI j ≤ nI M - 1 := by
  cases M with
  | zero => omega
  | succ M => rw [nI_pred]; exact ⟨nI_pos' (by omega), nI_le (by omega) (by omega)⟩
theorem isSt_vi {R : Nat → Int32} {s : Int32} (hO : Ok R) : isSt R s ↔ vp_in s (NN (R 1)) := by
  obtain ⟨h1, h2⟩ := hO.M
  constructor
  · rintro ⟨a, b⟩
    rw [h2] at b
    obtain ⟨j, hj, rfl⟩ := le_pred (by omega) a b
    exact vi_nI hj (by omega)
  · intro h
    obtain ⟨j, hj, rfl⟩ := vi_of h (by omega)
    rw [isSt, h2]; exact pred_le (by omega) hj
theorem isOn_vi {R : Nat → Int32} {s : Int32} (hO : Ok R) : isOn R s ↔ vp_in s (NN (R 2)) := by
  obtain ⟨h1, h2⟩ := hO.K
  constructor
  · rintro ⟨a, b⟩
    rw [h2] at b
    obtain ⟨j, hj, rfl⟩ := le_pred (by omega) a b
    exact vi_nI hj (by omega)
  · intro h
    obtain ⟨j, hj, rfl⟩ := vi_of h (by omega)
    rw [isOn, h2]; exact pred_le (by omega) hj
theorem lf0 {o : OP} {u : MM} (h : o = .inl 0) : (-1000000001 : Int32) = an o ∧ fnd6 0 u = mo6 o u := by subst h; exact ⟨fk0.symm, rfl⟩
theorem lf1 {o : OP} {u : MM} (h : o = .inl 1) : (-1000000002 : Int32) = an o ∧ fnd6 1 u = mo6 o u := by subst h; exact ⟨fk1.symm, rfl⟩
theorem lf2 {o : OP} {u : MM} (h : o = .inl 2) : (-1000000003 : Int32) = an o ∧ fnd6 2 u = mo6 o u := by subst h; exact ⟨fk2.symm, rfl⟩
theorem lf3 {o : OP} {u : MM} (h : o = .inl 3) : (-1000000004 : Int32) = an o ∧ fnd6 3 u = mo6 o u := by subst h; exact ⟨fk3.symm, rfl⟩
theorem lf4 {o : OP} {u : MM} (h : o = .inl 4) : (-1000000005 : Int32) = an o ∧ fnd6 4 u = mo6 o u := by subst h; exact ⟨fk4.symm, rfl⟩
theorem lf5 {o : OP} {u : MM} (h : o = .inl 5) : (-1000000006 : Int32) = an o ∧ fnd6 5 u = mo6 o u := by subst h; exact ⟨fk5.symm, rfl⟩
theorem lf6 {o : OP} {u : MM} (h : o = .inl 6) : (-1000000007 : Int32) = an o ∧ fnd6 6 u = mo6 o u := by subst h; exact ⟨fk6.symm, rfl⟩
theorem lfr {o : OP} {u : MM} {a : Int32} {S : Nat → Int32} (h : o = .inr (a, S)) : a = an o ∧ pv u 1100 S = mo6 o u := by subst h; exact ⟨rfl, rfl⟩
theorem lfq {o : OP} {u : MM} {a : Int32} (h : o = .inr (a, R6 u)) : a = an o ∧ u = mo6 o u := by subst h; exact ⟨rfl, (pv6 u).symm⟩
theorem ii_sub1 (x : Int32) : x + 1 - 1 = x := by rw [Int32.add_sub_cancel]
theorem v99 {v : Int32} (h : in99 v) : ∃ j, j < 100 ∧ v = nI j := by
  obtain ⟨j, hj, e⟩ := nI_of2 (M := 99) (n := 99) rfl (Int32.not_lt.mpr h.1) h.2
  exact ⟨j, by omega, e⟩
theorem vX6_seat (w : WW) : VX6_seat w := by
  intro p t u h
  have h0 := h.1
  have e := B6_0 h0
  have hm : mnyOk (R6 u) := h.2.1
  obtain ⟨M, hM, eM, eN⟩ := i6M h
  have e1 : u.1 (1100 + 1) = R6 u 1 := rfl
  simp only [eX6_seat_0, eX6_seat_1, eX6_seat_4, eX6_seat_7, eX6_seat_8, eX6_seat_11, eX6_seat_14, eX6_seat_15, eX6_seat_17, eX6_seat_20, eX6_seat_21, eX6_seat_22, eX6_seat_23, eX6_seat_26, eX6_seat_29, eX6_seat_30, eX6_seat_32, eX6_seat_35, eX6_seat_36, eX6_seat_37, eX6_seat_40, eX6_seat_41, eX6_seat_42, eX6_seat_44, eX6_seat_47, eX6_seat_48, eX6_seat_50, eX6_seat_53, eX6_seat_54, eX6_seat_55, eX6_seat_56, eX6_seat_57, eX6_seat_60, eX6_seat_61, eX6_seat_64, eX6_seat_65, eX6_seat_66, eX6_seat_67, eX6_seat_68, kl_i, kl_r, kl_n, kl_l, true_and, and_true, true_implies, false_implies, not_true_eq_false, not_false_eq_true, i10, Classical.not_not, pOne, mX6_sets, mX6_setsChair, pX6_sets, pX6_setsChair, pX6_chair, pX6_man, pX6_its, RW_pv, pv_pv, B6_pv, atOk_pv, N_0, N_1, N_2, N_3, N_4, N_5, N_6, v7_0, v7_1, v7_2, v7_3, v7_4, v7_5, v7_6, v3_0, v3_1, v3_2, ch0, ch1, ch2, man0, man1, man2, man3, man4, man5, man6, its0, its1, its2, pX6_isSpot, pX6_isTold, rX6_isSpot, rX6_isTold, bi_0, pf0, pf1, pf2, pf3, pf4, pf5, pf6, mf0, mf1, mf2, mf3, mf4, mf5, mf6, rX6_finds, pX6_hasSeat, rX6_hasSeat, h0, RW6 h0, hm, ok_m0, rf_m0, ai_mr0, rd_mr0, v182_1, rX6_seat, mX6_seat, Option.some.injEq, Value.int.injEq, pX6_addSeat, mX6_addSeat, e, pv_hi, e1]
  refine ⟨fun c1 => lf0 ?_, fun c1 => ⟨fun c2 => ⟨fun c3 => ⟨fun c4 => ⟨?_, ?_⟩, fun c4 => lf1 ?_⟩, fun c3 => lf4 ?_⟩, fun c2 => lf0 ?_⟩⟩
  · rw [oSeat, if_pos (fun z => c1 z.1)]
  · rw [eM]
    refine vi_nI ?_
    have : M ≠ 6 := fun z => c4 (by rw [eM, z]; rfl)
    omega
  · have : seatAdd (R6 u) p t 1 - 1 = R6 u 1 := by
      show R6 u 1 + 1 - 1 = _
      exact ii_sub1 _
    rw [this]
    exact lfr (by rw [oSeat, if_neg (fun z => z ⟨c1, c2⟩), if_neg c3, if_neg c4])
  · rw [oSeat, if_neg (fun z => z ⟨c1, c2⟩), if_neg c3, if_pos c4]
  · rw [oSeat, if_neg (fun z => z ⟨c1, c2⟩), if_pos c3]
  · rw [oSeat, if_pos (fun z => c2 z.2)]
theorem wcX6_87 : ∀ x ∈ wV1 RX6 87 yX6_finds MX6_finds, x ∈ Gt := by decide +kernel
theorem nmX6_finds : nmOk yX6_finds 1 = true := by decide +kernel
theorem wcX6_90 : ∀ x ∈ wV1 RX6 90 yX6_hasSeat MX6_hasSeat, x ∈ Gt := by decide +kernel
theorem nmX6_hasSeat : nmOk yX6_hasSeat 1 = true := by decide +kernel
theorem wcX6_95 : ∀ x ∈ wV1 RX6 95 yX6_addSeat MX6_addSeat, x ∈ Gt := by decide +kernel
theorem nmX6_addSeat : nmOk yX6_addSeat 2 = true := by decide +kernel
theorem wcX6_65617 : ∀ x ∈ wS1 RX6 81 yX6_isSpot MX6_isSpot, x ∈ Gt := by decide +kernel
theorem nmX6_isSpot : nmOk yX6_isSpot 1 = true := by decide +kernel
theorem wcX6_65620 : ∀ x ∈ wS1 RX6 84 yX6_isTold MX6_isTold, x ∈ Gt := by decide +kernel
theorem nmX6_isTold : nmOk yX6_isTold 1 = true := by decide +kernel
set_option maxRecDepth 20000 in
theorem KX6_seat_ok (w : WW) : KOk w MX6_seat (KX6_seat w) := KOk_mk flX6_ok ciX6_ok clX6_ok (fun _ _ h => by cases h) (fun _ _ h => by cases h) (List.forall_mem_cons.mpr ⟨itV (n := 87) (by decide) (COk_V (n := 1) (ci := 6) (ctX6_finds w) wcX6_87 nmX6_finds (by decide) (by decide) rfl (prX6_finds w)), List.forall_mem_cons.mpr ⟨itV (n := 90) (by decide) (COk_V (n := 1) (ci := 6) (ctX6_hasSeat w) wcX6_90 nmX6_hasSeat (by decide) (by decide) rfl (prX6_hasSeat w)), List.forall_mem_cons.mpr ⟨itV (n := 95) (by decide) (COk_V (n := 2) (ci := 6) (ctX6_addSeat w) wcX6_95 nmX6_addSeat (by decide) (by decide) rfl (prX6_addSeat w)), List.forall_mem_cons.mpr ⟨itS (n := 81) (COk_S (n := 1) (ctX6_isSpot w) wcX6_65617 nmX6_isSpot (by decide)), List.forall_mem_cons.mpr ⟨itS (n := 84) (COk_S (n := 1) (ctX6_isTold w) wcX6_65620 nmX6_isTold (by decide)), List.forall_mem_nil _⟩⟩⟩⟩⟩)
theorem ctX6_seat (w : WW) : CT w yX6_seat MX6_seat (csX6_seat w).2.1 (csX6_seat w).2.2 := by
  refine CT_of (by decide) rfl TX6_seat_ok TX6_seat_v (KX6_seat_ok w) (fun as u h => ?_)
  obtain ⟨a0, a1, a2, rfl, h⟩ := sgRII h
  obtain ⟨rfl, hh⟩ := h
  refine ⟨Nat.le_of_ble_eq_true rfl, ?_⟩
  have key := vX6_seat w a1 a2 u hh
  exact key
theorem prX6_seat (w : WW) : ∀ as u, (csX6_seat w).2.1 as u → ∃ a r, as = .ref a :: r ∧ r.length = 2 ∧ okO w a 6 := by
  intro as u h
  obtain ⟨a0, a1, a2, rfl, h⟩ := sgRII h
  exact ⟨_, _, rfl, rfl, okO_m h⟩
theorem v0_le {k n : Int32} {m : Nat} (h0 : 0 ≤ k) (h1 : k ≤ n) (hn : n.toInt = m) : ∃ j, j ≤ m ∧ k = nI j := nI_of2 hn (Int32.not_lt.mpr h0) h1
theorem vX6_seatOf (w : WW) : VX6_seatOf w := by
  intro s k u h
  have h0 := h.1
  have e := B6_0 h0
  have ha : atOk u := Or.inl h0
  have hk : crtOk (R6 u) := h.2.crt
  simp only [eX6_seatOf_0, eX6_seatOf_1, eX6_seatOf_2, eX6_seatOf_5, eX6_seatOf_8, eX6_seatOf_9, eX6_seatOf_10, eX6_seatOf_11, eX6_seatOf_14, eX6_seatOf_17, eX6_seatOf_18, eX6_seatOf_20, eX6_seatOf_23, eX6_seatOf_24, eX6_seatOf_25, eX6_seatOf_26, eX6_seatOf_29, eX6_seatOf_30, eX6_seatOf_31, eX6_seatOf_32, eX6_seatOf_35, eX6_seatOf_38, eX6_seatOf_39, eX6_seatOf_40, eX6_seatOf_41, eX6_seatOf_44, kl_i, kl_r, kl_n, kl_l, true_and, and_true, true_implies, false_implies, not_true_eq_false, not_false_eq_true, i10, Classical.not_not, pOne, mX6_sets, mX6_setsChair, pX6_sets, pX6_setsChair, pX6_chair, pX6_man, pX6_its, RW_pv, pv_pv, B6_pv, atOk_pv, N_0, N_1, N_2, N_3, N_4, N_5, N_6, v7_0, v7_1, v7_2, v7_3, v7_4, v7_5, v7_6, v3_0, v3_1, v3_2, ch0, ch1, ch2, man0, man1, man2, man3, man4, man5, man6, its0, its1, its2, pX6_isSeat, rX6_isSeat, rX6_in, pX6_in, bi_0, pf0, pf1, pf2, pf3, pf4, pf5, pf6, mf0, mf1, mf2, mf3, mf4, mf5, mf6, rX6_finds, h0, RW6 h0, ha, hk, pX6_nextBut, rX6_nextBut, rX6_seatOf, mX6_seatOf, Option.some.injEq, Value.int.injEq]
  refine ⟨fun c1 => lf0 ?_, fun c1 => ⟨fun c2 => ?_, fun c2 => lf0 ?_⟩⟩
  · rw [oSeatOf, if_pos (fun z => c1 z.1)]
  · have hs : vp_in s 6 := vi_mono ((isSt_vi h.2).mp c1) h.2.M.1
    obtain ⟨j, hj, rfl⟩ := v0_le (m := 3) c2.1 c2.2 rfl
    refine ⟨fun c3 => ⟨⟨hs, ?_⟩, ?_⟩, fun c3 => ⟨hs, ?_⟩⟩
    · have : j ≠ 3 := fun z => c3 (by rw [z]; rfl)
      exact vi_nI (by omega)
    · exact lfq (by rw [oSeatOf, if_neg (fun z => z ⟨c1, c2⟩), if_neg c3, rX6_chair, RW6 h0])
    · exact lfq (by rw [oSeatOf, if_neg (fun z => z ⟨c1, c2⟩), if_pos c3])
  · rw [oSeatOf, if_pos (fun z => c2 z.2)]
theorem wcX6_99 : ∀ x ∈ wV1 RX6 99 yX6_isSeat MX6_isSeat, x ∈ Gt := by decide +kernel
theorem nmX6_isSeat : nmOk yX6_isSeat 1 = true := by decide +kernel
set_option maxRecDepth 20000 in
theorem KX6_seatOf_ok (w : WW) : KOk w MX6_seatOf (KX6_seatOf w) := KOk_mk flX6_ok ciX6_ok clX6_ok (fun _ _ h => by cases h) (fun _ _ h => by cases h) (List.forall_mem_cons.mpr ⟨itV (n := 71) (by decide) (COk_V (n := 2) (ci := 6) (ctX6_chair w) wcX6_71 nmX6_chair (by decide) (by decide) rfl (prX6_chair w)), List.forall_mem_cons.mpr ⟨itV (n := 87) (by decide) (COk_V (n := 1) (ci := 6) (ctX6_finds w) wcX6_87 nmX6_finds (by decide) (by decide) rfl (prX6_finds w)), List.forall_mem_cons.mpr ⟨itV (n := 99) (by decide) (COk_V (n := 1) (ci := 6) (ctX6_isSeat w) wcX6_99 nmX6_isSeat (by decide) (by decide) rfl (prX6_isSeat w)), List.forall_mem_cons.mpr ⟨itV (n := 102) (by decide) (COk_V (n := 2) (ci := 6) (ctX6_nextBut w) wcX6_102 nmX6_nextBut (by decide) (by decide) rfl (prX6_nextBut w)), List.forall_mem_cons.mpr ⟨itS (n := 50) (COk_S (n := 3) (ctX6_in w) wcX6_65586 nmX6_in (by decide)), List.forall_mem_nil _⟩⟩⟩⟩⟩)
theorem ctX6_seatOf (w : WW) : CT w yX6_seatOf MX6_seatOf (csX6_seatOf w).2.1 (csX6_seatOf w).2.2 := by
  refine CT_of (by decide) rfl TX6_seatOf_ok TX6_seatOf_v (KX6_seatOf_ok w) (fun as u h => ?_)
  obtain ⟨a0, a1, a2, rfl, h⟩ := sgRII h
  obtain ⟨rfl, hh⟩ := h
  refine ⟨Nat.le_of_ble_eq_true rfl, ?_⟩
  have key := vX6_seatOf w a1 a2 u hh
  exact key
theorem prX6_seatOf (w : WW) : ∀ as u, (csX6_seatOf w).2.1 as u → ∃ a r, as = .ref a :: r ∧ r.length = 2 ∧ okO w a 6 := by
  intro as u h
  obtain ⟨a0, a1, a2, rfl, h⟩ := sgRII h
  exact ⟨_, _, rfl, rfl, okO_m h⟩
theorem vX6_worth (w : WW) : VX6_worth w := by
  intro s v u h
  have h0 := h.1
  have e := B6_0 h0
  have ha : atOk u := Or.inl h0
  simp only [eX6_worth_0, eX6_worth_1, eX6_worth_2, eX6_worth_5, eX6_worth_8, eX6_worth_9, eX6_worth_12, eX6_worth_15, eX6_worth_16, eX6_worth_18, eX6_worth_21, eX6_worth_22, eX6_worth_23, eX6_worth_24, eX6_worth_25, eX6_worth_28, eX6_worth_29, eX6_worth_30, eX6_worth_31, eX6_worth_32, eX6_worth_33, eX6_worth_36, eX6_worth_37, kl_i, kl_r, kl_n, kl_l, true_and, and_true, true_implies, false_implies, not_true_eq_false, not_false_eq_true, i10, Classical.not_not, pOne, mX6_sets, mX6_setsChair, pX6_sets, pX6_setsChair, pX6_chair, pX6_man, pX6_its, RW_pv, pv_pv, B6_pv, atOk_pv, N_0, N_1, N_2, N_3, N_4, N_5, N_6, v7_0, v7_1, v7_2, v7_3, v7_4, v7_5, v7_6, v3_0, v3_1, v3_2, ch0, ch1, ch2, man0, man1, man2, man3, man4, man5, man6, its0, its1, its2, pX6_isSeat, rX6_isSeat, pX6_isTold, rX6_isTold, bi_0, pf0, pf1, pf2, pf3, pf4, pf5, pf6, mf0, mf1, mf2, mf3, mf4, mf5, mf6, rX6_finds, h0, RW6 h0, ha, rX6_worth, mX6_worth, Option.some.injEq, Value.int.injEq, e]
  refine ⟨fun c1 => lf0 ?_, fun c1 => ⟨fun c2 => ?_, fun c2 => lf0 ?_⟩⟩
  · rw [oWorth, if_pos (fun z => c1 z.1)]
  · have hs : vp_in s 6 := vi_mono ((isSt_vi h.2).mp c1) h.2.M.1
    exact ⟨hs, hs, lfr (by rw [oWorth, if_neg (fun z => z ⟨c1, c2⟩)])⟩
  · rw [oWorth, if_pos (fun z => c2 z.2)]
set_option maxRecDepth 20000 in
theorem KX6_worth_ok (w : WW) : KOk w MX6_worth (KX6_worth w) := KOk_mk flX6_ok ciX6_ok clX6_ok (fun _ _ h => by cases h) (fun _ _ h => by cases h) (List.forall_mem_cons.mpr ⟨itV (n := 71) (by decide) (COk_V (n := 2) (ci := 6) (ctX6_chair w) wcX6_71 nmX6_chair (by decide) (by decide) rfl (prX6_chair w)), List.forall_mem_cons.mpr ⟨itV (n := 77) (by decide) (COk_V (n := 3) (ci := 6) (ctX6_setsChair w) wcX6_77 nmX6_setsChair (by decide) (by decide) rfl (prX6_setsChair w)), List.forall_mem_cons.mpr ⟨itV (n := 87) (by decide) (COk_V (n := 1) (ci := 6) (ctX6_finds w) wcX6_87 nmX6_finds (by decide) (by decide) rfl (prX6_finds w)), List.forall_mem_cons.mpr ⟨itV (n := 99) (by decide) (COk_V (n := 1) (ci := 6) (ctX6_isSeat w) wcX6_99 nmX6_isSeat (by decide) (by decide) rfl (prX6_isSeat w)), List.forall_mem_cons.mpr ⟨itS (n := 84) (COk_S (n := 1) (ctX6_isTold w) wcX6_65620 nmX6_isTold (by decide)), List.forall_mem_nil _⟩⟩⟩⟩⟩)
theorem ctX6_worth (w : WW) : CT w yX6_worth MX6_worth (csX6_worth w).2.1 (csX6_worth w).2.2 := by
  refine CT_of (by decide) rfl TX6_worth_ok TX6_worth_v (KX6_worth_ok w) (fun as u h => ?_)
  obtain ⟨a0, a1, a2, rfl, h⟩ := sgRII h
  obtain ⟨rfl, hh⟩ := h
  refine ⟨Nat.le_of_ble_eq_true rfl, ?_⟩
  have key := vX6_worth w a1 a2 u hh
  exact key
theorem prX6_worth (w : WW) : ∀ as u, (csX6_worth w).2.1 as u → ∃ a r, as = .ref a :: r ∧ r.length = 2 ∧ okO w a 6 := by
  intro as u h
  obtain ⟨a0, a1, a2, rfl, h⟩ := sgRII h
  exact ⟨_, _, rfl, rfl, okO_m h⟩
theorem vX6_comes (w : WW) : VX6_comes w := by
  intro k p t u h
  have h0 := h.1
  have e := B6_0 h0
  obtain ⟨K, hK, eK, eN⟩ := i6K h
  have e1 : u.1 (1100 + 2) = R6 u 2 := rfl
  simp only [eX6_comes_0, eX6_comes_1, eX6_comes_4, eX6_comes_7, eX6_comes_8, eX6_comes_11, eX6_comes_14, eX6_comes_15, eX6_comes_18, eX6_comes_21, eX6_comes_22, eX6_comes_24, eX6_comes_27, eX6_comes_28, eX6_comes_29, eX6_comes_32, eX6_comes_33, eX6_comes_34, eX6_comes_36, eX6_comes_39, eX6_comes_40, eX6_comes_42, eX6_comes_45, eX6_comes_46, eX6_comes_47, eX6_comes_48, eX6_comes_49, eX6_comes_50, eX6_comes_51, eX6_comes_54, eX6_comes_55, eX6_comes_58, eX6_comes_59, eX6_comes_60, eX6_comes_61, eX6_comes_62, kl_i, kl_r, kl_n, kl_l, true_and, and_true, true_implies, false_implies, not_true_eq_false, not_false_eq_true, i10, Classical.not_not, pOne, mX6_sets, mX6_setsChair, pX6_sets, pX6_setsChair, pX6_chair, pX6_man, pX6_its, RW_pv, pv_pv, B6_pv, atOk_pv, N_0, N_1, N_2, N_3, N_4, N_5, N_6, v7_0, v7_1, v7_2, v7_3, v7_4, v7_5, v7_6, v3_0, v3_1, v3_2, ch0, ch1, ch2, man0, man1, man2, man3, man4, man5, man6, its0, its1, its2, pX6_isSpot, pX6_isTold, pX6_isKind, rX6_isSpot, rX6_isTold, rX6_isKind, bi_0, pf0, pf1, pf2, pf3, pf4, pf5, pf6, mf0, mf1, mf2, mf3, mf4, mf5, mf6, rX6_finds, h0, RW6 h0, ok_m0, rf_m0, ai_mr0, rd_mr0, v182_2, rX6_comes, mX6_comes, Option.some.injEq, Value.int.injEq, pX6_addOne, mX6_addOne, e, pv_hi, e1]
  refine ⟨fun c1 => lf0 ?_, fun c1 => ⟨fun c2 => lf0 ?_, fun c2 => ⟨fun c3 => ⟨fun c4 => ⟨?_, ?_⟩, fun c4 => lf1 ?_⟩, fun c3 => lf0 ?_⟩⟩⟩
  · rw [oComes, if_pos (fun z => c1 z.1)]
  · rw [oComes, if_pos (fun z => c2 z.2.1)]
  · rw [eK]
    refine vi_nI ?_
    have : K ≠ 10 := fun z => c4 (by rw [eK, z]; rfl)
    omega
  · have : oneAdd (R6 u) k p t (-1) 2 - 1 = R6 u 2 := by
      show R6 u 2 + 1 - 1 = _
      exact ii_sub1 _
    rw [this]
    exact lfr (by rw [oComes, if_neg (fun z => z ⟨c1, c2, c3⟩), if_neg c4])
  · rw [oComes, if_neg (fun z => z ⟨c1, c2, c3⟩), if_pos c4]
  · rw [oComes, if_pos (fun z => c3 z.2.2)]
theorem wcX6_111 : ∀ x ∈ wV1 RX6 111 yX6_addOne MX6_addOne, x ∈ Gt := by decide +kernel
theorem nmX6_addOne : nmOk yX6_addOne 4 = true := by decide +kernel
theorem wcX6_65644 : ∀ x ∈ wS1 RX6 108 yX6_isKind MX6_isKind, x ∈ Gt := by decide +kernel
theorem nmX6_isKind : nmOk yX6_isKind 1 = true := by decide +kernel
set_option maxRecDepth 20000 in
theorem KX6_comes_ok (w : WW) : KOk w MX6_comes (KX6_comes w) := KOk_mk flX6_ok ciX6_ok clX6_ok (fun _ _ h => by cases h) (fun _ _ h => by cases h) (List.forall_mem_cons.mpr ⟨itV (n := 87) (by decide) (COk_V (n := 1) (ci := 6) (ctX6_finds w) wcX6_87 nmX6_finds (by decide) (by decide) rfl (prX6_finds w)), List.forall_mem_cons.mpr ⟨itV (n := 111) (by decide) (COk_V (n := 4) (ci := 6) (ctX6_addOne w) wcX6_111 nmX6_addOne (by decide) (by decide) rfl (prX6_addOne w)), List.forall_mem_cons.mpr ⟨itS (n := 81) (COk_S (n := 1) (ctX6_isSpot w) wcX6_65617 nmX6_isSpot (by decide)), List.forall_mem_cons.mpr ⟨itS (n := 84) (COk_S (n := 1) (ctX6_isTold w) wcX6_65620 nmX6_isTold (by decide)), List.forall_mem_cons.mpr ⟨itS (n := 108) (COk_S (n := 1) (ctX6_isKind w) wcX6_65644 nmX6_isKind (by decide)), List.forall_mem_nil _⟩⟩⟩⟩⟩)
theorem ctX6_comes (w : WW) : CT w yX6_comes MX6_comes (csX6_comes w).2.1 (csX6_comes w).2.2 := by
  refine CT_of (by decide) rfl TX6_comes_ok TX6_comes_v (KX6_comes_ok w) (fun as u h => ?_)
  obtain ⟨a0, a1, a2, a3, rfl, h⟩ := sgRIII h
  obtain ⟨rfl, hh⟩ := h
  refine ⟨Nat.le_of_ble_eq_true rfl, ?_⟩
  have key := vX6_comes w a1 a2 a3 u hh
  exact key
theorem prX6_comes (w : WW) : ∀ as u, (csX6_comes w).2.1 as u → ∃ a r, as = .ref a :: r ∧ r.length = 3 ∧ okO w a 6 := by
  intro as u h
  obtain ⟨a0, a1, a2, a3, rfl, h⟩ := sgRIII h
  exact ⟨_, _, rfl, rfl, okO_m h⟩
theorem vX6_of (w : WW) : VX6_of w := by
  intro c k u h
  have h0 := h.1
  have e := B6_0 h0
  have ha : atOk u := Or.inl h0
  simp only [eX6_of_0, eX6_of_1, eX6_of_2, eX6_of_5, eX6_of_8, eX6_of_9, eX6_of_10, eX6_of_12, eX6_of_15, eX6_of_18, eX6_of_19, eX6_of_21, eX6_of_24, eX6_of_25, eX6_of_26, eX6_of_52, eX6_of_53, eX6_of_54, eX6_of_57, eX6_of_58, eX6_of_59, eX6_of_60, eX6_of_63, eX6_of_64, eX6_of_65, eX6_of_66, eX6_of_69, eX6_of_70, eX6_of_71, eX6_of_72, eX6_of_73, eX6_of_76, kl_i, kl_r, kl_n, kl_l, true_and, and_true, true_implies, false_implies, not_true_eq_false, not_false_eq_true, i10, Classical.not_not, pOne, mX6_sets, mX6_setsChair, pX6_sets, pX6_setsChair, pX6_chair, pX6_man, pX6_its, RW_pv, pv_pv, B6_pv, atOk_pv, N_0, N_1, N_2, N_3, N_4, N_5, N_6, v7_0, v7_1, v7_2, v7_3, v7_4, v7_5, v7_6, v3_0, v3_1, v3_2, ch0, ch1, ch2, man0, man1, man2, man3, man4, man5, man6, its0, its1, its2, pX6_isOne, rX6_isOne, rX6_in, pX6_in, bi_0, pf0, pf1, pf2, pf3, pf4, pf5, pf6, mf0, mf1, mf2, mf3, mf4, mf5, mf6, rX6_finds, h0, RW6 h0, ha, rX6_of, mX6_of, Option.some.injEq, Value.int.injEq, pX6_leans, rX6_leans, pX6_stays, rX6_stays, pX6_goes, rX6_goes]
  refine ⟨fun c1 => lf0 ?_, fun c1 => ⟨fun c2 => ?_, fun c2 => lf0 ?_⟩⟩
  · rw [oOf, if_pos (fun z => c1 z.1)]
  · have hs : vp_in c 10 := vi_mono ((isOn_vi h.2).mp c1) h.2.K.1
    have eo : oOf (R6 u) c k = .inr (ofK (R6 u) (NN c) k, R6 u) := by rw [oOf, if_neg (fun z => z ⟨c1, c2⟩)]
    refine ⟨fun c3 => ⟨hs, lfq ?_⟩, fun c3 => ⟨fun c4 => ⟨hs, lfq ?_⟩, fun c4 => ⟨fun c5 => ⟨hs, lfq ?_⟩, fun c5 => ⟨⟨hs, ?_⟩, lfq ?_⟩⟩⟩⟩
    · rw [eo, ofK, if_pos c3]
    · rw [eo, ofK, if_neg c3, if_pos c4]
    · rw [eo, ofK, if_neg c3, if_neg c4, if_pos c5]
    · obtain ⟨j, hj, rfl⟩ := v0_le (m := 9) c2.1 c2.2 rfl
      have h7 : j ≠ 7 := fun z => c3 (by rw [z]; rfl)
      have h8 : j ≠ 8 := fun z => c4 (by rw [z]; rfl)
      have h9 : j ≠ 9 := fun z => c5 (by rw [z]; rfl)
      exact vi_nI (by omega)
    · rw [eo, ofK, if_neg c3, if_neg c4, if_neg c5, rX6_man, RW6 h0]
  · rw [oOf, if_pos (fun z => c2 z.2)]
theorem wcX6_115 : ∀ x ∈ wV1 RX6 115 yX6_isOne MX6_isOne, x ∈ Gt := by decide +kernel
theorem nmX6_isOne : nmOk yX6_isOne 1 = true := by decide +kernel
set_option maxRecDepth 20000 in
theorem KX6_of_ok (w : WW) : KOk w MX6_of (KX6_of w) := KOk_mk flX6_ok ciX6_ok clX6_ok (fun _ _ h => by cases h) (fun _ _ h => by cases h) (List.forall_mem_cons.mpr ⟨itV (n := 54) (by decide) (COk_V (n := 2) (ci := 6) (ctX6_man w) wcX6_54 nmX6_man (by decide) (by decide) rfl (prX6_man w)), List.forall_mem_cons.mpr ⟨itV (n := 58) (by decide) (COk_V (n := 1) (ci := 6) (ctX6_leans w) wcX6_58 nmX6_leans (by decide) (by decide) rfl (prX6_leans w)), List.forall_mem_cons.mpr ⟨itV (n := 87) (by decide) (COk_V (n := 1) (ci := 6) (ctX6_finds w) wcX6_87 nmX6_finds (by decide) (by decide) rfl (prX6_finds w)), List.forall_mem_cons.mpr ⟨itV (n := 115) (by decide) (COk_V (n := 1) (ci := 6) (ctX6_isOne w) wcX6_115 nmX6_isOne (by decide) (by decide) rfl (prX6_isOne w)), List.forall_mem_cons.mpr ⟨itV (n := 118) (by decide) (COk_V (n := 1) (ci := 6) (ctX6_stays w) wcX6_118 nmX6_stays (by decide) (by decide) rfl (prX6_stays w)), List.forall_mem_cons.mpr ⟨itV (n := 121) (by decide) (COk_V (n := 1) (ci := 6) (ctX6_goes w) wcX6_121 nmX6_goes (by decide) (by decide) rfl (prX6_goes w)), List.forall_mem_cons.mpr ⟨itS (n := 50) (COk_S (n := 3) (ctX6_in w) wcX6_65586 nmX6_in (by decide)), List.forall_mem_nil _⟩⟩⟩⟩⟩⟩⟩)
theorem ctX6_of (w : WW) : CT w yX6_of MX6_of (csX6_of w).2.1 (csX6_of w).2.2 := by
  refine CT_of (by decide) rfl TX6_of_ok TX6_of_v (KX6_of_ok w) (fun as u h => ?_)
  obtain ⟨a0, a1, a2, rfl, h⟩ := sgRII h
  obtain ⟨rfl, hh⟩ := h
  refine ⟨Nat.le_of_ble_eq_true rfl, ?_⟩
  have key := vX6_of w a1 a2 u hh
  exact key
theorem prX6_of (w : WW) : ∀ as u, (csX6_of w).2.1 as u → ∃ a r, as = .ref a :: r ∧ r.length = 2 ∧ okO w a 6 := by
  intro as u h
  obtain ⟨a0, a1, a2, rfl, h⟩ := sgRII h
  exact ⟨_, _, rfl, rfl, okO_m h⟩
theorem vX6_set (w : WW) : VX6_set w := by
  intro c k v u h
  have h0 := h.1
  have e := B6_0 h0
  have ha : atOk u := Or.inl h0
  have e1 : u.1 (1100 + 1) = R6 u 1 := rfl
  have em : rX6_man c k u = on (R6 u) (NN c) (NN k) := by rw [rX6_man, RW6 h0]
  by_cases k3 : k = 3
  · have k1 : ¬ (3 : Int32) = 1 := by decide
    have b1 : (1 : Int32) ≤ 3 ∧ (3 : Int32) ≤ 3 := by decide
    subst k3
    simp only [eX6_set_0, eX6_set_1, eX6_set_2, eX6_set_5, eX6_set_8, eX6_set_9, eX6_set_10, eX6_set_11, eX6_set_14, eX6_set_17, eX6_set_18, eX6_set_19, eX6_set_20, eX6_set_23, eX6_set_24, eX6_set_27, eX6_set_28, eX6_set_29, eX6_set_30, eX6_set_33, eX6_set_34, eX6_set_37, eX6_set_38, eX6_set_39, eX6_set_40, eX6_set_41, eX6_set_44, eX6_set_46, eX6_set_49, eX6_set_52, eX6_set_53, eX6_set_55, eX6_set_58, eX6_set_59, eX6_set_60, eX6_set_61, eX6_set_64, eX6_set_65, eX6_set_66, eX6_set_69, eX6_set_72, eX6_set_73, eX6_set_75, eX6_set_78, eX6_set_79, eX6_set_80, eX6_set_81, eX6_set_82, eX6_set_85, eX6_set_87, eX6_set_88, eX6_set_89, eX6_set_90, eX6_set_91, eX6_set_94, eX6_set_96, kl_i, kl_r, kl_n, kl_l, true_and, and_true, true_implies, false_implies, not_true_eq_false, not_false_eq_true, i10, Classical.not_not, pOne, mX6_sets, mX6_setsChair, pX6_sets, pX6_setsChair, pX6_chair, pX6_man, pX6_its, RW_pv, pv_pv, B6_pv, atOk_pv, N_0, N_1, N_2, N_3, N_4, N_5, N_6, v7_0, v7_1, v7_2, v7_3, v7_4, v7_5, v7_6, v3_0, v3_1, v3_2, ch0, ch1, ch2, man0, man1, man2, man3, man4, man5, man6, its0, its1, its2, pX6_isOne, rX6_isOne, rX6_in, pX6_in, pX6_stands, rX6_stands, bi_0, pf0, pf1, pf2, pf3, pf4, pf5, pf6, mf0, mf1, mf2, mf3, mf4, mf5, mf6, rX6_finds, h0, RW6 h0, ha, rX6_set, mX6_set, ok_m0, rf_m0, ai_mr0, rd_mr0, v182_1, Option.some.injEq, Value.int.injEq, e, e1, k1, b1]
    refine ⟨fun c1 => lf0 ?_, fun c1 => ⟨fun c2 => ?_, fun c2 => lf0 ?_⟩⟩
    · rw [oSet, if_pos (fun z => c1 z.1)]
    · have hs : vp_in c 10 := vi_mono ((isOn_vi h.2).mp c1) h.2.K.1
      exact ⟨hs, hs, lfr (by rw [oSet, if_neg (fun z => z ⟨c1, b1, by rw [setOk, if_pos rfl, if_pos rfl]; exact c2⟩), if_neg (fun z => k1 z.1)]; rfl)⟩
    · rw [oSet, if_pos (fun z => c2 (by have := z.2.2; rw [setOk, if_pos rfl, if_pos rfl] at this; exact this))]
  · simp only [eX6_set_0, eX6_set_1, eX6_set_2, eX6_set_5, eX6_set_8, eX6_set_9, eX6_set_10, eX6_set_11, eX6_set_14, eX6_set_17, eX6_set_18, eX6_set_19, eX6_set_20, eX6_set_23, eX6_set_24, eX6_set_27, eX6_set_28, eX6_set_29, eX6_set_30, eX6_set_33, eX6_set_34, eX6_set_37, eX6_set_38, eX6_set_39, eX6_set_40, eX6_set_41, eX6_set_44, eX6_set_46, eX6_set_49, eX6_set_52, eX6_set_53, eX6_set_55, eX6_set_58, eX6_set_59, eX6_set_60, eX6_set_61, eX6_set_64, eX6_set_65, eX6_set_66, eX6_set_69, eX6_set_72, eX6_set_73, eX6_set_75, eX6_set_78, eX6_set_79, eX6_set_80, eX6_set_81, eX6_set_82, eX6_set_85, eX6_set_87, eX6_set_88, eX6_set_89, eX6_set_90, eX6_set_91, eX6_set_94, eX6_set_96, kl_i, kl_r, kl_n, kl_l, true_and, and_true, true_implies, false_implies, not_true_eq_false, not_false_eq_true, i10, Classical.not_not, pOne, mX6_sets, mX6_setsChair, pX6_sets, pX6_setsChair, pX6_chair, pX6_man, pX6_its, RW_pv, pv_pv, B6_pv, atOk_pv, N_0, N_1, N_2, N_3, N_4, N_5, N_6, v7_0, v7_1, v7_2, v7_3, v7_4, v7_5, v7_6, v3_0, v3_1, v3_2, ch0, ch1, ch2, man0, man1, man2, man3, man4, man5, man6, its0, its1, its2, pX6_isOne, rX6_isOne, rX6_in, pX6_in, pX6_stands, rX6_stands, bi_0, pf0, pf1, pf2, pf3, pf4, pf5, pf6, mf0, mf1, mf2, mf3, mf4, mf5, mf6, rX6_finds, h0, RW6 h0, ha, rX6_set, mX6_set, Option.some.injEq, Value.int.injEq, e, k3, em]
    refine ⟨fun c1 => lf0 ?_, fun c1 => ⟨fun c2 => lf0 ?_, fun c2 => ⟨fun c3 => ?_, fun c3 => lf0 ?_⟩⟩⟩
    · rw [oSet, if_pos (fun z => c1 z.1)]
    · rw [oSet, if_pos (fun z => c2 z.2.1)]
    · have hs : vp_in c 10 := vi_mono ((isOn_vi h.2).mp c1) h.2.K.1
      have hk7 : vp_in k 7 := by
        obtain ⟨j, hj, rfl⟩ := v0_le (m := 3) (Int32.le_trans (by decide) c2.1) c2.2 rfl
        exact vi_nI (by omega)
      have go : ¬ (isOn (R6 u) c ∧ (1 ≤ k ∧ k ≤ 3) ∧ setOk (R6 u) k v) → False := fun z => z ⟨c1, c2, by rw [setOk, if_neg k3, if_neg k3]; exact c3⟩
      refine ⟨fun c4 => ⟨⟨hs, hk7⟩, ⟨hs, hk7⟩, lfr ?_⟩, fun c4 => ⟨hs, fun c5 => ⟨⟨hs, hk7⟩, ⟨hs, hk7⟩, lfr ?_⟩, fun c5 => lf4 ?_⟩⟩
      · rw [oSet, if_neg (fun z => go z), if_neg (fun z => c4 z.1)]
      · rw [oSet, if_neg (fun z => go z), if_neg (fun z => z.2 c5)]
      · rw [oSet, if_neg (fun z => go z), if_pos ⟨c4, c5⟩]
    · rw [oSet, if_pos (fun z => c3 (by have := z.2.2; rw [setOk, if_neg k3, if_neg k3] at this; exact this))]
set_option maxRecDepth 20000 in
theorem KX6_set_ok (w : WW) : KOk w MX6_set (KX6_set w) := KOk_mk flX6_ok ciX6_ok clX6_ok (fun _ _ h => by cases h) (fun _ _ h => by cases h) (List.forall_mem_cons.mpr ⟨itV (n := 54) (by decide) (COk_V (n := 2) (ci := 6) (ctX6_man w) wcX6_54 nmX6_man (by decide) (by decide) rfl (prX6_man w)), List.forall_mem_cons.mpr ⟨itV (n := 64) (by decide) (COk_V (n := 1) (ci := 6) (ctX6_stands w) wcX6_64 nmX6_stands (by decide) (by decide) rfl (prX6_stands w)), List.forall_mem_cons.mpr ⟨itV (n := 87) (by decide) (COk_V (n := 1) (ci := 6) (ctX6_finds w) wcX6_87 nmX6_finds (by decide) (by decide) rfl (prX6_finds w)), List.forall_mem_cons.mpr ⟨itV (n := 105) (by decide) (COk_V (n := 3) (ci := 6) (ctX6_sets w) wcX6_105 nmX6_sets (by decide) (by decide) rfl (prX6_sets w)), List.forall_mem_cons.mpr ⟨itV (n := 115) (by decide) (COk_V (n := 1) (ci := 6) (ctX6_isOne w) wcX6_115 nmX6_isOne (by decide) (by decide) rfl (prX6_isOne w)), List.forall_mem_cons.mpr ⟨itS (n := 50) (COk_S (n := 3) (ctX6_in w) wcX6_65586 nmX6_in (by decide)), List.forall_mem_nil _⟩⟩⟩⟩⟩⟩)
theorem ctX6_set (w : WW) : CT w yX6_set MX6_set (csX6_set w).2.1 (csX6_set w).2.2 := by
  refine CT_of (by decide) rfl TX6_set_ok TX6_set_v (KX6_set_ok w) (fun as u h => ?_)
  obtain ⟨a0, a1, a2, a3, rfl, h⟩ := sgRIII h
  obtain ⟨rfl, hh⟩ := h
  refine ⟨Nat.le_of_ble_eq_true rfl, ?_⟩
  have key := vX6_set w a1 a2 a3 u hh
  exact key
theorem prX6_set (w : WW) : ∀ as u, (csX6_set w).2.1 as u → ∃ a r, as = .ref a :: r ∧ r.length = 3 ∧ okO w a 6 := by
  intro as u h
  obtain ⟨a0, a1, a2, a3, rfl, h⟩ := sgRIII h
  exact ⟨_, _, rfl, rfl, okO_m h⟩
theorem vX6_turn (w : WW) : VX6_turn w := by
  intro c k u h
  have h0 := h.1
  have e := B6_0 h0
  have ha : atOk u := Or.inl h0
  simp only [eX6_turn_0, eX6_turn_1, eX6_turn_2, eX6_turn_5, eX6_turn_8, eX6_turn_9, eX6_turn_12, eX6_turn_15, eX6_turn_16, eX6_turn_18, eX6_turn_21, eX6_turn_22, eX6_turn_23, eX6_turn_24, eX6_turn_25, eX6_turn_28, eX6_turn_29, eX6_turn_30, eX6_turn_31, eX6_turn_32, eX6_turn_33, eX6_turn_36, eX6_turn_37, kl_i, kl_r, kl_n, kl_l, true_and, and_true, true_implies, false_implies, not_true_eq_false, not_false_eq_true, i10, Classical.not_not, pOne, mX6_sets, mX6_setsChair, pX6_sets, pX6_setsChair, pX6_chair, pX6_man, pX6_its, RW_pv, pv_pv, B6_pv, atOk_pv, N_0, N_1, N_2, N_3, N_4, N_5, N_6, v7_0, v7_1, v7_2, v7_3, v7_4, v7_5, v7_6, v3_0, v3_1, v3_2, ch0, ch1, ch2, man0, man1, man2, man3, man4, man5, man6, its0, its1, its2, pX6_isOne, rX6_isOne, pX6_isKind, rX6_isKind, bi_0, pf0, pf1, pf2, pf3, pf4, pf5, pf6, mf0, mf1, mf2, mf3, mf4, mf5, mf6, rX6_finds, h0, RW6 h0, ha, rX6_turn, mX6_turn, Option.some.injEq, Value.int.injEq, e]
  refine ⟨fun c1 => lf0 ?_, fun c1 => ⟨fun c2 => ?_, fun c2 => lf0 ?_⟩⟩
  · rw [oTurn, if_pos (fun z => c1 z.1)]
  · have hs : vp_in c 10 := vi_mono ((isOn_vi h.2).mp c1) h.2.K.1
    exact ⟨hs, hs, lfr (by rw [oTurn, if_neg (fun z => z ⟨c1, c2⟩)])⟩
  · rw [oTurn, if_pos (fun z => c2 z.2)]
set_option maxRecDepth 20000 in
theorem KX6_turn_ok (w : WW) : KOk w MX6_turn (KX6_turn w) := KOk_mk flX6_ok ciX6_ok clX6_ok (fun _ _ h => by cases h) (fun _ _ h => by cases h) (List.forall_mem_cons.mpr ⟨itV (n := 54) (by decide) (COk_V (n := 2) (ci := 6) (ctX6_man w) wcX6_54 nmX6_man (by decide) (by decide) rfl (prX6_man w)), List.forall_mem_cons.mpr ⟨itV (n := 87) (by decide) (COk_V (n := 1) (ci := 6) (ctX6_finds w) wcX6_87 nmX6_finds (by decide) (by decide) rfl (prX6_finds w)), List.forall_mem_cons.mpr ⟨itV (n := 105) (by decide) (COk_V (n := 3) (ci := 6) (ctX6_sets w) wcX6_105 nmX6_sets (by decide) (by decide) rfl (prX6_sets w)), List.forall_mem_cons.mpr ⟨itV (n := 115) (by decide) (COk_V (n := 1) (ci := 6) (ctX6_isOne w) wcX6_115 nmX6_isOne (by decide) (by decide) rfl (prX6_isOne w)), List.forall_mem_cons.mpr ⟨itS (n := 108) (COk_S (n := 1) (ctX6_isKind w) wcX6_65644 nmX6_isKind (by decide)), List.forall_mem_nil _⟩⟩⟩⟩⟩)
theorem ctX6_turn (w : WW) : CT w yX6_turn MX6_turn (csX6_turn w).2.1 (csX6_turn w).2.2 := by
  refine CT_of (by decide) rfl TX6_turn_ok TX6_turn_v (KX6_turn_ok w) (fun as u h => ?_)
  obtain ⟨a0, a1, a2, rfl, h⟩ := sgRII h
  obtain ⟨rfl, hh⟩ := h
  refine ⟨Nat.le_of_ble_eq_true rfl, ?_⟩
  have key := vX6_turn w a1 a2 u hh
  exact key
theorem prX6_turn (w : WW) : ∀ as u, (csX6_turn w).2.1 as u → ∃ a r, as = .ref a :: r ∧ r.length = 2 ∧ okO w a 6 := by
  intro as u h
  obtain ⟨a0, a1, a2, rfl, h⟩ := sgRII h
  exact ⟨_, _, rfl, rfl, okO_m h⟩
theorem vX6_as (w : WW) : VX6_as w := by
  intro c k u h
  have h0 := h.1
  have e := B6_0 h0
  have ha : atOk u := Or.inl h0
  simp only [eX6_as_0, eX6_as_1, eX6_as_2, eX6_as_5, eX6_as_8, eX6_as_9, eX6_as_12, eX6_as_15, eX6_as_16, eX6_as_18, eX6_as_21, eX6_as_22, eX6_as_23, eX6_as_24, eX6_as_25, eX6_as_28, eX6_as_29, eX6_as_32, eX6_as_35, eX6_as_36, eX6_as_37, eX6_as_38, eX6_as_41, eX6_as_44, eX6_as_45, eX6_as_47, eX6_as_50, kl_i, kl_r, kl_n, kl_l, true_and, and_true, true_implies, false_implies, not_true_eq_false, not_false_eq_true, i10, Classical.not_not, pOne, mX6_sets, mX6_setsChair, pX6_sets, pX6_setsChair, pX6_chair, pX6_man, pX6_its, RW_pv, pv_pv, B6_pv, atOk_pv, N_0, N_1, N_2, N_3, N_4, N_5, N_6, v7_0, v7_1, v7_2, v7_3, v7_4, v7_5, v7_6, v3_0, v3_1, v3_2, ch0, ch1, ch2, man0, man1, man2, man3, man4, man5, man6, its0, its1, its2, pX6_isOne, rX6_isOne, pX6_isKind, rX6_isKind, bi_0, pf0, pf1, pf2, pf3, pf4, pf5, pf6, mf0, mf1, mf2, mf3, mf4, mf5, mf6, rX6_finds, h0, RW6 h0, ha, rX6_as, mX6_as, pX6_isUnder, rX6_isUnder, Option.some.injEq, Value.int.injEq, e]
  refine ⟨fun c1 => lf0 ?_, fun c1 => ⟨fun c2 => ?_, fun c2 => lf0 ?_⟩⟩
  · rw [oAs, if_pos (fun z => c1 z.1)]
  · have hs : vp_in c 10 := vi_mono ((isOn_vi h.2).mp c1) h.2.K.1
    refine ⟨hs, fun c3 => lf2 ?_, fun c3 => ⟨hs, lfq ?_⟩⟩
    · rw [oAs, if_neg (fun z => z ⟨c1, c2⟩), if_neg c3]
    · rw [oAs, if_neg (fun z => z ⟨c1, c2⟩), if_pos c3]
  · rw [oAs, if_pos (fun z => c2 z.2)]
theorem wcX6_65660 : ∀ x ∈ wS1 RX6 124 yX6_isUnder MX6_isUnder, x ∈ Gt := by decide +kernel
theorem nmX6_isUnder : nmOk yX6_isUnder 2 = true := by decide +kernel
set_option maxRecDepth 20000 in
theorem KX6_as_ok (w : WW) : KOk w MX6_as (KX6_as w) := KOk_mk flX6_ok ciX6_ok clX6_ok (fun _ _ h => by cases h) (fun _ _ h => by cases h) (List.forall_mem_cons.mpr ⟨itV (n := 54) (by decide) (COk_V (n := 2) (ci := 6) (ctX6_man w) wcX6_54 nmX6_man (by decide) (by decide) rfl (prX6_man w)), List.forall_mem_cons.mpr ⟨itV (n := 87) (by decide) (COk_V (n := 1) (ci := 6) (ctX6_finds w) wcX6_87 nmX6_finds (by decide) (by decide) rfl (prX6_finds w)), List.forall_mem_cons.mpr ⟨itV (n := 115) (by decide) (COk_V (n := 1) (ci := 6) (ctX6_isOne w) wcX6_115 nmX6_isOne (by decide) (by decide) rfl (prX6_isOne w)), List.forall_mem_cons.mpr ⟨itS (n := 108) (COk_S (n := 1) (ctX6_isKind w) wcX6_65644 nmX6_isKind (by decide)), List.forall_mem_cons.mpr ⟨itS (n := 124) (COk_S (n := 2) (ctX6_isUnder w) wcX6_65660 nmX6_isUnder (by decide)), List.forall_mem_nil _⟩⟩⟩⟩⟩)
theorem ctX6_as (w : WW) : CT w yX6_as MX6_as (csX6_as w).2.1 (csX6_as w).2.2 := by
  refine CT_of (by decide) rfl TX6_as_ok TX6_as_v (KX6_as_ok w) (fun as u h => ?_)
  obtain ⟨a0, a1, a2, rfl, h⟩ := sgRII h
  obtain ⟨rfl, hh⟩ := h
  refine ⟨Nat.le_of_ble_eq_true rfl, ?_⟩
  have key := vX6_as w a1 a2 u hh
  exact key
theorem prX6_as (w : WW) : ∀ as u, (csX6_as w).2.1 as u → ∃ a r, as = .ref a :: r ∧ r.length = 2 ∧ okO w a 6 := by
  intro as u h
  obtain ⟨a0, a1, a2, rfl, h⟩ := sgRII h
  exact ⟨_, _, rfl, rfl, okO_m h⟩
theorem vX6_far (w : WW) : VX6_far w := by
  intro c p u h
  have h0 := h.1
  have e := B6_0 h0
  have ha : atOk u := Or.inl h0
  simp only [eX6_far_0, eX6_far_1, eX6_far_2, eX6_far_5, eX6_far_8, eX6_far_9, eX6_far_12, eX6_far_15, eX6_far_16, eX6_far_17, eX6_far_18, eX6_far_21, eX6_far_24, eX6_far_25, eX6_far_27, eX6_far_30, kl_i, kl_r, kl_n, kl_l, true_and, and_true, true_implies, false_implies, not_true_eq_false, not_false_eq_true, i10, Classical.not_not, pOne, mX6_sets, mX6_setsChair, pX6_sets, pX6_setsChair, pX6_chair, pX6_man, pX6_its, RW_pv, pv_pv, B6_pv, atOk_pv, N_0, N_1, N_2, N_3, N_4, N_5, N_6, v7_0, v7_1, v7_2, v7_3, v7_4, v7_5, v7_6, v3_0, v3_1, v3_2, ch0, ch1, ch2, man0, man1, man2, man3, man4, man5, man6, its0, its1, its2, pX6_isOne, rX6_isOne, pX6_isSpot, rX6_isSpot, bi_0, pf0, pf1, pf2, pf3, pf4, pf5, pf6, mf0, mf1, mf2, mf3, mf4, mf5, mf6, rX6_finds, h0, RW6 h0, ha, rX6_far, mX6_far, pX6_farOf, rX6_farOf, Option.some.injEq, Value.int.injEq, e]
  refine ⟨fun c1 => lf0 ?_, fun c1 => ⟨fun c2 => lf0 ?_, fun c2 => ?_⟩⟩
  · rw [oFar, if_pos (fun z => c1 z.1)]
  · rw [oFar, if_pos (fun z => c2 z.2)]
  · have hs : vp_in c 10 := vi_mono ((isOn_vi h.2).mp c1) h.2.K.1
    exact ⟨hs, lfq (by rw [oFar, if_neg (fun z => z ⟨c1, c2⟩)])⟩
set_option maxRecDepth 20000 in
theorem KX6_far_ok (w : WW) : KOk w MX6_far (KX6_far w) := KOk_mk flX6_ok ciX6_ok clX6_ok (fun _ _ h => by cases h) (fun _ _ h => by cases h) (List.forall_mem_cons.mpr ⟨itV (n := 61) (by decide) (COk_V (n := 2) (ci := 6) (ctX6_farOf w) wcX6_61 nmX6_farOf (by decide) (by decide) rfl (prX6_farOf w)), List.forall_mem_cons.mpr ⟨itV (n := 87) (by decide) (COk_V (n := 1) (ci := 6) (ctX6_finds w) wcX6_87 nmX6_finds (by decide) (by decide) rfl (prX6_finds w)), List.forall_mem_cons.mpr ⟨itV (n := 115) (by decide) (COk_V (n := 1) (ci := 6) (ctX6_isOne w) wcX6_115 nmX6_isOne (by decide) (by decide) rfl (prX6_isOne w)), List.forall_mem_cons.mpr ⟨itS (n := 81) (COk_S (n := 1) (ctX6_isSpot w) wcX6_65617 nmX6_isSpot (by decide)), List.forall_mem_nil _⟩⟩⟩⟩)
theorem ctX6_far (w : WW) : CT w yX6_far MX6_far (csX6_far w).2.1 (csX6_far w).2.2 := by
  refine CT_of (by decide) rfl TX6_far_ok TX6_far_v (KX6_far_ok w) (fun as u h => ?_)
  obtain ⟨a0, a1, a2, rfl, h⟩ := sgRII h
  obtain ⟨rfl, hh⟩ := h
  refine ⟨Nat.le_of_ble_eq_true rfl, ?_⟩
  have key := vX6_far w a1 a2 u hh
  exact key
theorem prX6_far (w : WW) : ∀ as u, (csX6_far w).2.1 as u → ∃ a r, as = .ref a :: r ∧ r.length = 2 ∧ okO w a 6 := by
  intro as u h
  obtain ⟨a0, a1, a2, rfl, h⟩ := sgRII h
  exact ⟨_, _, rfl, rfl, okO_m h⟩
theorem vX6_cough (w : WW) : VX6_cough w := by
  intro s u h
  have h0 := h.1
  have e := B6_0 h0
  have ha : atOk u := Or.inl h0
  have hk : crtOk (R6 u) := h.2.crt
  have ev : ∀ R : Nat → Int32, vw (pv u 1100 R) 1100 = R := fun R => vw_pv u 1100 R
  have eR : ∀ R : Nat → Int32, RW (pv u 1100 R) = R := fun R => by have := RW_pv u R; rw [e] at this; exact this
  have aO : ∀ R : Nat → Int32, atOk (pv u 1100 R) := fun R => by have := (atOk_pv u R).mpr ha; rw [e] at this; exact this
  simp only [eX6_cough_0, eX6_cough_1, eX6_cough_2, eX6_cough_5, eX6_cough_8, eX6_cough_9, eX6_cough_11, eX6_cough_14, eX6_cough_15, eX6_cough_16, eX6_cough_17, eX6_cough_18, eX6_cough_21, eX6_cough_24, eX6_cough_25, eX6_cough_27, eX6_cough_30, eX6_cough_31, eX6_cough_32, eX6_cough_33, eX6_cough_36, eX6_cough_37, eX6_cough_38, eX6_cough_39, eX6_cough_42, kl_i, kl_r, kl_n, kl_l, true_and, and_true, true_implies, false_implies, not_true_eq_false, not_false_eq_true, i10, Classical.not_not, pOne, mX6_sets, mX6_setsChair, pX6_sets, pX6_setsChair, pX6_chair, pX6_man, pX6_its, RW_pv, pv_pv, B6_pv, atOk_pv, N_0, N_1, N_2, N_3, N_4, N_5, N_6, v7_0, v7_1, v7_2, v7_3, v7_4, v7_5, v7_6, v3_0, v3_1, v3_2, ch0, ch1, ch2, man0, man1, man2, man3, man4, man5, man6, its0, its1, its2, pX6_isSeat, rX6_isSeat, bi_0, pf0, pf1, pf2, pf3, pf4, pf5, pf6, mf0, mf1, mf2, mf3, mf4, mf5, mf6, rX6_finds, h0, RW6 h0, ha, rX6_cough, mX6_cough, pX6_rises, mX6_rises, hk, Option.some.injEq, Value.int.injEq, e, eR, aO]
  refine ⟨fun c1 => ?_, fun c1 => lf0 ?_⟩
  · have hv := (isSt_vi h.2).mp c1
    have hs : vp_in s 6 := vi_mono hv h.2.M.1
    refine ⟨hs, fun c2 => ⟨⟨hs, ?_⟩, hs, lfr ?_⟩, fun c2 => lf4 ?_⟩
    · exact vi_mono ((h.2.2.2.1 _ (vi_lt hv)).resolve_left (Int32.not_lt.mpr c2)) h.2.K.1
    · rw [oCough, if_neg (fun z => z c1), if_neg (Int32.not_lt.mpr c2)]
    · rw [oCough, if_neg (fun z => z c1), if_pos (Int32.not_le.mp c2)]
  · rw [oCough, if_pos c1]
set_option maxRecDepth 20000 in
theorem KX6_cough_ok (w : WW) : KOk w MX6_cough (KX6_cough w) := KOk_mk flX6_ok ciX6_ok clX6_ok (fun _ _ h => by cases h) (fun _ _ h => by cases h) (List.forall_mem_cons.mpr ⟨itV (n := 71) (by decide) (COk_V (n := 2) (ci := 6) (ctX6_chair w) wcX6_71 nmX6_chair (by decide) (by decide) rfl (prX6_chair w)), List.forall_mem_cons.mpr ⟨itV (n := 87) (by decide) (COk_V (n := 1) (ci := 6) (ctX6_finds w) wcX6_87 nmX6_finds (by decide) (by decide) rfl (prX6_finds w)), List.forall_mem_cons.mpr ⟨itV (n := 99) (by decide) (COk_V (n := 1) (ci := 6) (ctX6_isSeat w) wcX6_99 nmX6_isSeat (by decide) (by decide) rfl (prX6_isSeat w)), List.forall_mem_cons.mpr ⟨itV (n := 142) (by decide) (COk_V (n := 1) (ci := 6) (ctX6_rises w) wcX6_142 nmX6_rises (by decide) (by decide) rfl (prX6_rises w)), List.forall_mem_nil _⟩⟩⟩⟩)
theorem ctX6_cough (w : WW) : CT w yX6_cough MX6_cough (csX6_cough w).2.1 (csX6_cough w).2.2 := by
  refine CT_of (by decide) rfl TX6_cough_ok TX6_cough_v (KX6_cough_ok w) (fun as u h => ?_)
  obtain ⟨a0, a1, rfl, h⟩ := sgRI h
  obtain ⟨rfl, hh⟩ := h
  refine ⟨Nat.le_of_ble_eq_true rfl, ?_⟩
  have key := vX6_cough w a1 u hh
  exact key
theorem prX6_cough (w : WW) : ∀ as u, (csX6_cough w).2.1 as u → ∃ a r, as = .ref a :: r ∧ r.length = 1 ∧ okO w a 6 := by
  intro as u h
  obtain ⟨a0, a1, rfl, h⟩ := sgRI h
  exact ⟨_, _, rfl, rfl, okO_m h⟩
