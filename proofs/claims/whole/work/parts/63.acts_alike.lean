/-! ===== the acts answer alike on halls that are alike ===== -/
def OE (R S : Nat → Int32) (o o' : OP) : Prop := match o, o' with
  | .inl k, .inl j => k = j ∧ k < 7
  | .inr (a, X), .inr (b, Y) => a = b ∧ Lv X Y ∧ HC X ∧ (∀ i, 91 ≤ i → X i = R i) ∧ (∀ i, 91 ≤ i → Y i = S i)
  | _, _ => False
theorem oe_l {R S : Nat → Int32} {k : Nat} (hk : k < 7) : OE R S (.inl k) (.inl k) := ⟨rfl, hk⟩
theorem oe_r {R S X Y : Nat → Int32} {a b : Int32} (h : a = b) (l : Lv X Y) (hc : HC X) (h1 : ∀ i, 91 ≤ i → X i = R i) (h2 : ∀ i, 91 ≤ i → Y i = S i) : OE R S (.inr (a, X)) (.inr (b, Y)) := ⟨h, l, hc, h1, h2⟩
theorem oe_s {R S : Nat → Int32} {a b : Int32} (hc : HC R) (l : Lv R S) (h : a = b) : OE R S (.inr (a, R)) (.inr (b, S)) := ⟨h, l, hc, fun _ _ => rfl, fun _ _ => rfl⟩
theorem oe_if {R S : Nat → Int32} {p q : Prop} [Decidable p] [Decidable q] {a b a' b' : OP} (h : p ↔ q) (h1 : p → OE R S a a') (h2 : ¬ p → OE R S b b') : OE R S (if p then a else b) (if q then a' else b') := by
  by_cases c : p
  · rw [if_pos c, if_pos (h.mp c)]; exact h1 c
  · rw [if_neg c, if_neg (fun z => c (h.mpr z))]; exact h2 c
theorem nif {p q : Prop} (h : p ↔ q) : ¬ p ↔ ¬ q := ⟨fun z y => z (h.mpr y), fun z y => z (h.mp y)⟩
theorem anf {p q r s : Prop} (h : p ↔ q) (g : r ↔ s) : p ∧ r ↔ q ∧ s := ⟨fun z => ⟨h.mp z.1, g.mp z.2⟩, fun z => ⟨h.mpr z.1, g.mpr z.2⟩⟩
theorem st_lv {R S : Nat → Int32} (l : Lv R S) (s : Int32) : isSt R s ↔ isSt S s := by rw [isSt, isSt, l.2.1]
theorem on_lv {R S : Nat → Int32} (l : Lv R S) (s : Int32) : isOn R s ↔ isOn S s := by rw [isOn, isOn, l.2.2.1]
theorem lat_lv {R S : Nat → Int32} (l : Lv R S) (n : Int32) : late R n ↔ late S n := by rw [late, late, l.1]
theorem wtg_lv {R S : Nat → Int32} (l : Lv R S) {c : Nat} (h : c < NN (R 2)) : wtg R c ↔ wtg S c := by rw [wtg, wtg, l.2.2.2.2 c h 5 (by decide), l.2.2.2.2 c h 0 (by decide)]
theorem oeW {R S : Nat → Int32} (hc : HC R) (l : Lv R S) {v : Int32} (h : ∃ x, x ≤ 99 ∧ v = nI x) {s : Int32} (hs : isSt R s) : OE R S (.inr (se R (NN s) 1, sst R (NN s) 1 v)) (.inr (se S (NN s) 1, sst S (NN s) 1 v)) := by
  have hs := vi_lt ((isSt_vi hc.1.1).mp hs)
  have h6 : NN s < 6 := by have := hc.1.1.M.1; omega
  obtain ⟨h1, t, ht, hC⟩ := hc
  exact oe_r (l.2.2.2.1 _ hs 1 (by decide)) (sst_lv l h6 (by decide) v) ⟨sst_HxW h1 h6, t, ht, sst_Cv hC h6 h⟩ (fun i hi => sst_hi h6 (by decide) hi) (fun i hi => sst_hi h6 (by decide) hi)
theorem ost_oe {R S : Nat → Int32} (hc : HC R) (l : Lv R S) {c k : Nat} {v : Int32} (hN : c < NN (R 2)) (hk : k < 4) (h0 : k = 0 → kO v) (h1 : k = 1 → on R c 5 = -1) (h3 : k = 3 → v = -1 ∨ vp_in v (NN (R 1))) : OE R S (.inr (on R c k, ost R c k v)) (.inr (on S c k, ost S c k v)) := by
  have h10 : c < 10 := by have := hc.1.1.K.1; omega
  obtain ⟨hH, t, ht, hC⟩ := hc
  exact oe_r (l.2.2.2.2 _ hN k (by omega)) (ost_lv l hH.1.M.1 (by omega) v) ⟨ost_Hx hH hk h0 h1 h3, t, ht, ost_Cv hC hH.1.M.1 (by omega) (by omega)⟩ (fun i hi => ost_hi h10 (by omega) hi) (fun i hi => ost_hi h10 (by omega) hi)
theorem to99 {v : Int32} (h : in99 v) : ∃ x, x ≤ 99 ∧ v = nI x := v0_le h.1 h.2 rfl
theorem seatAdd_lv {R S : Nat → Int32} (l : Lv R S) (hO : Ok R) (hM : NN (R 1) < 6) (p t : Int32) : Lv (seatAdd R p t) (seatAdd S p t) := by
  have eM := hO.M.2
  have e1 : seatAdd R p t 1 = nI (NN (R 1) + 1) := by
    show R 1 + 1 = _; rw [← nI_1, ← eM]
  have hd : ∀ (X : Nat → Int32) (i : Nat), i < 3 → i ≠ 1 → seatAdd X p t i = X i := fun X i hi h1 => by
    unfold seatAdd; simp only [upd]; rw [if_neg h1, hd_sst hi, hd_sst hi, hd_sst hi]
  refine ⟨by rw [hd _ 0 (by decide) (by decide), hd _ 0 (by decide) (by decide)]; exact l.1, ?_, by rw [hd _ 2 (by decide) (by decide), hd _ 2 (by decide) (by decide)]; exact l.2.2.1, fun s hs k hk => ?_, fun c hc k hk => ?_⟩
  · show R 1 + 1 = S 1 + 1; rw [l.2.1]
  · rw [e1, NN_nI (by omega)] at hs
    unfold seatAdd
    rw [← l.2.1, se_u0 (by decide), se_u0 (by decide), se_sst (by decide) hk, se_sst (by decide) hk, se_sst (by decide) hk, se_sst (by decide) hk, se_sst (by decide) hk, se_sst (by decide) hk]
    by_cases z : s = NN (R 1)
    · have : k = 0 ∨ k = 1 ∨ k = 2 := by omega
      rcases this with rfl | rfl | rfl <;> simp [z]
    · rw [if_neg (fun y => z y.1), if_neg (fun y => z y.1), if_neg (fun y => z y.1), if_neg (fun y => z y.1), if_neg (fun y => z y.1), if_neg (fun y => z y.1)]
      exact l.2.2.2.1 s (by omega) k hk
  · rw [hd _ 2 (by decide) (by decide)] at hc
    unfold seatAdd
    rw [← l.2.1, on_u0 (by decide), on_u0 (by decide), on_sst hM (by decide), on_sst hM (by decide), on_sst hM (by decide), on_sst hM (by decide), on_sst hM (by decide), on_sst hM (by decide)]
    exact l.2.2.2.2 c hc k hk
theorem oneAdd_lv {R S : Nat → Int32} (l : Lv R S) (hO : Ok R) (hK : NN (R 2) < 10) (k p t wi : Int32) : Lv (oneAdd R k p t wi) (oneAdd S k p t wi) := by
  have eK := hO.K.2
  have hM := hO.M.1
  have e2 : oneAdd R k p t wi 2 = nI (NN (R 2) + 1) := by
    show R 2 + 1 = _; rw [← nI_1, ← eK]
  have hd : ∀ (X : Nat → Int32) (i : Nat), i < 2 → oneAdd X k p t wi i = X i := fun X i hi => by
    unfold oneAdd; simp only [upd]; rw [if_neg (by omega), hd_ost (by omega), hd_ost (by omega), hd_ost (by omega), hd_ost (by omega), hd_ost (by omega), hd_ost (by omega), hd_ost (by omega)]
  refine ⟨by rw [hd _ 0 (by decide), hd _ 0 (by decide)]; exact l.1, by rw [hd _ 1 (by decide), hd _ 1 (by decide)]; exact l.2.1, ?_, fun s hs j hj => ?_, fun c hc j hj => ?_⟩
  · show R 2 + 1 = S 2 + 1; rw [l.2.2.1]
  · rw [hd _ 1 (by decide)] at hs
    have h6 : s < 6 := by omega
    unfold oneAdd
    rw [← l.2.2.1, se_u0 (by decide), se_u0 (by decide)]
    simp only [se_ost h6 hj]
    exact l.2.2.2.1 s hs j hj
  · rw [e2, NN_nI (by omega)] at hc
    unfold oneAdd
    rw [← l.2.2.1, on_u0 (by decide), on_u0 (by decide)]
    simp only [on_ost (show 0 < 7 by decide) hj, on_ost (show 1 < 7 by decide) hj, on_ost (show 2 < 7 by decide) hj, on_ost (show 3 < 7 by decide) hj, on_ost (show 4 < 7 by decide) hj, on_ost (show 5 < 7 by decide) hj, on_ost (show 6 < 7 by decide) hj]
    by_cases z : c = NN (R 2)
    · have : j = 0 ∨ j = 1 ∨ j = 2 ∨ j = 3 ∨ j = 4 ∨ j = 5 ∨ j = 6 := by omega
      rcases this with rfl | rfl | rfl | rfl | rfl | rfl | rfl <;> simp [z]
    · simp only [z, false_and, if_false]
      exact l.2.2.2.2 c (by omega) j hj
theorem seat_oe {R S : Nat → Int32} (hc : HC R) (l : Lv R S) (p t : Int32) : OE R S (oSeat R p t) (oSeat S p t) := by
  unfold oSeat
  refine oe_if Iff.rfl (fun _ => oe_l (by decide)) (fun c1 => oe_if (by rw [← l.2.1, hs_lv l p _ (Nat.le_refl _)]) (fun _ => oe_l (by decide)) (fun c2 => oe_if (by rw [l.2.1]) (fun _ => oe_l (by decide)) (fun c3 => ?_)))
  have c1 := Classical.not_not.mp c1
  have h6 : ¬ 6 ≤ R 1 := fun z => c3 (by
    obtain ⟨M, hM, e⟩ := hc.1.1.1
    rw [e] at z ⊢
    have := (nI_leI (a := 6) (b := M) (by decide) (by omega)).mp z
    rw [show M = 6 by omega]; rfl)
  have hM := vi_lt (vp6_of hc.1.1 h6)
  have hO := hc.1.1
  obtain ⟨hH, tt, ht, hC⟩ := hc
  exact oe_r l.2.1 (seatAdd_lv l hO hM p t) ⟨seatAdd_Hv hH hM, tt, ht, seatAdd_Cv hC hO hM (to99 c1.2)⟩ (fun i hi => seatAdd_hi hO (Int32.not_le.mp h6) _ _ hi) (fun i hi => seatAdd_hi (l.Ok hO) (by rw [← l.2.1]; exact Int32.not_le.mp h6) _ _ hi)
theorem seatOf_oe {R S : Nat → Int32} (hc : HC R) (l : Lv R S) (s k : Int32) : OE R S (oSeatOf R s k) (oSeatOf S s k) := by
  unfold oSeatOf
  refine oe_if (nif (anf (st_lv l s) Iff.rfl)) (fun _ => oe_l (by decide)) (fun c1 => oe_s hc l ?_)
  have c1 := Classical.not_not.mp c1
  have hs := vi_lt ((isSt_vi hc.1.1).mp c1.1)
  rw [← l.2.2.2.1 _ hs 0 (by decide), ← l.2.2.1, nx_lv l _ _ (by have := hc.1.1.K.1; omega) _ (Nat.le_refl _)]
  by_cases z : k = 3
  · rw [if_pos z, if_pos z]
  · rw [if_neg z, if_neg z]
    obtain ⟨j, hj, rfl⟩ := v0_le (m := 3) c1.2.1 c1.2.2 rfl
    have : j ≠ 3 := fun y => z (by rw [y]; rfl)
    exact l.2.2.2.1 _ hs _ (by rw [NN_nI (by omega)]; omega)
theorem worth_oe {R S : Nat → Int32} (hc : HC R) (l : Lv R S) (s v : Int32) : OE R S (oWorth R s v) (oWorth S s v) := by
  unfold oWorth
  refine oe_if (nif (anf (st_lv l s) Iff.rfl)) (fun _ => oe_l (by decide)) (fun c1 => ?_)
  have c1 := Classical.not_not.mp c1
  exact oeW hc l (to99 c1.2) c1.1
theorem comes_oe {R S : Nat → Int32} (hc : HC R) (l : Lv R S) (k p t : Int32) : OE R S (oComes R k p t) (oComes S k p t) := by
  unfold oComes
  refine oe_if Iff.rfl (fun _ => oe_l (by decide)) (fun c1 => oe_if (by rw [l.2.2.1]) (fun _ => oe_l (by decide)) (fun c3 => ?_))
  have c1 := Classical.not_not.mp c1
  have h10 : ¬ 10 ≤ R 2 := fun z => c3 (by
    obtain ⟨M, hM, e⟩ := hc.1.1.2.1
    rw [e] at z ⊢
    have := (nI_leI (a := 10) (b := M) (by decide) (by omega)).mp z
    rw [show M = 10 by omega]; rfl)
  have hK := vi_lt (vp10_of hc.1.1 h10)
  have hO := hc.1.1
  obtain ⟨hH, tt, ht, hC⟩ := hc
  exact oe_r l.2.2.1 (oneAdd_lv l hO hK k p t (-1)) ⟨oneAdd_Hv hH hK c1.1 (Or.inl rfl), tt, ht, oneAdd_Cv hC hO hK⟩ (fun i hi => oneAdd_hi hO (Int32.not_le.mp h10) _ _ _ _ hi) (fun i hi => oneAdd_hi (l.Ok hO) (by rw [← l.2.2.1]; exact Int32.not_le.mp h10) _ _ _ _ hi)
theorem of_oe {R S : Nat → Int32} (hc : HC R) (l : Lv R S) (c k : Int32) : OE R S (oOf R c k) (oOf S c k) := by
  unfold oOf
  refine oe_if (nif (anf (on_lv l c) Iff.rfl)) (fun _ => oe_l (by decide)) (fun c1 => oe_s hc l ?_)
  have c1 := Classical.not_not.mp c1
  have hs := vi_lt ((isOn_vi hc.1.1).mp c1.1)
  unfold ofK
  rw [← l.2.2.2.2 _ hs 0 (by decide), ← l.2.2.2.2 _ hs 2 (by decide), ← l.1]
  by_cases z : k = 7
  · rw [if_pos z, if_pos z]
  · rw [if_neg z, if_neg z]
    by_cases z8 : k = 8
    · rw [if_pos z8, if_pos z8]
    · rw [if_neg z8, if_neg z8]
      by_cases z9 : k = 9
      · rw [if_pos z9, if_pos z9]
      · rw [if_neg z9, if_neg z9]
        obtain ⟨j, hj, rfl⟩ := v0_le (m := 9) c1.2.1 c1.2.2 rfl
        have h7 : j ≠ 7 := fun y => z (by rw [y]; rfl)
        have h8 : j ≠ 8 := fun y => z8 (by rw [y]; rfl)
        have h9 : j ≠ 9 := fun y => z9 (by rw [y]; rfl)
        exact l.2.2.2.2 _ hs _ (by rw [NN_nI (by omega)]; omega)
theorem set_oe {R S : Nat → Int32} (hc : HC R) (l : Lv R S) (c k v : Int32) : OE R S (oSet R c k v) (oSet S c k v) := by
  unfold oSet
  refine oe_if (nif (anf (on_lv l c) (anf Iff.rfl (by rw [setOk, setOk, l.2.1])))) (fun _ => oe_l (by decide)) (fun c1 => ?_)
  have c1 := Classical.not_not.mp c1
  have hs := vi_lt ((isOn_vi hc.1.1).mp c1.1)
  have hO := hc.1.1
  refine oe_if (by rw [l.2.2.2.2 _ hs 5 (by decide)]) (fun _ => oe_l (by decide)) (fun c2 => ?_)
  obtain ⟨j, hj, ej⟩ := v0_le (k := k) (n := 3) (m := 3) (Int32.le_trans (by decide) c1.2.1.1) c1.2.1.2 rfl
  have hN : NN k = j := by rw [ej, NN_nI (by omega)]
  rw [hN]
  refine ost_oe hc l hs (by omega) (fun z => ?_) (fun z => ?_) (fun z => ?_)
  · rw [ej, z] at c1; exact absurd c1.2.1.1 (by decide)
  · rw [z] at ej
    exact (hc.1.c hs).sit.mp (Classical.not_not.mp (fun y => c2 ⟨ej, y⟩))
  · rw [z] at ej
    have e3 : k = 3 := ej
    rw [e3] at c1
    rcases (so3 hO).mp c1.2.2 with y | y
    · exact Or.inl y
    · exact Or.inr ((isSt_vi hO).mp y)
theorem turn_oe {R S : Nat → Int32} (hc : HC R) (l : Lv R S) (c k : Int32) : OE R S (oTurn R c k) (oTurn S c k) := by
  unfold oTurn
  refine oe_if (nif (anf (on_lv l c) Iff.rfl)) (fun _ => oe_l (by decide)) (fun c1 => ?_)
  have c1 := Classical.not_not.mp c1
  have hs := vi_lt ((isOn_vi hc.1.1).mp c1.1)
  exact ost_oe hc l hs (by decide) (fun _ => c1.2) (fun z => absurd z (by decide)) (fun z => absurd z (by decide))
theorem as_oe {R S : Nat → Int32} (hc : HC R) (l : Lv R S) (c k : Int32) : OE R S (oAs R c k) (oAs S c k) := by
  unfold oAs
  refine oe_if (nif (anf (on_lv l c) Iff.rfl)) (fun _ => oe_l (by decide)) (fun c1 => ?_)
  have c1 := Classical.not_not.mp c1
  have hs := vi_lt ((isOn_vi hc.1.1).mp c1.1)
  exact oe_if (by rw [l.2.2.2.2 _ hs 0 (by decide)]) (fun _ => oe_s hc l (l.2.2.2.2 _ hs 4 (by decide))) (fun _ => oe_l (by decide))
theorem far_oe {R S : Nat → Int32} (hc : HC R) (l : Lv R S) (c p : Int32) : OE R S (oFar R c p) (oFar S c p) := by
  unfold oFar
  refine oe_if (nif (anf (on_lv l c) Iff.rfl)) (fun _ => oe_l (by decide)) (fun c1 => ?_)
  have c1 := Classical.not_not.mp c1
  exact oe_s hc l (farP_lv l (vi_lt ((isOn_vi hc.1.1).mp c1.1)) p)
theorem onSet_lv {R S : Nat → Int32} (l : Lv R S) (p : Int32) : ∀ n, n ≤ NN (R 2) → onSet R p n = onSet S p n
  | 0, _ => rfl
  | n + 1, hn => by simp only [onSet]; rw [onSet_lv l p n (by omega), l.2.2.2.2 n (by omega) 5 (by decide), l.2.2.2.2 n (by omega) 1 (by decide)]
theorem on_oe {R S : Nat → Int32} (hc : HC R) (l : Lv R S) (p : Int32) : OE R S (oOn R p) (oOn S p) := by
  unfold oOn
  exact oe_if Iff.rfl (fun _ => oe_l (by decide)) (fun _ => oe_s hc l (by rw [← l.2.2.1]; exact onSet_lv l p _ (Nat.le_refl _)))
theorem cough_oe {R S : Nat → Int32} (hc : HC R) (l : Lv R S) (s : Int32) : OE R S (oCough R s) (oCough S s) := by
  unfold oCough
  refine oe_if (nif (st_lv l s)) (fun _ => oe_l (by decide)) (fun c1 => ?_)
  have c1 := Classical.not_not.mp c1
  have hv := (isSt_vi hc.1.1).mp c1
  have hs := vi_lt hv
  refine oe_if (by rw [l.2.2.2.1 _ hs 2 (by decide)]) (fun _ => oe_l (by decide)) (fun c2 => ?_)
  have hO := hc.1.1
  have hM := hO.M.1
  have hK := hO.K.1
  obtain ⟨j, hj, ej⟩ : ∃ j, j < NN (R 1) ∧ s = nI j := ⟨NN s, hs, vi_eq hv (by omega)⟩
  have hN : NN s = j := by rw [ej, NN_nI (by omega)]
  rw [hN] at c2 ⊢
  have L := risesP_lv l hM (by omega) hs
  obtain ⟨hH, t, ht, hC⟩ := hc
  rw [ej] at L ⊢
  exact oe_r (L.2.2.2.1 j (by rw [risesP_hd (by decide)]; exact hj) 2 (by decide)) L ⟨risesP_Hv hH hj c2, t, ht, rises_Cv hC hM (by rw [NN_nI (by omega)]; omega)⟩ (fun i hi => risesP_hi2 hO hj c2 hi) (fun i hi => risesP_hi2 (l.Ok hO) (by rw [← l.2.1]; exact hj) (by rw [← l.2.2.2.1 j hj 2 (by decide)]; exact c2) hi)
theorem chg_lv {R S R' S' : Nat → Int32} (l : Lv R S) (l' : Lv R' S') (e : R' 1 = R 1) : ∀ n, n ≤ NN (R 1) → chg R R' n = chg S S' n
  | 0, _ => rfl
  | n + 1, hn => by simp only [chg]; rw [chg_lv l l' e n (by omega), l.2.2.2.1 n (by omega) 2 (by decide), l'.2.2.2.1 n (by rw [e]; omega) 2 (by decide)]
theorem go_HC {R : Nat → Int32} (hc : HC R) {n : Int32} (h0 : 0 ≤ n) (h2 : n ≤ 200) (hl : ¬ late R n) : HC (goP (NN n) R) := by
  obtain ⟨hH, t, ht, hC⟩ := hc
  obtain ⟨j, hj, rfl⟩ := v0_le (m := 200) h0 h2 rfl
  rw [NN_nI (by omega)]
  refine ⟨goP_Hv hH j, t + j, ?_, go_Cv hC hH.1 j⟩
  rw [late, hC.1, nI_add] at hl
  have := (nI_leI (a := t + j) (b := 9999) (by omega) (by decide)).mp (Int32.not_lt.mp hl)
  exact this
theorem seconds_oe {R S : Nat → Int32} (hc : HC R) (l : Lv R S) (n : Int32) : OE R S (oSeconds R n) (oSeconds S n) := by
  unfold oSeconds
  refine oe_if Iff.rfl (fun _ => oe_l (by decide)) (fun c1 => oe_if (lat_lv l n) (fun _ => oe_l (by decide)) (fun c2 => ?_))
  have c1 := Classical.not_not.mp c1
  have L := goP_lv l hc.1.1 (NN n)
  exact oe_r (by rw [← l.2.1]; exact chg_lv l L (goP_12 _).1 _ (Nat.le_refl _)) L (go_HC hc (Int32.le_trans (by decide) c1.1) c1.2 c2) (fun i hi => goP_hi hc.1.1 hi _) (fun i hi => goP_hi (l.Ok hc.1.1) hi _)
theorem sitN_lv {R S : Nat → Int32} (l : Lv R S) : ∀ n, n ≤ NN (R 2) → sitN R n = sitN S n
  | 0, _ => rfl
  | n + 1, hn => by simp only [sitN]; rw [sitN_lv l n (by omega), l.2.2.2.2 n (by omega) 5 (by decide)]
theorem emptyN_lv {R S : Nat → Int32} (l : Lv R S) : ∀ n, n ≤ NN (R 1) → emptyN R n = emptyN S n
  | 0, _ => rfl
  | n + 1, hn => by simp only [emptyN]; rw [emptyN_lv l n (by omega), l.2.2.2.1 n (by omega) 2 (by decide)]
theorem coinN_lv {R S : Nat → Int32} (l : Lv R S) : ∀ n, n ≤ NN (R 2) → coinN R n = coinN S n
  | 0, _ => rfl
  | n + 1, hn => by simp only [coinN]; rw [coinN_lv l n (by omega), l.2.2.2.2 n (by omega) 4 (by decide)]
theorem now_oe {R S : Nat → Int32} (hc : HC R) (l : Lv R S) (k : Int32) : OE R S (oNow R k) (oNow S k) := by
  unfold oNow
  exact oe_if Iff.rfl (fun _ => oe_s hc l l.1) (fun _ => oe_if Iff.rfl (fun _ => oe_s hc l (by rw [← l.2.2.1]; exact sitN_lv l _ (Nat.le_refl _))) (fun _ => oe_if Iff.rfl (fun _ => oe_s hc l (by rw [← l.2.1]; exact emptyN_lv l _ (Nat.le_refl _))) (fun _ => oe_if Iff.rfl (fun _ => oe_s hc l (by rw [← l.2.2.1]; exact coinN_lv l _ (Nat.le_refl _))) (fun _ => oe_l (by decide)))))
theorem holder_oe {R S : Nat → Int32} (hc : HC R) (l : Lv R S) (s n : Int32) : OE R S (oHolder R s n) (oHolder S s n) := by
  unfold oHolder
  refine oe_if (nif (anf (st_lv l s) Iff.rfl)) (fun _ => oe_l (by decide)) (fun c1 => oe_if (lat_lv l n) (fun _ => oe_l (by decide)) (fun c2 => oe_s hc l ?_))
  exact goSe l hc.1.1 _ (vi_lt ((isSt_vi hc.1.1).mp (Classical.not_not.mp c1).1))
theorem where_oe {R S : Nat → Int32} (hc : HC R) (l : Lv R S) (s n : Int32) : OE R S (oWhere R s n) (oWhere S s n) := by
  unfold oWhere
  refine oe_if (nif (anf (on_lv l s) Iff.rfl)) (fun _ => oe_l (by decide)) (fun c1 => oe_if (lat_lv l n) (fun _ => oe_l (by decide)) (fun c2 => oe_s hc l ?_))
  exact goOn l hc.1.1 _ (vi_lt ((isOn_vi hc.1.1).mp (Classical.not_not.mp c1).1)) (by decide)
theorem coins_oe {R S : Nat → Int32} (hc : HC R) (l : Lv R S) (s n : Int32) : OE R S (oCoins R s n) (oCoins S s n) := by
  unfold oCoins
  refine oe_if (nif (anf (on_lv l s) Iff.rfl)) (fun _ => oe_l (by decide)) (fun c1 => oe_if (lat_lv l n) (fun _ => oe_l (by decide)) (fun c2 => oe_s hc l ?_))
  exact goOn l hc.1.1 _ (vi_lt ((isOn_vi hc.1.1).mp (Classical.not_not.mp c1).1)) (by decide)
theorem gets_oe {R S : Nat → Int32} (hc : HC R) (l : Lv R S) (c s : Int32) : OE R S (oGets R c s) (oGets S c s) := by
  unfold oGets
  refine oe_if (nif (anf (on_lv l c) (st_lv l s))) (fun _ => oe_l (by decide)) (fun c1 => oe_if (lat_lv l 200) (fun _ => oe_l (by decide)) (fun c2 => ?_))
  have hs := vi_lt ((isSt_vi hc.1.1).mp (Classical.not_not.mp c1).2)
  rw [getN_lv l hc.1.1 hs c]
  exact oe_if Iff.rfl (fun _ => oe_l (by decide)) (fun _ => oe_s hc l rfl)
theorem rich_oe {R S : Nat → Int32} (hc : HC R) (l : Lv R S) (n : Int32) : OE R S (oRich R n) (oRich S n) := by
  unfold oRich
  refine oe_if Iff.rfl (fun _ => oe_l (by decide)) (fun c1 => oe_if (lat_lv l n) (fun _ => oe_l (by decide)) (fun c2 => ?_))
  have e2 : goP (NN n) R 2 = R 2 := (goP_12 _).2
  rw [← l.2.2.1, richN_lv (goP_lv l hc.1.1 (NN n)) (by rw [e2]; have := hc.1.1.K.1; omega) _ (by rw [e2]; exact Nat.le_refl _)]
  exact oe_if Iff.rfl (fun _ => oe_l (by decide)) (fun _ => oe_s hc l rfl)
theorem spotN_lv {R S : Nat → Int32} (l : Lv R S) (hO : Ok R) {c s : Nat} (hs : s < NN (R 1)) : ∀ n, spotN R c s n = spotN S c s n
  | 0 => rfl
  | n + 1 => by simp only [spotN]; rw [spotN_lv l hO hs n, ifq (would_lv l hO _ hs)]
theorem spots_oe {R S : Nat → Int32} (hc : HC R) (l : Lv R S) (c s : Int32) : OE R S (oSpots R c s) (oSpots S c s) := by
  unfold oSpots
  refine oe_if (nif (anf (on_lv l c) (st_lv l s))) (fun _ => oe_l (by decide)) (fun c1 => ?_)
  have c1 := Classical.not_not.mp c1
  have hs := vi_lt ((isSt_vi hc.1.1).mp c1.2)
  exact oe_if (nif (wtg_lv l (vi_lt ((isOn_vi hc.1.1).mp c1.1)))) (fun _ => oe_l (by decide)) (fun _ => oe_s hc l (spotN_lv l hc.1.1 hs _))
theorem nearN_lv {R S : Nat → Int32} (l : Lv R S) (hO : Ok R) {c s : Nat} (hc : c < NN (R 2)) (hs : s < NN (R 1)) : ∀ n, nearN R c s n = nearN S c s n
  | 0 => rfl
  | n + 1 => by simp only [nearN]; rw [nearN_lv l hO hc hs n, l.2.2.2.2 c hc 1 (by decide), ifq (anf (would_lv l hO _ hs) Iff.rfl)]
theorem nearest_oe {R S : Nat → Int32} (hc : HC R) (l : Lv R S) (c s : Int32) : OE R S (oNearest R c s) (oNearest S c s) := by
  unfold oNearest
  refine oe_if (nif (anf (on_lv l c) (st_lv l s))) (fun _ => oe_l (by decide)) (fun c1 => ?_)
  have c1 := Classical.not_not.mp c1
  have hs := vi_lt ((isSt_vi hc.1.1).mp c1.2)
  have hn := vi_lt ((isOn_vi hc.1.1).mp c1.1)
  rw [nearN_lv l hc.1.1 hn hs]
  exact oe_if (nif (wtg_lv l hn)) (fun _ => oe_l (by decide)) (fun _ => oe_if Iff.rfl (fun _ => oe_l (by decide)) (fun _ => oe_s hc l rfl))
theorem place_oe {R S : Nat → Int32} (hc : HC R) (l : Lv R S) (c p : Int32) : OE R S (oPlace R c p) (oPlace S c p) := by
  unfold oPlace
  refine oe_if (nif (anf (on_lv l c) Iff.rfl)) (fun _ => oe_l (by decide)) (fun c1 => ?_)
  have c1 := Classical.not_not.mp c1
  have hn := vi_lt ((isOn_vi hc.1.1).mp c1.1)
  exact oe_if (wtg_lv l hn) (fun _ => oe_s hc l (by rw [← l.2.1]; exact wo_lv l hc.1.1 p _ (Nat.le_refl _))) (fun _ => oe_l (by decide))
theorem bestN_lv {R S : Nat → Int32} (l : Lv R S) (hO : Ok R) {c : Nat} : ∀ n, bestN R c n = bestN S c n
  | 0 => rfl
  | n + 1 => by simp only [bestN]; rw [bestN_lv l hO n, ← l.2.1, wo_lv l hO _ _ (Nat.le_refl _)]
theorem best_oe {R S : Nat → Int32} (hc : HC R) (l : Lv R S) (c : Int32) : OE R S (oBest R c) (oBest S c) := by
  unfold oBest
  refine oe_if (nif (on_lv l c)) (fun _ => oe_l (by decide)) (fun c1 => ?_)
  have c1 := Classical.not_not.mp c1
  have hn := vi_lt ((isOn_vi hc.1.1).mp c1)
  exact oe_if (nif (wtg_lv l hn)) (fun _ => oe_l (by decide)) (fun _ => oe_s hc l (by rw [bestN_lv l hc.1.1]))
theorem cfN_lv {R S : Nat → Int32} (l : Lv R S) (hO : Ok R) (c : Int32) : ∀ n, n ≤ NN (R 1) → cfN R c n = cfN S c n
  | 0, _ => rfl
  | n + 1, hn => by
    have ih := cfN_lv l hO c n (by omega)
    have hM := hO.M.1
    have L := risesP_lv2 l hO (s := n) (by omega)
    simp only [cfN]
    rw [← ih, l.2.2.2.1 n (by omega) 2 (by decide), l.2.2.2.1 n (by omega) 1 (by decide), L.2.2.2.1 n (by rw [risesP_hd (by decide)]; omega) 2 (by decide)]
    rcases cfN_rng R c n with e | ⟨d, hd, e⟩
    · rw [e]
      exact ifq (anf Iff.rfl (anf Iff.rfl ⟨fun _ => Or.inl (by decide), fun _ => Or.inl (by decide)⟩))
    · rw [e, NN_nI (by omega), l.2.2.2.1 d (by omega) 1 (by decide)]
theorem coughFor_oe {R S : Nat → Int32} (hc : HC R) (l : Lv R S) (c : Int32) : OE R S (oCoughFor R c) (oCoughFor S c) := by
  unfold oCoughFor
  refine oe_if (nif (on_lv l c)) (fun _ => oe_l (by decide)) (fun c1 => ?_)
  have c1 := Classical.not_not.mp c1
  have hn := vi_lt ((isOn_vi hc.1.1).mp c1)
  rw [← l.2.1, ← cfN_lv l hc.1.1 c _ (Nat.le_refl _)]
  exact oe_if (by rw [l.2.2.2.2 _ hn 5 (by decide)]) (fun _ => oe_l (by decide)) (fun _ => oe_if Iff.rfl (fun _ => oe_l (by decide)) (fun _ => oe_s hc l rfl))
theorem tw2_lv {R S : Nat → Int32} (l : Lv R S) (hO : Ok R) {c : Int32} {s a b : Nat} (hs : s < NN (R 1)) (ha : a < NN (R 1)) (hb : b < NN (R 1)) : tw2 R c s a b ↔ tw2 S c s a b := by
  have L := risesP_lv2 l hO ha
  have e1 : risesP R (nI a) 1 = R 1 := risesP_hd (by decide)
  have L2 := risesP_lv2 L (risesP_Ok2 hO ha) (s := b) (by rw [e1]; exact hb)
  have e2 : risesP (risesP R (nI a)) (nI b) 1 = R 1 := by rw [risesP_hd (by decide), e1]
  rw [tw2, tw2, l.2.2.2.1 a ha 2 (by decide), L.2.2.2.1 b (by rw [e1]; exact hb) 2 (by decide), L2.2.2.2.1 s (by rw [e2]; exact hs) 2 (by decide)]
theorem twN_lv {R S : Nat → Int32} (l : Lv R S) (hO : Ok R) {c : Int32} {s : Nat} (hs : s < NN (R 1)) : ∀ f n, n + f ≤ NN (R 1) * NN (R 1) → twN R c s n f = twN S c s n f
  | 0, _, _ => rfl
  | f + 1, n, h => by
    have h0 : 0 < NN (R 1) := by omega
    simp only [twN]
    rw [← l.2.1, ifq (tw2_lv l hO hs (Nat.div_lt_of_lt_mul (by omega)) (Nat.mod_lt _ h0)), twN_lv l hO hs f (n + 1) (by omega)]
theorem twice_oe {R S : Nat → Int32} (hc : HC R) (l : Lv R S) (c s : Int32) : OE R S (oTwice R c s) (oTwice S c s) := by
  unfold oTwice
  refine oe_if (nif (anf (on_lv l c) (st_lv l s))) (fun _ => oe_l (by decide)) (fun c1 => ?_)
  have hs := vi_lt ((isSt_vi hc.1.1).mp (Classical.not_not.mp c1).2)
  rw [← l.2.1, ← twN_lv l hc.1.1 hs _ _ (by omega)]
  cases twN R c (NN s) 0 (NN (R 1) * NN (R 1)) with
  | none => exact oe_l (by decide)
  | some n => exact oe_s hc l rfl
theorem willN_lv {R S : Nat → Int32} (l : Lv R S) (hO : Ok R) {c m : Nat} (hc : c < NN (R 2)) : ∀ n, n ≤ NN (R 1) → willN R c m n = willN S c m n
  | 0, _ => by simp only [willN]; rw [coinsW_lv l hO.M.1 (by decide) hc (Ok3 hO (Or.inl m1lt))]
  | n + 1, hn => by
    have hM := hO.M.1
    simp only [willN]; rw [willN_lv l hO hc n (by omega), coinsW_lv l hO.M.1 (by decide) hc (Ok3 hO (Or.inr (vi_nI (by omega) (by omega))))]
theorem will_oe {R S : Nat → Int32} (hc : HC R) (l : Lv R S) (c n : Int32) : OE R S (oWill R c n) (oWill S c n) := by
  unfold oWill
  refine oe_if (nif (anf (on_lv l c) Iff.rfl)) (fun _ => oe_l (by decide)) (fun c1 => oe_if (lat_lv l n) (fun _ => oe_l (by decide)) (fun _ => oe_s hc l ?_))
  have hn := vi_lt ((isOn_vi hc.1.1).mp (Classical.not_not.mp c1).1)
  rw [← l.2.1, willN_lv l hc.1.1 hn _ (Nat.le_refl _)]
theorem kindN_lv {R S : Nat → Int32} (l : Lv R S) (hO : Ok R) {c m : Nat} (hc : c < NN (R 2)) : ∀ n, kindN R c m n = kindN S c m n
  | 0 => rfl
  | n + 1 => by
    simp only [kindN]; rw [kindN_lv l hO hc n, coinsW_lv l hO.M.1 (by decide) hc (Ok0 hO)]
theorem kind_oe {R S : Nat → Int32} (hc : HC R) (l : Lv R S) (c n : Int32) : OE R S (oKind R c n) (oKind S c n) := by
  unfold oKind
  refine oe_if (nif (anf (on_lv l c) Iff.rfl)) (fun _ => oe_l (by decide)) (fun c1 => oe_if (lat_lv l n) (fun _ => oe_l (by decide)) (fun _ => oe_s hc l ?_))
  have hn := vi_lt ((isOn_vi hc.1.1).mp (Classical.not_not.mp c1).1)
  rw [kindN_lv l hc.1.1 hn]
theorem grdB_lv {R S : Nat → Int32} (l : Lv R S) (hO : Ok R) {c s : Nat} (hc : c < NN (R 2)) (hs : s < NN (R 1)) : ∀ n, grdB R c s n = grdB S c s n
  | 0 => by simp only [grdB]; rw [gr_lv l hO _ hs, l.2.2.2.2 c hc 1 (by decide)]
  | n + 1 => by simp only [grdB]; rw [grdB_lv l hO hc hs n, gr_lv l hO _ hs]
theorem guard_oe {R S : Nat → Int32} (hc : HC R) (l : Lv R S) (c s : Int32) : OE R S (oGuard R c s) (oGuard S c s) := by
  unfold oGuard
  refine oe_if (nif (anf (on_lv l c) (st_lv l s))) (fun _ => oe_l (by decide)) (fun c1 => ?_)
  have c1 := Classical.not_not.mp c1
  have hs := vi_lt ((isSt_vi hc.1.1).mp c1.2)
  have hn := vi_lt ((isOn_vi hc.1.1).mp c1.1)
  exact oe_if (nif (by rw [grdOk, grdOk, l.2.2.2.2 _ hn 0 (by decide), l.2.2.2.2 _ hn 5 (by decide), l.2.2.2.1 _ hs 2 (by decide), late, late, l.1])) (fun _ => oe_l (by decide)) (fun _ => oe_s hc l (by rw [grdB_lv l hc.1.1 hn hs]))
theorem sitSet_lv {R S : Nat → Int32} (l : Lv R S) : ∀ n, n ≤ NN (R 2) → sitSet R n = sitSet S n
  | 0, _ => rfl
  | n + 1, hn => by simp only [sitSet]; rw [sitSet_lv l n (by omega), l.2.2.2.2 n (by omega) 5 (by decide)]
theorem count_oe {R S : Nat → Int32} (hc : HC R) (l : Lv R S) (t k : Int32) : OE R S (oCount R t k) (oCount S t k) := by
  unfold oCount
  exact oe_if Iff.rfl (fun _ => oe_s hc l l.2.2.1) (fun _ => oe_if Iff.rfl (fun _ => oe_s hc l l.2.1) (fun _ => oe_if Iff.rfl (fun _ => oe_s hc l rfl) (fun _ => oe_if Iff.rfl (fun _ => oe_s hc l (by rw [← l.2.2.1]; exact sitSet_lv l _ (Nat.le_refl _))) (fun _ => oe_l (by decide)))))
