/-! ===== the act hall, done by both ===== -/
theorem itms_hi {B : Nat → Int32} {L : Nat} (hL : L ≤ 120) (hB : ∀ k, L ≤ k → B k = -1) {i : Nat} (hi : 91 ≤ i) : ∀ (f n : Nat) (R : Nat → Int32) (t : TS), Ok R → enOk L t → (itms B L f n R t).2.1 i = R i
  | 0, _, _, _, _, _ => rfl
  | f + 1, n, R, t, hO, he => by
    obtain ⟨e, k1, k2⟩ := he
    have hK := wItem_kp hB hL hO (adv_lat hB hL (e0 := 0) ⟨e, Nat.zero_le _, k1, k2⟩)
    rw [itms_s]
    split
    · rw [itms_hi hL hB hi f (n + 1) _ _ hK.1 hK.2.2.en]; exact hK.2.1 i hi
    · exact hK.2.1 i hi
theorem hlV_o (v : MM) {j : Nat} (h : j < 1600 ∨ 1691 ≤ j) : (hlV v).1 j = v.1 j := mvI_o (by omega)
theorem hall_lr {u v : MM} (h : Rl u v) : LR qT (mX4_advance (uI (mX0_become qT qP u) 284 0)) (rX5_hall u, hlX u) (hlI v) := by
  obtain ⟨L, hL, e1, e2, hb⟩ := h.2.2.1
  have hT := bec_Tsc u
  have t281 : (mX0_become qT qP u).1 281 = nI L := (hT.2 _ (by decide)).trans e1
  have tb : ∀ k, (mX0_become qT qP u).1 (300 + k) = u.1 (300 + k) := fun k => hT.2 _ (by omega)
  have hNL : NN (nI L) = L := NN_nI (by omega)
  have tL' : tL v = L := by rw [tL, e2]; exact hNL
  have ebx : bx (uI (mX0_become qT qP u) 284 0) = bt v := by
    funext k
    simp only [bx, bt]
    rw [uI_o (show 281 ≠ 284 by decide), uI_o (show 300 + k ≠ 284 by omega), t281, tb, e2, hNL]
    by_cases z : k < L
    · rw [if_pos z, if_pos z]; exact (hb k z).1
    · rw [if_neg z, if_neg z]
  have hB : ∀ k, L ≤ k → bt v k = -1 := fun k hk => by simp only [bt]; rw [e2, hNL, if_neg (by omega)]
  have hX : TX (uI (mX0_become qT qP u) 284 0) := by
    refine ⟨⟨L, hL, by rw [uI_o (show 281 ≠ 284 by decide)]; exact t281⟩, fun k hk => ?_⟩
    rw [uI_o (show 281 ≠ 284 by decide), t281, hNL] at hk
    rw [uI_o (show 300 + k ≠ 284 by omega), tb]
    exact (hb k hk).2
  have hE : TE (bt v) L (uI (mX0_become qT qP u) 284 0) (TS.sgd (TS.sen (ts v) 0) 1) := ⟨by rw [uI_o (show 281 ≠ 284 by decide)]; exact t281, hL, ebx, hB, 0, Nat.zero_le _, uI_s, rfl⟩
  have l0 : Lv (Tr u) (vw (uI (mX0_become qT qP u) 284 0) (91 * qT)) := Lv_ofO (Tr_Hv h.ix.1).1 (fun i hi => (uI_o (show 91 * qT + i ≠ 284 by unfold qT; omega)).symm)
  have l1 := (Tr_lv h.ix.1.1).tr l0
  have c1 := HC_lv h.ix l1
  have l2 := adv_Lv hqT c1.1.1
  have l3 : Lv (R6 v) (R6 (hlV v)) := Lv_ofO h.i6.2 (fun i hi => (hlV_o v (by omega)).symm)
  have hs : SR (bt v) L qT (mX4_advance (uI (mX0_become qT qP u) 284 0)) (R6 (hlV v)) (adv (bt v) L (TS.sgd (TS.sen (ts v) 0) 1)) := ⟨adv_TR hX hE, adv_TX hX, HC_lv c1 l2, (l1.tr l2).sy.tr (h.lv.tr l3)⟩
  have key := loop_lr hqT hL hB 120 (L + 1) 0 0 _ _ _ hs ne1o (adv_lat hB hL ⟨0, Nat.le_refl _, Nat.zero_le _, rfl⟩) (by omega) (by omega) (Nat.le_refl _)
  unfold hlI rX5_hall hlX rX4_enterInto mX4_enterInto
  rw [fu_eq, tL', show NN (v.1 1001 + 1) = L + 1 by rw [e2, nI_1, NN_nI (by omega)]]
  exact key
theorem go_hall {u v : MM} (h : Rl u v) : pX5_hall u ∧ pX6_hall v ∧ Act (rX5_hall u) (rX6_hall v) u (mX5_hall u) v (mX6_hall v) := by
  have hr := hall_lr h
  obtain ⟨L, hL, e1, e2, hb⟩ := h.2.2.1
  have hNL : NN (nI L) = L := NN_nI (by omega)
  have hB : ∀ k, L ≤ k → bt v k = -1 := fun k hk => by simp only [bt]; rw [e2, hNL, if_neg (by omega)]
  have tL' : tL v = L := by rw [tL, e2]; exact hNL
  refine ⟨⟨h.ix, ⟨L, hL, e1⟩, fun k hk => (hb k (by rw [e1, hNL] at hk; exact hk)).2⟩, ⟨h.i6, L, hL, e2⟩, ?_⟩
  have hT := bec_Tsc u
  -- what the class leaves as it was
  have o1 : ∀ j, j < 91 ∨ 182 ≤ j → j < 282 ∨ 285 < j → (hlX u).1 j = u.1 j := fun j a b => by
    rw [hr.1.2 j (by unfold qT; omega) b, (Fx_A qT _).2 j (by unfold qT; omega) b, uI_o (by omega)]
    exact hT.2 j a
  have o1' : (hlX u).2 = u.2 := hr.1.1.trans ((Fx_A qT _).1.trans hT.1)
  -- what the reference leaves as it was
  have l3 : Lv (R6 v) (R6 (hlV v)) := Lv_ofO h.i6.2 (fun i hi => (hlV_o v (by omega)).symm)
  have hi : ∀ i, 91 ≤ i → (hlI v).2.1 i = vw (hlV v) 1100 i := fun i hi => by
    unfold hlI; rw [tL']
    exact itms_hi hL hB hi _ _ _ _ (l3.Ok h.i6.2) ⟨0, Nat.zero_le _, rfl⟩
  have o2 : ∀ g j, j < 1100 ∨ 1191 ≤ j → j < 1002 ∨ 1006 < j → j ≠ 1001 → (hlM v g).1 j = (hlV v).1 j := fun g j a b c => by
    unfold hlM; rw [uI_o c, tw_1 _ _ b]; exact pvR hi a
  have o2' : ∀ g j, j ≠ 450 → (hlM v g).2 j = v.2 j := fun g j c => by
    unfold hlM; show vp_updL v.2 450 _ j = _; exact if_neg c
  have r1 : ∀ g, (hlM v g).1 1001 = 0 := fun g => uI_s
  obtain ⟨-, hy, hn, hm, s, hs, es⟩ := hr
  unfold mX5_hall mX6_hall rX6_hall
  by_cases c : gdE (hlI v).2.2
  · obtain ⟨k1, k2, k3⟩ := hy c
    have c' : (hlI v).2.2.gd ≠ 0 ∧ (hlI v).2.2.so = 0 := c
    have k1' : rX5_hall u = nI (hlI v).1 := k1
    have nneg : ¬ rX5_hall u < 0 := by rw [k1']; exact Int32.not_lt.mpr (nI_pos' (by omega))
    rw [if_pos c', if_pos c', if_neg nneg]
    have l1 : Lv (vw (hlX u) (91 * qT)) (vw (mX0_become qP qT (hlX u)) (91 * qP)) := bec_lv k2.1.1
    have l2 : Lv (vw (mX0_become qP qT (hlX u)) (91 * qP)) (vw (uI (mX0_become qP qT (hlX u)) 281 0) (91 * qP)) := Lv_ofO (l1.Ok k2.1.1) (fun i hi => (uI_o (show 91 * qP + i ≠ 281 by unfold qP; omega)).symm)
    have p1 : ∀ j, 182 ≤ j → j < 282 ∨ 285 < j → j ≠ 281 → (uI (mX0_become qP qT (hlX u)) 281 0).1 j = u.1 j := fun j a b d => by
      rw [uI_o d]
      exact (cpq_out (by unfold qP; omega)).trans (o1 j (by omega) b)
    have q1 : ∀ j, j < 1100 ∨ 1191 ≤ j ∧ j < 1600 → j < 1002 ∨ 1006 < j → j ≠ 1001 → (hlM v 1).1 j = v.1 j := fun j a b d => (o2 1 j (by omega) b d).trans (hlV_o v (by omega))
    have e6 : R6 (hlM v 1) = (hlI v).2.1 := by
      funext i
      show (uI (tw (pv (hlV v) 1100 (hlI v).2.1) _) 1001 0).1 (1100 + i) = _
      rw [uI_o (by omega), tw_1 _ _ (by omega)]; exact pv_hi _ _ _ _
    refine ⟨k1', ⟨⟨HC_lv k2 (l1.tr l2), by rw [e6]; exact (l1.tr l2).sy.tr k3, (q1 1000 (by omega) (by omega) (by omega)).trans h.1.2.2⟩, ?_, ⟨0, by decide, uI_s, r1 1, fun k hk => absurd hk (by omega)⟩, ?_, ?_⟩, ⟨fun j hj => p1 j (by omega) (by omega) (by omega), fun j _ => by show (hlX u).2 j = _; rw [o1']⟩, ⟨fun j hj => q1 j (by omega) (by omega) (by omega), fun j hj => o2' 1 j (by omega)⟩⟩
    · exact RK_cg h.2.1 (fun j _ _ => p1 j (by omega) (by omega) (by omega)) (fun j _ _ => q1 j (by omega) (by omega) (by omega)) (q1 _ (by omega) (by omega) (by omega))
    · exact RS_cg h.2.2.2.1 (fun j _ _ => p1 j (by omega) (by omega) (by omega)) (fun j _ _ => by show (hlX u).2 j = _; rw [o1']) (fun j _ _ => q1 j (by omega) (by omega) (by omega)) (fun j _ _ => o2' 1 j (by omega))
    · exact RF_cg h.2.2.2.2 (fun j _ _ => p1 j (by omega) (by omega) (by omega)) (fun j _ _ => q1 j (by omega) (by omega) (by omega))
  · have k1' : rX5_hall u = -1 - (hlI v).2.2.be := hn c
    have c' : ¬ ((hlI v).2.2.gd ≠ 0 ∧ (hlI v).2.2.so = 0) := c
    have neg : rX5_hall u < 0 := by
      rw [k1', es]
      have : ∀ s, s ≤ 120 → -1 - nI s < 0 := by decide
      exact this s hs
    rw [if_neg c', if_neg c', if_pos neg]
    have p1 : ∀ j, j < 91 ∨ 182 ≤ j → j < 282 ∨ 285 < j → j ≠ 281 → (uI (hlX u) 281 0).1 j = u.1 j := fun j a b d => by rw [uI_o d]; exact o1 j a b
    have q1 : ∀ j, j < 1600 → j < 1002 ∨ 1006 < j → j ≠ 1001 → (mvI (hlM v 0) 1600 1100 91).1 j = v.1 j := fun j a b d => by
      by_cases z : 1100 ≤ j ∧ j < 1191
      · have := mvI_i (u := hlM v 0) (a := 1600) (b := 1100) (n := 91) (i := j - 1100) (by omega)
        rw [show 1100 + (j - 1100) = j by omega] at this
        rw [this, o2 0 _ (by omega) (by omega) (by omega)]
        have := mvI_i (u := v) (a := 1100) (b := 1600) (n := 91) (i := j - 1100) (by omega)
        rw [show 1100 + (j - 1100) = j by omega] at this
        exact this
      · rw [mvI_o (by omega), o2 0 j (by omega) b d, hlV_o v (by omega)]
    have q2 : (mvI (hlM v 0) 1600 1100 91).1 1001 = 0 := (mvI_o (by omega)).trans (r1 0)
    refine ⟨k1', ⟨?_, ?_, ⟨0, by decide, uI_s, q2, fun k hk => absurd hk (by omega)⟩, ?_, ?_⟩, ⟨fun j hj => p1 j (by omega) (by omega) (by omega), fun j _ => by show (hlX u).2 j = _; rw [o1']⟩, ⟨fun j hj => q1 j (by omega) (by omega) (by omega), fun j hj => o2' 0 j (by omega)⟩⟩
    · exact RH_cg h.1 (fun j _ _ => p1 j (by omega) (by omega) (by omega)) (fun j _ _ => q1 j (by omega) (by omega) (by omega)) (q1 _ (by omega) (by omega) (by omega))
    · exact RK_cg h.2.1 (fun j _ _ => p1 j (by omega) (by omega) (by omega)) (fun j _ _ => q1 j (by omega) (by omega) (by omega)) (q1 _ (by omega) (by omega) (by omega))
    · exact RS_cg h.2.2.2.1 (fun j _ _ => p1 j (by omega) (by omega) (by omega)) (fun j _ _ => by show (hlX u).2 j = _; rw [o1']) (fun j _ _ => q1 j (by omega) (by omega) (by omega)) (fun j _ _ => o2' 0 j (by omega))
    · exact RF_cg h.2.2.2.2 (fun j _ _ => p1 j (by omega) (by omega) (by omega)) (fun j _ _ => q1 j (by omega) (by omega) (by omega))
