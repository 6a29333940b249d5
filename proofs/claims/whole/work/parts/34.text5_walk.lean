/-! ===== the reference's hall, walked ===== -/
theorem mvI_lo (u : MM) (a b n : Nat) {j : Nat} (h : j < b ∨ b + n ≤ j) : (mvI u a b n).1 j = u.1 j := by simp only [mvI]; rw [if_neg (by omega)]
theorem bt_pv {u : MM} {R : Nat → Int32} (hR : ∀ i, 91 ≤ i → R i = R6 u i) : bt (pv u 1100 R) = bt u := by
  funext k
  simp only [bt]
  rw [pv_lo u 1100 R (by decide), show 1320 + k = 1100 + (220 + k) by omega, pv_hi, hR _ (by omega)]; rfl
theorem tL_pv (u : MM) (R : Nat → Int32) : tL (pv u 1100 R) = tL u := congrArg NN (pv_lo u 1100 R (by decide))
theorem R6_pv (u : MM) (R : Nat → Int32) : R6 (pv u 1100 R) = R := vw_pv u 1100 R
theorem vX6_hall (w : WW) : VX6_hall w := by
  intro u h
  obtain ⟨h6, hT⟩ := h
  have hTL : tL u ≤ 120 := by obtain ⟨L, hL, e⟩ := hT; rw [tL, e, NN_nI (by omega)]; exact hL
  have hB := btOut u
  have v1 : ∀ j, j < 1600 → (hlV u).1 j = u.1 j := fun j hj => mvI_lo u 1100 1600 91 (by omega)
  have vB : bt (hlV u) = bt u := by
    funext k; simp only [bt]
    by_cases q : k < NN (u.1 1001)
    · rw [v1 1001 (by decide), if_pos q, if_pos q, v1 (1320 + k) (by have : tL u = NN (u.1 1001) := rfl; omega)]
    · rw [v1 1001 (by decide), if_neg q, if_neg q]
  have vL : tL (hlV u) = tL u := congrArg NN (v1 1001 (by decide))
  have vS : ts (hlV u) = ts u := by unfold ts; rw [v1 1002 (by decide), v1 1003 (by decide), v1 1004 (by decide), v1 1005 (by decide), v1 1006 (by decide)]; rfl
  have vR : ∀ i, i < 500 → R6 (hlV u) i = R6 u i := fun i hi => v1 (1100 + i) (by omega)
  have vO : Ok (R6 (hlV u)) := (Lv_of h6.2.M.1 h6.2.K.1 (fun i hi => (vR i (by omega)).symm)).Ok h6.2
  have vT : ∀ R, tpOk (pv (hlV u) 1100 R) := fun R => by
    obtain ⟨L, hL, e⟩ := hT
    exact ⟨L, hL, by rw [pv_lo _ _ _ (by decide), v1 1001 (by decide)]; exact e⟩
  have vZ : ∀ R t, (tw (pv (hlV u) 1100 R) t).1 1000 = 0 := fun R t => by rw [tw_1 _ _ (by decide), pv_lo _ _ _ (by decide), v1 1000 (by decide)]; exact h6.1
  have exit : ∀ (n : Nat) (R : Nat → Int32) (t : TS), hlI u = (n, R, t) → GX6_hall w (fun r u' => r = some (.int (rX6_hall u)) ∧ u' = mX6_hall u) 23 [some (.ref (mA w)), some (.int (nI n)), some (.int 0)] [] (tw (pv (hlV u) 1100 R) t) := by
    intro n R t hI
    have er : rX6_hall u = if t.gd ≠ 0 ∧ t.so = 0 then nI n else -1 - t.be := by unfold rX6_hall; rw [hI]
    have em : ∀ g, hlM u g = uI (tw (pv (hlV u) 1100 R) (TS.sgd t g)) 1001 0 := fun g => by unfold hlM; rw [hI]
    have emm : mX6_hall u = if t.gd ≠ 0 ∧ t.so = 0 then hlM u 1 else mvI (hlM u 0) 1600 1100 91 := by unfold mX6_hall; rw [hI]
    have gM : ∀ g, (hlM u g).1 1006 = g := fun g => by rw [em]; rfl
    have bM : (mvI (hlM u 0) 1600 1100 91).1 1003 = t.be := by rw [mvI_lo _ _ _ _ (by decide), em]; rfl
    rw [er, emm]
    rw [eX6_hall_23]
    by_cases c1 : t.gd = 0
    · rw [if_neg (fun z => z.1 c1), if_neg (fun z => z.1 c1)]
      simp only [eX6_hall_0, eX6_hall_1, eX6_hall_2, eX6_hall_3, eX6_hall_6, eX6_hall_9, eX6_hall_10, eX6_hall_11, eX6_hall_14, eX6_hall_15, eX6_hall_16, eX6_hall_19, eX6_hall_20, eX6_hall_21, eX6_hall_22, eX6_hall_24, eX6_hall_27, eX6_hall_28, eX6_hall_31, eX6_hall_32, eX6_hall_35, eX6_hall_38, eX6_hall_39, eX6_hall_42, eX6_hall_45, eX6_hall_46, eX6_hall_49, eX6_hall_50, eX6_hall_53, eX6_hall_54, eX6_hall_57, eX6_hall_59, eX6_hall_62, eX6_hall_63, eX6_hall_66, eX6_hall_67, eX6_hall_68, eX6_hall_71, eX6_hall_72, eX6_hall_73, eX6_hall_76, eX6_hall_79, eX6_hall_80, eX6_hall_83, eX6_hall_86, eX6_hall_87, eX6_hall_90, eX6_hall_91, eX6_hall_94, eX6_hall_95, eX6_hall_96, eX6_hall_99, eX6_hall_100, eX6_hall_103, eX6_hall_106, eX6_hall_107, eX6_hall_108, eX6_hall_109, eX6_hall_112, eX6_hall_115, eX6_hall_116, eX6_hall_117, eX6_hall_120, eX6_hall_121, eX6_hall_122, eX6_hall_123, kl_i, kl_r, kl_n, kl_l, true_and, and_true, true_implies, false_implies, not_true_eq_false, not_false_eq_true, i10, Classical.not_not, tw_so, tw_be, tw_en, tw_va, tw_gd, tw_wo, tw_u2, tw_u3, tw_u4, tw_u5, tw_u6, tw_uj, mk_so, mk_be, mk_en, mk_va, mk_gd, mk_wo, mk_sso, mk_sbe, mk_sen, mk_sva, mk_sgd, mk_swo, ok_m6, ix_m6, ok_m7, ix_m7, ok_m8, ix_m8, ok_m9, ix_m9, ok_m10, ix_m10, ok_m11, ix_m11, c1, ok_m5, ix_m5, ok_m17, rf_m17, io9, iq9, pX6_moveAll, mX6_moveAll, ← em, gM, bM, true_or, if_true]
    · by_cases c2 : t.so = 0
      · rw [if_pos ⟨c1, c2⟩, if_pos ⟨c1, c2⟩]
        simp only [eX6_hall_0, eX6_hall_1, eX6_hall_2, eX6_hall_3, eX6_hall_6, eX6_hall_9, eX6_hall_10, eX6_hall_11, eX6_hall_14, eX6_hall_15, eX6_hall_16, eX6_hall_19, eX6_hall_20, eX6_hall_21, eX6_hall_22, eX6_hall_24, eX6_hall_27, eX6_hall_28, eX6_hall_31, eX6_hall_32, eX6_hall_35, eX6_hall_38, eX6_hall_39, eX6_hall_42, eX6_hall_45, eX6_hall_46, eX6_hall_49, eX6_hall_50, eX6_hall_53, eX6_hall_54, eX6_hall_57, eX6_hall_59, eX6_hall_62, eX6_hall_63, eX6_hall_66, eX6_hall_67, eX6_hall_68, eX6_hall_71, eX6_hall_72, eX6_hall_73, eX6_hall_76, eX6_hall_79, eX6_hall_80, eX6_hall_83, eX6_hall_86, eX6_hall_87, eX6_hall_90, eX6_hall_91, eX6_hall_94, eX6_hall_95, eX6_hall_96, eX6_hall_99, eX6_hall_100, eX6_hall_103, eX6_hall_106, eX6_hall_107, eX6_hall_108, eX6_hall_109, eX6_hall_112, eX6_hall_115, eX6_hall_116, eX6_hall_117, eX6_hall_120, eX6_hall_121, eX6_hall_122, eX6_hall_123, kl_i, kl_r, kl_n, kl_l, true_and, and_true, true_implies, false_implies, not_true_eq_false, not_false_eq_true, i10, Classical.not_not, tw_so, tw_be, tw_en, tw_va, tw_gd, tw_wo, tw_u2, tw_u3, tw_u4, tw_u5, tw_u6, tw_uj, mk_so, mk_be, mk_en, mk_va, mk_gd, mk_wo, mk_sso, mk_sbe, mk_sen, mk_sva, mk_sgd, mk_swo, ok_m6, ix_m6, ok_m7, ix_m7, ok_m8, ix_m8, ok_m9, ix_m9, ok_m10, ix_m10, ok_m11, ix_m11, c1, c2, ok_m5, ix_m5, ← em, gM, or_true]
      · rw [if_neg (fun z => c2 z.2), if_neg (fun z => c2 z.2)]
        simp only [eX6_hall_0, eX6_hall_1, eX6_hall_2, eX6_hall_3, eX6_hall_6, eX6_hall_9, eX6_hall_10, eX6_hall_11, eX6_hall_14, eX6_hall_15, eX6_hall_16, eX6_hall_19, eX6_hall_20, eX6_hall_21, eX6_hall_22, eX6_hall_24, eX6_hall_27, eX6_hall_28, eX6_hall_31, eX6_hall_32, eX6_hall_35, eX6_hall_38, eX6_hall_39, eX6_hall_42, eX6_hall_45, eX6_hall_46, eX6_hall_49, eX6_hall_50, eX6_hall_53, eX6_hall_54, eX6_hall_57, eX6_hall_59, eX6_hall_62, eX6_hall_63, eX6_hall_66, eX6_hall_67, eX6_hall_68, eX6_hall_71, eX6_hall_72, eX6_hall_73, eX6_hall_76, eX6_hall_79, eX6_hall_80, eX6_hall_83, eX6_hall_86, eX6_hall_87, eX6_hall_90, eX6_hall_91, eX6_hall_94, eX6_hall_95, eX6_hall_96, eX6_hall_99, eX6_hall_100, eX6_hall_103, eX6_hall_106, eX6_hall_107, eX6_hall_108, eX6_hall_109, eX6_hall_112, eX6_hall_115, eX6_hall_116, eX6_hall_117, eX6_hall_120, eX6_hall_121, eX6_hall_122, eX6_hall_123, kl_i, kl_r, kl_n, kl_l, true_and, and_true, true_implies, false_implies, not_true_eq_false, not_false_eq_true, i10, Classical.not_not, tw_so, tw_be, tw_en, tw_va, tw_gd, tw_wo, tw_u2, tw_u3, tw_u4, tw_u5, tw_u6, tw_uj, mk_so, mk_be, mk_en, mk_va, mk_gd, mk_wo, mk_sso, mk_sbe, mk_sen, mk_sva, mk_sgd, mk_swo, ok_m6, ix_m6, ok_m7, ix_m7, ok_m8, ix_m8, ok_m9, ix_m9, ok_m10, ix_m10, ok_m11, ix_m11, c1, c2, ok_m5, ix_m5, ok_m17, rf_m17, io9, iq9, pX6_moveAll, mX6_moveAll, ← em, gM, bM, true_or, if_true]
  have loop : ∀ (f n : Nat) (R : Nat → Int32) (t : TS), Ok R → (∀ i, 91 ≤ i → R i = R6 (hlV u) i) → (∃ e, e ≤ tL u ∧ t.en = nI e ∧ tL u + 1 ≤ f + e) → itms (bt u) (tL u) f n R t = hlI u → GX6_hall w (fun r u' => r = some (.int (rX6_hall u)) ∧ u' = mX6_hall u) 23 [some (.ref (mA w)), some (.int (nI n)), some (.int 1)] [] (tw (pv (hlV u) 1100 R) t) := by
    intro f
    induction f with
    | zero => intro n R t _ _ ⟨e, h1, _, h2⟩; omega
    | succ f ih =>
      intro n R t hO hR ⟨e, he, ee, hf⟩ hI
      have eb : bt (pv (hlV u) 1100 R) = bt u := (bt_pv hR).trans vB
      have el : tL (pv (hlV u) 1100 R) = tL u := (tL_pv _ R).trans vL
      have l1 : lat (tL u) e (adv (bt u) (tL u) t) := adv_lat hB hTL ⟨e, Nat.le_refl _, he, ee⟩
      have en0 : enOk (tL u) t := ⟨e, he, ee⟩
      have kp := wItem_kp hB hTL hO l1
      have p7 : pX6_wantItem (tw (pv (hlV u) 1100 R) (adv (bt u) (tL u) t)) := by
        refine ⟨⟨vZ _ _, ?_⟩, ?_, ?_⟩
        · show Ok (R6 (tw (pv (hlV u) 1100 R) (adv (bt u) (tL u) t)))
          rw [tw_R6, R6_pv]; exact hO
        · obtain ⟨L, hL, e⟩ := vT R
          exact ⟨L, hL, by rw [tw_1 _ _ (by decide)]; exact e⟩
        · rw [ts_tw, tL_tw, el]; exact l1.en
      have m7 : mX6_wantItem (tw (pv (hlV u) 1100 R) (adv (bt u) (tL u) t)) = tw (pv (hlV u) 1100 (wItem (bt u) (tL u) R (adv (bt u) (tL u) t)).1) (wItem (bt u) (tL u) R (adv (bt u) (tL u) t)).2 := by
        rw [mX6_wantItem, mTR, bt_tw, tL_tw, tw_R6, ts_tw, eb, el, R6_pv, tw_pv, pv_pv, tw_tw]
      rw [itms] at hI
      generalize wItem (bt u) (tL u) R (adv (bt u) (tL u) t) = r at *
      rw [eX6_hall_23]
      simp only [eX6_hall_0, eX6_hall_1, eX6_hall_2, eX6_hall_3, eX6_hall_6, eX6_hall_9, eX6_hall_10, eX6_hall_11, eX6_hall_14, eX6_hall_15, eX6_hall_16, eX6_hall_19, eX6_hall_20, eX6_hall_21, eX6_hall_22, eX6_hall_24, eX6_hall_27, eX6_hall_28, eX6_hall_31, eX6_hall_32, eX6_hall_35, eX6_hall_38, eX6_hall_39, eX6_hall_42, eX6_hall_45, eX6_hall_46, eX6_hall_49, eX6_hall_50, eX6_hall_53, eX6_hall_54, eX6_hall_57, eX6_hall_59, eX6_hall_62, eX6_hall_63, eX6_hall_66, eX6_hall_67, eX6_hall_68, eX6_hall_71, eX6_hall_72, eX6_hall_73, eX6_hall_76, eX6_hall_79, eX6_hall_80, eX6_hall_83, eX6_hall_86, eX6_hall_87, eX6_hall_90, eX6_hall_91, eX6_hall_94, eX6_hall_95, eX6_hall_96, eX6_hall_99, eX6_hall_100, eX6_hall_103, eX6_hall_106, eX6_hall_107, eX6_hall_108, eX6_hall_109, eX6_hall_112, eX6_hall_115, eX6_hall_116, eX6_hall_117, eX6_hall_120, eX6_hall_121, eX6_hall_122, eX6_hall_123, kl_i, kl_r, kl_n, kl_l, true_and, and_true, true_implies, false_implies, not_true_eq_false, not_false_eq_true, i10, Classical.not_not, tw_so, tw_be, tw_en, tw_va, tw_gd, tw_wo, tw_u2, tw_u3, tw_u4, tw_u5, tw_u6, tw_uj, mk_so, mk_be, mk_en, mk_va, mk_gd, mk_wo, mk_sso, mk_sbe, mk_sen, mk_sva, mk_sgd, mk_swo, ok_m6, ix_m6, ok_m7, ix_m7, ok_m8, ix_m8, ok_m9, ix_m9, ok_m10, ix_m10, ok_m11, ix_m11, pX6_advance, mX6_advance, X6_tw, vT, eb, el, en0, ts_tw, bt_tw, tL_tw, tw_tw, p7, m7]
      have ex : ¬ (¬ r.2.gd = 0 ∧ r.2.so = 3 ∧ r.2.va = 59) → hlI u = (n + 1, r.1, r.2) := fun z => by rw [← hI]; exact if_neg z
      have go : (¬ r.2.gd = 0 ∧ r.2.so = 3 ∧ r.2.va = 59) → itms (bt u) (tL u) f (n + 1) r.1 r.2 = hlI u := fun z => by rw [← hI]; exact (if_pos z).symm
      rw [nI_1]
      refine ⟨fun a => exit _ _ _ (ex (fun z => z.1 a)), fun a => ⟨fun b => exit _ _ _ (ex (fun z => b z.2.1)), fun b => ⟨fun c => exit _ _ _ (ex (fun z => c z.2.2)), fun c => ?_⟩⟩⟩
      obtain ⟨k1, k2, b', e', g1, g2, g3, g4, g5, g6⟩ := kp
      have := g6 b
      exact ih (n + 1) r.1 r.2 k1 (fun i hi => (k2 i hi).trans (hR i hi)) ⟨e', g3, g5, by omega⟩ (go ⟨a, b, c⟩)
  simp only [eX6_hall_0, eX6_hall_1, eX6_hall_2, eX6_hall_3, eX6_hall_6, eX6_hall_9, eX6_hall_10, eX6_hall_11, eX6_hall_14, eX6_hall_15, eX6_hall_16, eX6_hall_19, eX6_hall_20, eX6_hall_21, eX6_hall_22, eX6_hall_24, eX6_hall_27, eX6_hall_28, eX6_hall_31, eX6_hall_32, eX6_hall_35, eX6_hall_38, eX6_hall_39, eX6_hall_42, eX6_hall_45, eX6_hall_46, eX6_hall_49, eX6_hall_50, eX6_hall_53, eX6_hall_54, eX6_hall_57, eX6_hall_59, eX6_hall_62, eX6_hall_63, eX6_hall_66, eX6_hall_67, eX6_hall_68, eX6_hall_71, eX6_hall_72, eX6_hall_73, eX6_hall_76, eX6_hall_79, eX6_hall_80, eX6_hall_83, eX6_hall_86, eX6_hall_87, eX6_hall_90, eX6_hall_91, eX6_hall_94, eX6_hall_95, eX6_hall_96, eX6_hall_99, eX6_hall_100, eX6_hall_103, eX6_hall_106, eX6_hall_107, eX6_hall_108, eX6_hall_109, eX6_hall_112, eX6_hall_115, eX6_hall_116, eX6_hall_117, eX6_hall_120, eX6_hall_121, eX6_hall_122, eX6_hall_123, kl_i, kl_r, kl_n, kl_l, true_and, and_true, true_implies, false_implies, not_true_eq_false, not_false_eq_true, i10, Classical.not_not, ok_m17, rf_m17, io9, iq9, pX6_moveAll, mX6_moveAll, ok_m8, ix_m8, ok_m11, ix_m11]
  refine ⟨Or.inr trivial, ?_⟩
  rw [if_neg (fun z => z)]
  have e0 : uI (uI (mvI u 1100 1600 91) 1004 0) 1006 1 = tw (pv (hlV u) 1100 (R6 (hlV u))) (TS.sgd (TS.sen (ts u) 0) 1) := by
    rw [pv7, ← vS, ← tw_u6, ← tw_u4, tw_ts]; rfl
  rw [e0]
  have eF : NN (u.1 1001 + 1) = tL u + 1 := by
    obtain ⟨L, hL, e⟩ := hT
    rw [tL, e, nI_1, NN_nI (by omega), NN_nI (by omega)]
  exact loop (NN (u.1 1001 + 1)) 0 _ _ vO (fun _ _ => rfl) ⟨0, Nat.zero_le _, rfl, by omega⟩ (by unfold hlI; rfl)
theorem wcX6_275 : ∀ x ∈ wV1 RX6 275 yX6_wantItem MX6_wantItem, x ∈ Gt := by decide +kernel
theorem nmX6_wantItem : nmOk yX6_wantItem 0 = true := by decide +kernel
set_option maxRecDepth 20000 in
theorem KX6_hall_ok (w : WW) : KOk w MX6_hall (KX6_hall w) := KOk_mk flX6_ok ciX6_ok clX6_ok (fun _ _ h => by cases h) (fun _ _ h => by cases h) (List.forall_mem_cons.mpr ⟨itV (n := 238) (by decide) (COk_V (n := 0) (ci := 6) (ctX6_advance w) wcX6_238 nmX6_advance (by decide) (by decide) rfl (prX6_advance w)), List.forall_mem_cons.mpr ⟨itV (n := 271) (by decide) (COk_V (n := 2) (ci := 6) (ctX6_moveAll w) wcX6_271 nmX6_moveAll (by decide) (by decide) rfl (prX6_moveAll w)), List.forall_mem_cons.mpr ⟨itV (n := 275) (by decide) (COk_V (n := 0) (ci := 6) (ctX6_wantItem w) wcX6_275 nmX6_wantItem (by decide) (by decide) rfl (prX6_wantItem w)), List.forall_mem_nil _⟩⟩⟩)
theorem ctX6_hall (w : WW) : CT w yX6_hall MX6_hall (csX6_hall w).2.1 (csX6_hall w).2.2 := by
  refine CT_of (by decide) rfl TX6_hall_ok TX6_hall_v (KX6_hall_ok w) (fun as u h => ?_)
  obtain ⟨a0, rfl, h⟩ := sgR h
  obtain ⟨rfl, hh⟩ := h
  refine ⟨Nat.le_of_ble_eq_true rfl, ?_⟩
  have key := vX6_hall w u hh
  exact key
theorem prX6_hall (w : WW) : ∀ as u, (csX6_hall w).2.1 as u → ∃ a r, as = .ref a :: r ∧ r.length = 0 ∧ okO w a 6 := by
  intro as u h
  obtain ⟨a0, rfl, h⟩ := sgR h
  exact ⟨_, _, rfl, rfl, okO_m h⟩
