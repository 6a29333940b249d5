/-! ===== the reference's hall, walked ===== -/
theorem mvI_lo (u : MM) (a b n : Nat) {j : Nat} (h : j < b ∨ b + n ≤ j) : (mvI u a b n).1 j = u.1 j := by simp only [mvI]; rw [if_neg (by omega)]
theorem bt_pv {u : MM} {R : Nat → Int32} (hR : ∀ i, 91 ≤ i → R i = R6 u i) : bt (pv u 1100 R) = bt u := by
  funext k
  simp only [bt]
  rw [pv_lo u 1100 R (by decide), show 1320 + k = 1100 + (220 + k) by omega, pv_hi, hR _ (by omega)]
theorem tL_pv (u : MM) (R : Nat → Int32) : tL (pv u 1100 R) = tL u := congrArg NN (pv_lo u 1100 R (by decide))
theorem R6_pv (u : MM) (R : Nat → Int32) : R6 (pv u 1100 R) = R := vw_pv u 1100 R
theorem vX6_hall (w : WW) : VX6_hall w := by
  intro u h
  obtain ⟨h6, hT⟩ := h
  have hTL : tL u ≤ 120 := by obtain ⟨L, hL, e⟩ := hT; rw [tL, e, NN_nI (by omega)]; exact hL
  have hB := btOut u
  have v1 : ∀ j, j < 1600 → (hlV u).1 j = u.1 j := fun j hj => mvI_lo u 1100 1600 91 (by omega)
  have vB : bt (hlV u) = bt u := by funext k; simp only [bt]; exact 0
  simp only [eX6_hall_0, eX6_hall_1, eX6_hall_2, eX6_hall_3, eX6_hall_6, eX6_hall_9, eX6_hall_10, eX6_hall_11, eX6_hall_14, eX6_hall_15, eX6_hall_16, eX6_hall_19, eX6_hall_20, eX6_hall_21, eX6_hall_22, eX6_hall_24, eX6_hall_27, eX6_hall_28, eX6_hall_31, eX6_hall_32, eX6_hall_35, eX6_hall_38, eX6_hall_39, eX6_hall_42, eX6_hall_45, eX6_hall_46, eX6_hall_49, eX6_hall_50, eX6_hall_53, eX6_hall_54, eX6_hall_57, eX6_hall_59, eX6_hall_62, eX6_hall_63, eX6_hall_66, eX6_hall_67, eX6_hall_68, eX6_hall_71, eX6_hall_72, eX6_hall_73, eX6_hall_76, eX6_hall_79, eX6_hall_80, eX6_hall_83, eX6_hall_86, eX6_hall_87, eX6_hall_90, eX6_hall_91, eX6_hall_94, eX6_hall_95, eX6_hall_96, eX6_hall_99, eX6_hall_100, eX6_hall_103, eX6_hall_106, eX6_hall_107, eX6_hall_108, eX6_hall_109, eX6_hall_112, eX6_hall_115, eX6_hall_116, eX6_hall_117, eX6_hall_120, eX6_hall_121, eX6_hall_122, eX6_hall_123, kl_i, kl_r, kl_n, kl_l, true_and, and_true, true_implies, false_implies, not_true_eq_false, not_false_eq_true, i10, Classical.not_not, ok_m17, rf_m17, io9, iq9, pX6_moveAll, mX6_moveAll, ok_m8, ix_m8, ok_m11, ix_m11, i10]
  exact 0
theorem wcX6_275 : ∀ x ∈ wV1 RX6 275 yX6_wantItem MX6_wantItem, x ∈ Gt := by decide +kernel
theorem nmX6_wantItem : nmOk yX6_wantItem 0 = true := by decide +kernel
set_option maxRecDepth 20000 in
theorem KX6_hall_ok (w : WW) : KOk w MX6_hall (KX6_hall w) := KOk_mk flX6_ok ciX6_ok clX6_ok (fun _ _ h => by cases h) (fun _ _ h => by cases h) (List.forall_mem_cons.mpr ⟨itV (n := 238) (by decide) (COk_V (n := 0) (ci := 6) (ctX6_advance w) wcX6_238 nmX6_advance (by decide) (by decide) rfl (prX6_advance w)), List.forall_mem_cons.mpr ⟨itV (n := 271) (by decide) (COk_V (n := 2) (ci := 6) (ctX6_moveAll w) wcX6_271 nmX6_moveAll (by decide) (by decide) rfl (prX6_moveAll w)), List.forall_mem_cons.mpr ⟨itV (n := 275) (by decide) (COk_V (n := 0) (ci := 6) (ctX6_wantItem w) wcX6_275 nmX6_wantItem (by decide) (by decide) rfl (prX6_wantItem w)), List.forall_mem_nil _⟩⟩⟩)
theorem ctX6_hall (w : WW) : CT w yX6_hall MX6_hall (csX6_hall w).2.1 (csX6_hall w).2.2 := by
  refine CT_of (by decide) rfl TX6_hall_ok TX6_hall_v (KX6_hall_ok w) (fun as u h => ?_)
  obtain ⟨a0, rfl, h⟩ := sgR h
  obtain ⟨rfl, hh⟩ := h
  refine ⟨Nat.le_of_ble_eq_true rfl, ?_⟩
  have key := vX6_hall w u hh
  exact key
theorem prX6_hall (w : WW) : ∀ as u, (csX6_hall w).2.1 as u → ∃ a r, as = .ref a :: r ∧ r.length = 0 ∧ okO w a 6 := by
  intro as u h
  obtain ⟨a0, rfl, h⟩ := sgR h
  exact ⟨_, _, rfl, rfl, okO_m h⟩
