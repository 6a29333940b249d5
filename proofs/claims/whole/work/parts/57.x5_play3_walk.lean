/-! ===== the class's acts that play ahead: coughs, wills, kinds, walked ===== -/
def rT (T : Nat → Int32) (s : Int32) : Nat → Int32 := if se T (NN s) 2 = -1 then T else risesP T s
theorem cit_m (s : Int32) (v : MM) (R : Nat → Int32) : mX5_coughInTrial s (stT v R) = stT v (rT R s) := by
  unfold mX5_coughInTrial mX0_makeRise rT
  rw [vw_stT]
  split
  · rfl
  · rw [pv_stT]
theorem cit_r (s : Int32) (v : MM) (R : Nat → Int32) : rX5_coughInTrial s (stT v R) = bi (¬ se R (NN s) 2 < 0) := by
  unfold rX5_coughInTrial; rw [vw_stT]
theorem cit_p {s : Int32} {v : MM} {R : Nat → Int32} (h1 : Hv R) (h2 : vp_in s (NN (R 1))) : pX5_coughInTrial s (stT v R) := by
  unfold pX5_coughInTrial; rw [vw_stT]; exact ⟨h1, h2⟩
theorem rT_ok {T : Nat → Int32} {a : Nat} (h : Hv T) (ha : a < NN (T 1)) : Hv (rT T (nI a)) ∧ rT T (nI a) 1 = T 1 ∧ ∀ i, 91 ≤ i → rT T (nI a) i = T i := by
  have hM := h.1.M.1
  have hN : NN (nI a) = a := NN_nI (by omega)
  have hb := h.b ha
  unfold rT
  rw [hN]
  split
  · exact ⟨h, rfl, fun _ _ => rfl⟩
  · rename_i c
    exact ⟨risesP_Hv h ha (fun z => c (hb.neg.mp z)), risesP_hd (by decide), fun i hi => risesP_hi h.1 (by omega) (by rw [hN]; exact vi_mono (hb.resolve_left c).1 h.1.K.1) hi⟩
theorem rT_held {T : Nat → Int32} {a : Nat} (h : Hv T) (ha : a < NN (T 1)) (c : ¬ se T a 2 < 0) : rT T (nI a) = risesP T (nI a) := by
  have hM := h.1.M.1
  have hN : NN (nI a) = a := NN_nI (by omega)
  unfold rT
  rw [hN, if_neg (fun z => c ((h.b ha).neg.mpr z))]
/-- what two coughs leave in the trial hall -/
def t2 (T : Nat → Int32) (a b : Nat) : Nat → Int32 := if se T a 2 < 0 then rT T (nI a) else rT (rT T (nI a)) (nI b)
theorem itM_eq (v : MM) (a b : Nat) : itM v a b = stT v (t2 (Tr v) a b) := by
  unfold itM t2
  rw [bec_stT]
  split
  · exact cit_m (nI a) v (Tr v)
  · have := cit_m (nI a) v (Tr v)
    unfold mX5_coughInTrial at this
    rw [this]
    exact cit_m (nI b) v _
theorem t2_hi {T : Nat → Int32} {a b : Nat} (h : Hv T) (ha : a < NN (T 1)) (hb : b < NN (T 1)) : ∀ i, 91 ≤ i → t2 T a b i = T i := by
  intro i hi
  have k := rT_ok h ha
  unfold t2
  split
  · exact k.2.2 i hi
  · rw [(rT_ok k.1 (by rw [k.2.1]; exact hb)).2.2 i hi, k.2.2 i hi]
theorem itM_Tsc {v : MM} {a b : Nat} (h : Hv (vw v (91 * qP))) (ha : a < NN (vw v (91 * qP) 1)) (hb : b < NN (vw v (91 * qP) 1)) : Tsc v (itM v a b) := by
  have l := Tr_lv h.1
  rw [itM_eq]
  exact stT_Tsc (t2_hi (Tr_Hv h) (by rw [← l.2.1]; exact ha) (by rw [← l.2.1]; exact hb))
theorem twX_Tsc {u : MM} (h : Hv (vw u (91 * qP))) {M : Nat} (eM : NN (vw u (91 * qP) 1) = M) : ∀ n, n ≤ M * M → Tsc u (twX u M n)
  | 0, _ => Tsc.rf u
  | n + 1, hn => by
    have ih := twX_Tsc h eM n (by omega)
    have hl := ih.lv h.1
    have e1 : NN (vw (twX u M n) (91 * qP) 1) = M := by rw [← hl.2.1]; exact eM
    have hp : 0 < M := Nat.pos_of_ne_zero (fun z => by subst z; simp at hn)
    have hd : n / M < M := (Nat.div_lt_iff_lt_mul hp).mpr (by omega)
    exact ih.tr (itM_Tsc (Hx_lv h hl) (by rw [e1]; exact hd) (by rw [e1]; exact Nat.mod_lt _ hp))
theorem vX5_twice (w : WW) : VX5_twice w := by
  intro c s u hw h
  have hv : Hv (vw u (91 * qP)) := h.1
  have hO := hv.1
  by_cases c1 : isOn (vw u (91 * qP)) c
  · by_cases c2 : isSt (vw u (91 * qP)) s
    · have hs := (isSt_vi hO).mp c2
      have h6 : vp_in s 6 := vi_mono hs hO.M.1
      have hs6 : NN s < 6 := vi_lt h6
      obtain ⟨M, hM, eM⟩ := hO.1
      have eN : NN (vw u (91 * qP) 1) = M := by rw [eM, NN_nI (by omega)]
      have hsM : NN s < M := by rw [← eN]; exact vi_lt hs
      have hp : 0 < M := by omega
      have hmm : M * M ≤ 36 := Nat.le_trans (Nat.mul_le_mul hM hM) (by decide)
      have ho : ∀ n, twN (vw u (91 * qP)) c (NN s) 0 (M * M) = some n → oTwice (vw u (91 * qP)) c s = .inr (10 * nI (n / M) + nI (n % M), vw u (91 * qP)) := fun n e => by
        rw [oTwice, if_neg (fun z => z ⟨c1, c2⟩), eN, e]
      have ho3 : twN (vw u (91 * qP)) c (NN s) 0 (M * M) = none → oTwice (vw u (91 * qP)) c s = .inl 3 := fun e => by
        rw [oTwice, if_neg (fun z => z ⟨c1, c2⟩), eN, e]
      have hm : mX5_twice c s u = mlX (oTwice (vw u (91 * qP)) c s) u (twX u M (twK (M * M) (twN (vw u (91 * qP)) c (NN s) 0 (M * M)))) := by
        unfold mX5_twice; rw [eN]
      -- a state of the loops
      have st : ∀ n, n ≤ M * M → Hv (vw (twX u M n) (91 * qP)) ∧ vw (twX u M n) (91 * qP) 1 = nI M ∧ Lv (vw u (91 * qP)) (Tr (twX u M n)) := fun n hn => by
        have ht := (twX_Tsc hv eN n hn).lv hO
        exact ⟨Hx_lv hv ht, ht.2.1.symm.trans eM, ht.tr (Tr_lv (ht.Ok hO))⟩
      have inner : ∀ (f : Nat), f < M → (∀ j, twN (vw u (91 * qP)) c (NN s) (M * (f + 1)) (M * M - M * (f + 1)) = twN (vw u (91 * qP)) c (NN s) 0 (M * M) → GX5_twice w (fun r u' => r = some (.int (rX5_twice c s u)) ∧ u' = mX5_twice c s u) 24 [some (.ref (xA w)), some (.int c), some (.int s), some (.int (nI (f + 1))), j] [] (twX u M (M * (f + 1)))) →
          ∀ (d k : Nat), k + d = M → twN (vw u (91 * qP)) c (NN s) (M * f + k) (M * M - (M * f + k)) = twN (vw u (91 * qP)) c (NN s) 0 (M * M) → GX5_twice w (fun r u' => r = some (.int (rX5_twice c s u)) ∧ u' = mX5_twice c s u) 38 [some (.ref (xA w)), some (.int c), some (.int s), some (.int (nI f)), some (.int (nI k))] [] (twX u M (M * f + k)) := by
        intro f hf out d
        have hfM : M * (f + 1) ≤ M * M := Nat.mul_le_mul_left M hf
        have hff : M * (f + 1) = M * f + M := Nat.mul_succ M f
        induction d with
        | zero =>
          intro k hk e
          have ek : k = M := by omega
          subst ek
          obtain ⟨s1, s2, s3⟩ := st (k * f + k) (by omega)
          have hle : nI k ≤ nI k := nI_le (Nat.le_refl k) (by omega)
          rw [eX5_twice_38]
          simp only [eX5_twice_0, eX5_twice_1, eX5_twice_2, eX5_twice_5, eX5_twice_8, eX5_twice_9, eX5_twice_10, eX5_twice_13, eX5_twice_16, eX5_twice_17, eX5_twice_18, eX5_twice_21, eX5_twice_22, eX5_twice_23, eX5_twice_25, eX5_twice_26, eX5_twice_29, eX5_twice_32, eX5_twice_35, eX5_twice_36, eX5_twice_40, eX5_twice_41, eX5_twice_44, eX5_twice_47, eX5_twice_50, eX5_twice_51, eX5_twice_54, eX5_twice_55, eX5_twice_58, eX5_twice_61, eX5_twice_62, eX5_twice_63, eX5_twice_66, eX5_twice_69, eX5_twice_70, eX5_twice_72, eX5_twice_75, eX5_twice_78, eX5_twice_79, eX5_twice_82, eX5_twice_85, eX5_twice_86, eX5_twice_87, eX5_twice_90, eX5_twice_91, eX5_twice_94, eX5_twice_96, eX5_twice_97, eX5_twice_98, eX5_twice_100, eX5_twice_101, eX5_twice_102, eX5_twice_105, eX5_twice_108, eX5_twice_111, eX5_twice_114, eX5_twice_115, eX5_twice_116, eX5_twice_119, kl_i, kl_r, kl_n, kl_l, true_and, and_true, true_implies, false_implies, not_true_eq_false, not_false_eq_true, i10, Classical.not_not, ok_x0, rfP, ok_x1, rfT, ok_x2, rfK, ok_x3, ix_x3, ok_x4, rf_x4, ok_x5, rf_x5, ok_x6, rf_x6, as_fdd, ai_fdd, xa_fdd, rd_fdd, ok_h0 w hqP, rf_h0 w hqP, ok_h1 w hqP, rf_h1 w hqP, ok_h2 w hqP, ix_h2 w hqP, ok_h3 w hqP, ix_h3 w hqP, ok_h4 w hqP, ix_h4 w hqP, ar_sa w hqP, rf_sa w hqP, ar_oa w hqP, rf_oa w hqP, hw_0, hw_1, hw_2, hu_0, hu_1, hu_2, on_vw, on_f, se_vw, se_f, vw_pv, pv_pv, ost_uI, sst_uI, sit_d, may_d, far_d, stay_d, goe_d, stp_d, hOk_h w hqP, hq_hA, s2, hle]
          rw [nI_1]
          have := out (some (.int (nI k)))
          rw [hff] at this
          exact this e
        | succ d ih =>
          intro k hk e
          have hn : M * f + k < M * M := by omega
          obtain ⟨s1, s2, s3⟩ := st (M * f + k) (by omega)
          have hlt : ¬ nI M ≤ nI k := nI_ge (by omega) (by omega)
          have ed : (M * f + k) / M = f := by rw [Nat.mul_add_div hp, Nat.div_eq_of_lt (by omega), Nat.add_zero]
          have em : (M * f + k) % M = k := by rw [Nat.mul_add_mod, Nat.mod_eq_of_lt (by omega)]
          have eg : M * M - (M * f + k) = M * M - (M * f + k + 1) + 1 := by omega
          rw [eg, twN, eN, ed, em] at e
          have nxt := ih (k + 1) (by omega)
          have ex : twX u M (M * f + (k + 1)) = stT (twX u M (M * f + k)) (t2 (Tr (twX u M (M * f + k))) f k) := by
            rw [← Nat.add_assoc, twX, ed, em, itM_eq]
          rw [ex, ← Nat.add_assoc] at nxt
          have exn : ∀ n, n = M * f + k → twX u M (n + 1) = stT (twX u M (M * f + k)) (t2 (Tr (twX u M (M * f + k))) f k) := fun n en => by
            rw [en]; rw [← Nat.add_assoc] at ex; exact ex
          generalize twX u M (M * f + k) = v at s1 s2 s3 nxt exn ⊢
          have hT : Hv (Tr v) := Hx_lv hv s3
          have hO1 := s1.1
          have T1 : Tr v 1 = nI M := s3.2.1.symm.trans eM
          have hNM : NN (nI M) = M := NN_nI (by omega)
          have hNf : NN (nI f) = f := NN_nI (by omega)
          have hNk : NN (nI k) = k := NN_nI (by omega)
          have r1 := rT_ok hT (a := f) (by rw [T1, hNM]; exact hf)
          have p1 : pX5_coughInTrial (nI f) (stT v (Tr v)) := cit_p hT (by rw [T1, hNM]; exact vi_nI hf (by omega))
          have p2 : pX5_coughInTrial (nI k) (stT v (rT (Tr v) (nI f))) := cit_p r1.1 (by rw [r1.2.1, T1, hNM]; exact vi_nI (by omega) (by omega))
          have r2 := rT_ok r1.1 (a := k) (by rw [r1.2.1, T1, hNM]; omega)
          -- what the reference says
          have a1 : se (vw u (91 * qP)) f 2 = se (Tr v) f 2 := s3.2.2.2.1 f (by rw [eN]; exact hf) 2 (by decide)
          have ww : tw2 (vw u (91 * qP)) c (NN s) f k ↔ (¬ se (Tr v) f 2 < 0 ∧ ¬ se (rT (Tr v) (nI f)) k 2 < 0 ∧ se (rT (rT (Tr v) (nI f)) (nI k)) (NN s) 2 = c) := by
            have step : ¬ se (Tr v) f 2 < 0 → Lv (risesP (vw u (91 * qP)) (nI f)) (rT (Tr v) (nI f)) := fun z => by
              rw [rT_held hT (by rw [T1, hNM]; exact hf) z]; exact risesP_lv2 s3 hO (by rw [eN]; exact hf)
            have b1 : NN (risesP (vw u (91 * qP)) (nI f) 1) = M := by rw [risesP_hd (by decide)]; exact eN
            have bO : Ok (risesP (vw u (91 * qP)) (nI f)) := risesP_Ok hO (by rw [eN]; exact vi_nI hf (by omega))
            rw [tw2, a1]
            refine and_congr_right (fun z => ?_)
            rw [(step z).2.2.2.1 k (by rw [b1]; omega) 2 (by decide)]
            refine and_congr_right (fun y => ?_)
            have l2 := risesP_lv2 (step z) bO (s := k) (by rw [b1]; omega)
            rw [rT_held r1.1 (by rw [r1.2.1, T1, hNM]; omega) y, l2.2.2.2.1 (NN s) (by rw [risesP_hd (by decide), b1]; exact hsM) 2 (by decide)]
          rw [eX5_twice_38]
          simp only [eX5_twice_0, eX5_twice_1, eX5_twice_2, eX5_twice_5, eX5_twice_8, eX5_twice_9, eX5_twice_10, eX5_twice_13, eX5_twice_16, eX5_twice_17, eX5_twice_18, eX5_twice_21, eX5_twice_22, eX5_twice_23, eX5_twice_25, eX5_twice_26, eX5_twice_29, eX5_twice_32, eX5_twice_35, eX5_twice_36, eX5_twice_40, eX5_twice_41, eX5_twice_44, eX5_twice_47, eX5_twice_50, eX5_twice_51, eX5_twice_54, eX5_twice_55, eX5_twice_58, eX5_twice_61, eX5_twice_62, eX5_twice_63, eX5_twice_66, eX5_twice_69, eX5_twice_70, eX5_twice_72, eX5_twice_75, eX5_twice_78, eX5_twice_79, eX5_twice_82, eX5_twice_85, eX5_twice_86, eX5_twice_87, eX5_twice_90, eX5_twice_91, eX5_twice_94, eX5_twice_96, eX5_twice_97, eX5_twice_98, eX5_twice_100, eX5_twice_101, eX5_twice_102, eX5_twice_105, eX5_twice_108, eX5_twice_111, eX5_twice_114, eX5_twice_115, eX5_twice_116, eX5_twice_119, kl_i, kl_r, kl_n, kl_l, true_and, and_true, true_implies, false_implies, not_true_eq_false, not_false_eq_true, i10, Classical.not_not, ok_x0, rfP, ok_x1, rfT, ok_x2, rfK, ok_x3, ix_x3, ok_x4, rf_x4, ok_x5, rf_x5, ok_x6, rf_x6, as_fdd, ai_fdd, xa_fdd, rd_fdd, ok_h0 w hqP, rf_h0 w hqP, ok_h1 w hqP, rf_h1 w hqP, ok_h2 w hqP, ix_h2 w hqP, ok_h3 w hqP, ix_h3 w hqP, ok_h4 w hqP, ix_h4 w hqP, ar_sa w hqP, rf_sa w hqP, ar_oa w hqP, rf_oa w hqP, hw_0, hw_1, hw_2, hu_0, hu_1, hu_2, on_vw, on_f, se_vw, se_f, vw_pv, pv_pv, ost_uI, sst_uI, sit_d, may_d, far_d, stay_d, goe_d, stp_d, hOk_h w hqP, hq_hA, ok_h0 w hqT, rf_h0 w hqT, ok_h1 w hqT, rf_h1 w hqT, ok_h2 w hqT, ix_h2 w hqT, ok_h3 w hqT, ix_h3 w hqT, ok_h4 w hqT, ix_h4 w hqT, ar_sa w hqT, rf_sa w hqT, ar_oa w hqT, rf_oa w hqT, hw_0, hw_1, hw_2, hu_0, hu_1, hu_2, on_vw, on_f, se_vw, se_f, vw_pv, pv_pv, ost_uI, sst_uI, sit_d, may_d, far_d, stay_d, goe_d, stp_d, hOk_h w hqT, hq_hA, s2, hlt, pX0_become, neTP, eq_true hO1, hw, bec_stT, eq_true p1, eq_true p2, cit_r, cit_m, bi_0, hNf, hNk, vw_stT, h6, ok_se0 w hqT hs6, ix_se0 w hqT hs6, ok_se1 w hqT hs6, ix_se1 w hqT hs6, ok_se2 w hqT hs6, ix_se2 w hqT hs6, eOk_se w hqT hs6, fo_se w hqT hs6]
          refine ⟨fun z => ?_, fun z => ⟨fun y => ?_, fun y => ⟨fun x => ?_, fun x => ?_⟩⟩⟩
          · rw [if_neg (fun q => (ww.mp q).1 z)] at e
            have := nxt e
            unfold t2 at this
            rw [if_pos z, ← nI_1] at this
            exact this
          · rw [if_neg (fun q => (ww.mp q).2.1 y)] at e
            have := nxt e
            unfold t2 at this
            rw [if_neg z, ← nI_1] at this
            exact this
          · rw [if_neg (fun q => x (ww.mp q).2.2)] at e
            have := nxt e
            unfold t2 at this
            rw [if_neg z, ← nI_1] at this
            exact this
          · rw [if_pos (ww.mpr ⟨z, y, x⟩)] at e
            have hh := ho _ e.symm
            rw [ed, em] at hh
            rw [hm, ← e]
            have e5 := exn _ rfl
            unfold t2 at e5
            rw [if_neg z] at e5
            show some (Value.int (10 * nI f + nI k)) = some (Value.int (an (oTwice (vw u (91 * qP)) c s))) ∧ _ = mlX (oTwice (vw u (91 * qP)) c s) u (twX u M (M * f + k + 1))
            rw [e5]
            exact toV (xlr hh)
      have outer : ∀ (e f : Nat) (j : Option Value), f + e = M → twN (vw u (91 * qP)) c (NN s) (M * f) (M * M - M * f) = twN (vw u (91 * qP)) c (NN s) 0 (M * M) → GX5_twice w (fun r u' => r = some (.int (rX5_twice c s u)) ∧ u' = mX5_twice c s u) 24 [some (.ref (xA w)), some (.int c), some (.int s), some (.int (nI f)), j] [] (twX u M (M * f)) := by
        intro e
        induction e with
        | zero =>
          intro f j hf ht
          have ef : f = M := by omega
          subst ef
          obtain ⟨s1, s2, s3⟩ := st (f * f) (Nat.le_refl _)
          have hle : nI f ≤ nI f := nI_le (Nat.le_refl f) (by omega)
          rw [Nat.sub_self, twN] at ht
          rw [eX5_twice_24]
          simp only [eX5_twice_0, eX5_twice_1, eX5_twice_2, eX5_twice_5, eX5_twice_8, eX5_twice_9, eX5_twice_10, eX5_twice_13, eX5_twice_16, eX5_twice_17, eX5_twice_18, eX5_twice_21, eX5_twice_22, eX5_twice_23, eX5_twice_25, eX5_twice_26, eX5_twice_29, eX5_twice_32, eX5_twice_35, eX5_twice_36, eX5_twice_40, eX5_twice_41, eX5_twice_44, eX5_twice_47, eX5_twice_50, eX5_twice_51, eX5_twice_54, eX5_twice_55, eX5_twice_58, eX5_twice_61, eX5_twice_62, eX5_twice_63, eX5_twice_66, eX5_twice_69, eX5_twice_70, eX5_twice_72, eX5_twice_75, eX5_twice_78, eX5_twice_79, eX5_twice_82, eX5_twice_85, eX5_twice_86, eX5_twice_87, eX5_twice_90, eX5_twice_91, eX5_twice_94, eX5_twice_96, eX5_twice_97, eX5_twice_98, eX5_twice_100, eX5_twice_101, eX5_twice_102, eX5_twice_105, eX5_twice_108, eX5_twice_111, eX5_twice_114, eX5_twice_115, eX5_twice_116, eX5_twice_119, kl_i, kl_r, kl_n, kl_l, true_and, and_true, true_implies, false_implies, not_true_eq_false, not_false_eq_true, i10, Classical.not_not, ok_x0, rfP, ok_x1, rfT, ok_x2, rfK, ok_x3, ix_x3, ok_x4, rf_x4, ok_x5, rf_x5, ok_x6, rf_x6, as_fdd, ai_fdd, xa_fdd, rd_fdd, ok_h0 w hqP, rf_h0 w hqP, ok_h1 w hqP, rf_h1 w hqP, ok_h2 w hqP, ix_h2 w hqP, ok_h3 w hqP, ix_h3 w hqP, ok_h4 w hqP, ix_h4 w hqP, ar_sa w hqP, rf_sa w hqP, ar_oa w hqP, rf_oa w hqP, hw_0, hw_1, hw_2, hu_0, hu_1, hu_2, on_vw, on_f, se_vw, se_f, vw_pv, pv_pv, ost_uI, sst_uI, sit_d, may_d, far_d, stay_d, goe_d, stp_d, hOk_h w hqP, hq_hA, pX5_finding, mX5_finding, rfx0, rfx1, rfx2, rfx3, rfx4, rfx5, rfx6, N_0, N_1, N_2, N_3, N_4, N_5, N_6, v7_0, v7_1, v7_2, v7_3, v7_4, v7_5, v7_6, s2, hle]
          rw [hm, ← ht]
          exact toV (xl3 (ho3 ht.symm))
        | succ e ih =>
          intro f j hf ht
          obtain ⟨s1, s2, s3⟩ := st (M * f) (Nat.mul_le_mul_left M (by omega))
          have hlt : ¬ nI M ≤ nI f := nI_ge (by omega) (by omega)
          rw [eX5_twice_24]
          simp only [eX5_twice_0, eX5_twice_1, eX5_twice_2, eX5_twice_5, eX5_twice_8, eX5_twice_9, eX5_twice_10, eX5_twice_13, eX5_twice_16, eX5_twice_17, eX5_twice_18, eX5_twice_21, eX5_twice_22, eX5_twice_23, eX5_twice_25, eX5_twice_26, eX5_twice_29, eX5_twice_32, eX5_twice_35, eX5_twice_36, eX5_twice_40, eX5_twice_41, eX5_twice_44, eX5_twice_47, eX5_twice_50, eX5_twice_51, eX5_twice_54, eX5_twice_55, eX5_twice_58, eX5_twice_61, eX5_twice_62, eX5_twice_63, eX5_twice_66, eX5_twice_69, eX5_twice_70, eX5_twice_72, eX5_twice_75, eX5_twice_78, eX5_twice_79, eX5_twice_82, eX5_twice_85, eX5_twice_86, eX5_twice_87, eX5_twice_90, eX5_twice_91, eX5_twice_94, eX5_twice_96, eX5_twice_97, eX5_twice_98, eX5_twice_100, eX5_twice_101, eX5_twice_102, eX5_twice_105, eX5_twice_108, eX5_twice_111, eX5_twice_114, eX5_twice_115, eX5_twice_116, eX5_twice_119, kl_i, kl_r, kl_n, kl_l, true_and, and_true, true_implies, false_implies, not_true_eq_false, not_false_eq_true, i10, Classical.not_not, ok_x0, rfP, ok_x1, rfT, ok_x2, rfK, ok_x3, ix_x3, ok_x4, rf_x4, ok_x5, rf_x5, ok_x6, rf_x6, as_fdd, ai_fdd, xa_fdd, rd_fdd, ok_h0 w hqP, rf_h0 w hqP, ok_h1 w hqP, rf_h1 w hqP, ok_h2 w hqP, ix_h2 w hqP, ok_h3 w hqP, ix_h3 w hqP, ok_h4 w hqP, ix_h4 w hqP, ar_sa w hqP, rf_sa w hqP, ar_oa w hqP, rf_oa w hqP, hw_0, hw_1, hw_2, hu_0, hu_1, hu_2, on_vw, on_f, se_vw, se_f, vw_pv, pv_pv, ost_uI, sst_uI, sit_d, may_d, far_d, stay_d, goe_d, stp_d, hOk_h w hqP, hq_hA, s2, hlt]
          exact inner f (by omega) (fun j hh => ih (f + 1) j (by omega) hh) M 0 (by omega) ht
      simp only [eX5_twice_0, eX5_twice_1, eX5_twice_2, eX5_twice_5, eX5_twice_8, eX5_twice_9, eX5_twice_10, eX5_twice_13, eX5_twice_16, eX5_twice_17, eX5_twice_18, eX5_twice_21, eX5_twice_22, eX5_twice_23, eX5_twice_25, eX5_twice_26, eX5_twice_29, eX5_twice_32, eX5_twice_35, eX5_twice_36, eX5_twice_40, eX5_twice_41, eX5_twice_44, eX5_twice_47, eX5_twice_50, eX5_twice_51, eX5_twice_54, eX5_twice_55, eX5_twice_58, eX5_twice_61, eX5_twice_62, eX5_twice_63, eX5_twice_66, eX5_twice_69, eX5_twice_70, eX5_twice_72, eX5_twice_75, eX5_twice_78, eX5_twice_79, eX5_twice_82, eX5_twice_85, eX5_twice_86, eX5_twice_87, eX5_twice_90, eX5_twice_91, eX5_twice_94, eX5_twice_96, eX5_twice_97, eX5_twice_98, eX5_twice_100, eX5_twice_101, eX5_twice_102, eX5_twice_105, eX5_twice_108, eX5_twice_111, eX5_twice_114, eX5_twice_115, eX5_twice_116, eX5_twice_119, kl_i, kl_r, kl_n, kl_l, true_and, and_true, true_implies, false_implies, not_true_eq_false, not_false_eq_true, i10, Classical.not_not, ok_x0, rfP, ok_x1, rfT, ok_x2, rfK, ok_x3, ix_x3, ok_x4, rf_x4, ok_x5, rf_x5, ok_x6, rf_x6, as_fdd, ai_fdd, xa_fdd, rd_fdd, ok_h0 w hqP, rf_h0 w hqP, ok_h1 w hqP, rf_h1 w hqP, ok_h2 w hqP, ix_h2 w hqP, ok_h3 w hqP, ix_h3 w hqP, ok_h4 w hqP, ix_h4 w hqP, ar_sa w hqP, rf_sa w hqP, ar_oa w hqP, rf_oa w hqP, hw_0, hw_1, hw_2, hu_0, hu_1, hu_2, on_vw, on_f, se_vw, se_f, vw_pv, pv_pv, ost_uI, sst_uI, sit_d, may_d, far_d, stay_d, goe_d, stp_d, hOk_h w hqP, hq_hA, pX5_finding, mX5_finding, rfx0, rfx1, rfx2, rfx3, rfx4, rfx5, rfx6, N_0, N_1, N_2, N_3, N_4, N_5, N_6, v7_0, v7_1, v7_2, v7_3, v7_4, v7_5, v7_6, pX5_isOne, rX5_isOne, bi_t c1, pX5_isSeat, rX5_isSeat, bi_t c2, bi_0]
      exact outer M 0 _ (by omega) rfl
    · simp only [eX5_twice_0, eX5_twice_1, eX5_twice_2, eX5_twice_5, eX5_twice_8, eX5_twice_9, eX5_twice_10, eX5_twice_13, eX5_twice_16, eX5_twice_17, eX5_twice_18, eX5_twice_21, eX5_twice_22, eX5_twice_23, eX5_twice_25, eX5_twice_26, eX5_twice_29, eX5_twice_32, eX5_twice_35, eX5_twice_36, eX5_twice_40, eX5_twice_41, eX5_twice_44, eX5_twice_47, eX5_twice_50, eX5_twice_51, eX5_twice_54, eX5_twice_55, eX5_twice_58, eX5_twice_61, eX5_twice_62, eX5_twice_63, eX5_twice_66, eX5_twice_69, eX5_twice_70, eX5_twice_72, eX5_twice_75, eX5_twice_78, eX5_twice_79, eX5_twice_82, eX5_twice_85, eX5_twice_86, eX5_twice_87, eX5_twice_90, eX5_twice_91, eX5_twice_94, eX5_twice_96, eX5_twice_97, eX5_twice_98, eX5_twice_100, eX5_twice_101, eX5_twice_102, eX5_twice_105, eX5_twice_108, eX5_twice_111, eX5_twice_114, eX5_twice_115, eX5_twice_116, eX5_twice_119, kl_i, kl_r, kl_n, kl_l, true_and, and_true, true_implies, false_implies, not_true_eq_false, not_false_eq_true, i10, Classical.not_not, ok_x0, rfP, ok_x1, rfT, ok_x2, rfK, ok_x3, ix_x3, ok_x4, rf_x4, ok_x5, rf_x5, ok_x6, rf_x6, as_fdd, ai_fdd, xa_fdd, rd_fdd, ok_h0 w hqP, rf_h0 w hqP, ok_h1 w hqP, rf_h1 w hqP, ok_h2 w hqP, ix_h2 w hqP, ok_h3 w hqP, ix_h3 w hqP, ok_h4 w hqP, ix_h4 w hqP, ar_sa w hqP, rf_sa w hqP, ar_oa w hqP, rf_oa w hqP, hw_0, hw_1, hw_2, hu_0, hu_1, hu_2, on_vw, on_f, se_vw, se_f, vw_pv, pv_pv, ost_uI, sst_uI, sit_d, may_d, far_d, stay_d, goe_d, stp_d, hOk_h w hqP, hq_hA, pX5_finding, mX5_finding, rfx0, rfx1, rfx2, rfx3, rfx4, rfx5, rfx6, N_0, N_1, N_2, N_3, N_4, N_5, N_6, v7_0, v7_1, v7_2, v7_3, v7_4, v7_5, v7_6, pX5_isOne, rX5_isOne, bi_t c1, pX5_isSeat, rX5_isSeat, bi_f c2, rX5_twice, mX5_twice, Option.some.injEq, Value.int.injEq]
      exact xl0 (by rw [oTwice, if_pos (fun z => c2 z.2)])
  · simp only [eX5_twice_0, eX5_twice_1, eX5_twice_2, eX5_twice_5, eX5_twice_8, eX5_twice_9, eX5_twice_10, eX5_twice_13, eX5_twice_16, eX5_twice_17, eX5_twice_18, eX5_twice_21, eX5_twice_22, eX5_twice_23, eX5_twice_25, eX5_twice_26, eX5_twice_29, eX5_twice_32, eX5_twice_35, eX5_twice_36, eX5_twice_40, eX5_twice_41, eX5_twice_44, eX5_twice_47, eX5_twice_50, eX5_twice_51, eX5_twice_54, eX5_twice_55, eX5_twice_58, eX5_twice_61, eX5_twice_62, eX5_twice_63, eX5_twice_66, eX5_twice_69, eX5_twice_70, eX5_twice_72, eX5_twice_75, eX5_twice_78, eX5_twice_79, eX5_twice_82, eX5_twice_85, eX5_twice_86, eX5_twice_87, eX5_twice_90, eX5_twice_91, eX5_twice_94, eX5_twice_96, eX5_twice_97, eX5_twice_98, eX5_twice_100, eX5_twice_101, eX5_twice_102, eX5_twice_105, eX5_twice_108, eX5_twice_111, eX5_twice_114, eX5_twice_115, eX5_twice_116, eX5_twice_119, kl_i, kl_r, kl_n, kl_l, true_and, and_true, true_implies, false_implies, not_true_eq_false, not_false_eq_true, i10, Classical.not_not, ok_x0, rfP, ok_x1, rfT, ok_x2, rfK, ok_x3, ix_x3, ok_x4, rf_x4, ok_x5, rf_x5, ok_x6, rf_x6, as_fdd, ai_fdd, xa_fdd, rd_fdd, ok_h0 w hqP, rf_h0 w hqP, ok_h1 w hqP, rf_h1 w hqP, ok_h2 w hqP, ix_h2 w hqP, ok_h3 w hqP, ix_h3 w hqP, ok_h4 w hqP, ix_h4 w hqP, ar_sa w hqP, rf_sa w hqP, ar_oa w hqP, rf_oa w hqP, hw_0, hw_1, hw_2, hu_0, hu_1, hu_2, on_vw, on_f, se_vw, se_f, vw_pv, pv_pv, ost_uI, sst_uI, sit_d, may_d, far_d, stay_d, goe_d, stp_d, hOk_h w hqP, hq_hA, pX5_finding, mX5_finding, rfx0, rfx1, rfx2, rfx3, rfx4, rfx5, rfx6, N_0, N_1, N_2, N_3, N_4, N_5, N_6, v7_0, v7_1, v7_2, v7_3, v7_4, v7_5, v7_6, pX5_isOne, rX5_isOne, bi_f c1, rX5_twice, mX5_twice, Option.some.injEq, Value.int.injEq]
    exact xl0 (by rw [oTwice, if_pos (fun z => c1 z.1)])
theorem wcX5_214 : ∀ x ∈ wV1 RX5 214 yX5_coughInTrial MX5_coughInTrial, x ∈ Gt := by decide +kernel
theorem nmX5_coughInTrial : nmOk yX5_coughInTrial 1 = true := by decide +kernel
set_option maxRecDepth 20000 in
theorem KX5_twice_ok (w : WW) : KOk w MX5_twice (KX5_twice w) := KOk_mk flX5_ok ciX5_ok clX5_ok (fun _ _ h => by cases h) (fun _ _ h => by cases h) (List.forall_mem_cons.mpr ⟨itV (n := 52) (by decide) (COk_V (n := 1) (ci := 5) (ctX5_finding w) wcX5_52 nmX5_finding (by decide) (by decide) rfl (prX5_finding w)), List.forall_mem_cons.mpr ⟨itV (n := 67) (by decide) (COk_V (n := 1) (ci := 5) (ctX5_isSeat w) wcX5_67 nmX5_isSeat (by decide) (by decide) rfl (prX5_isSeat w)), List.forall_mem_cons.mpr ⟨itV (n := 99) (by decide) (COk_V (n := 1) (ci := 5) (ctX5_isOne w) wcX5_99 nmX5_isOne (by decide) (by decide) rfl (prX5_isOne w)), List.forall_mem_cons.mpr ⟨itV (n := 172) (by decide) (COk_V (n := 1) (ci := 0) (ctX0_become w) wcX5_172 nmX0_become (by decide) (by decide) rfl (prX0_become w)), List.forall_mem_cons.mpr ⟨itV (n := 214) (by decide) (COk_V (n := 1) (ci := 5) (ctX5_coughInTrial w) wcX5_214 nmX5_coughInTrial (by decide) (by decide) rfl (prX5_coughInTrial w)), List.forall_mem_nil _⟩⟩⟩⟩⟩)
theorem ctX5_twice (w : WW) : CT w yX5_twice MX5_twice (csX5_twice w).2.1 (csX5_twice w).2.2 := by
  refine CT_of (by decide) rfl TX5_twice_ok TX5_twice_v (KX5_twice_ok w) (fun as u h => ?_)
  obtain ⟨a0, a1, a2, rfl, h⟩ := sgRII h
  obtain ⟨rfl, hwok, hh⟩ := h
  refine ⟨Nat.le_of_ble_eq_true rfl, ?_⟩
  have key := vX5_twice w a1 a2 u hwok hh
  exact key
theorem prX5_twice (w : WW) : ∀ as u, (csX5_twice w).2.1 as u → ∃ a r, as = .ref a :: r ∧ r.length = 2 ∧ okO w a 5 := by
  intro as u h
  obtain ⟨a0, a1, a2, rfl, h⟩ := sgRII h
  exact ⟨_, _, rfl, rfl, okO_x h⟩
