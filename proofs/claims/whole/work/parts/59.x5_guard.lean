/-! ===== no place of a page keeps a holder longer than another ===== -/
/-- a seat's doings leave the other seats and those who sit on them -/
theorem seat1_oth {R : Nat → Int32} {n s : Nat} (h : Hv R) (hn : n < NN (R 1)) (hs : s < NN (R 1)) (hne : s ≠ n) : se (seat1 R n) s 2 = se R s 2 ∧ ∀ d, on R d 5 = nI s → ∀ k, k < 7 → on (seat1 R n) d k = on R d k := by
  have hM := h.1.M.1
  have hK := h.1.K.1
  have hN : NN (nI n) = n := NN_nI (by omega)
  have nsit : ∀ d, on R d 5 = nI s → ¬ on R d 5 < 0 := fun d e => by rw [e]; exact nI_pos (by omega)
  unfold seat1
  split
  · rename_i c
    refine ⟨?_, fun d hd k hk => ?_⟩
    · rw [se_falls (by omega) (by decide), hN, if_neg (fun z => hne z.1)]
    · have : ¬ (¬ nx R (se R n 0) (-1) (NN (R 2)) < 0 ∧ d = NN (nx R (se R n 0) (-1) (NN (R 2)))) := fun z => by
        rcases nx_may R (se R n 0) (-1) (NN (R 2)) with q | ⟨x, x1, x2, x3⟩
        · exact z.1 (by rw [q]; decide)
        · rw [x2, NN_nI (by omega)] at z
          exact nsit d hd (by rw [z.2]; exact x3.2.1)
      rw [on_falls (by omega) hk, if_neg (fun z => this ⟨z.1, z.2.1⟩), if_neg (fun z => this ⟨z.1, z.2.1⟩), if_neg (fun z => this ⟨z.1, z.2.1⟩)]
  · rename_i c
    split
    · have hb := (h.b hn).resolve_left (fun z => c ((h.b hn).neg.mpr z))
      have e1 : upP R (nI n) 1 = R 1 := upP_hd (by decide)
      refine ⟨?_, fun d hd k hk => ?_⟩
      · unfold risesP
        rw [se_falls (by omega) (by decide), hN, if_neg (fun z => hne z.1), se_up (by omega) (by decide)]
      · have hdh : d ≠ NN (se R n 2) := fun z => by
          rw [z, hb.2] at hd
          exact hne ((nI_eq (by omega) (by omega)).mp hd.symm)
        have hup : on (upP R (nI n)) d k = on R d k := on_up_ne hk (by rw [hN]; exact hdh)
        have hnx : nx (upP R (nI n)) (se R n 0) (se R n 2) (NN (R 2)) = nx R (se R n 0) (-1) (NN (R 2)) := nx_up h hn c _ _ (Nat.le_refl _)
        have : ¬ (¬ nx R (se R n 0) (-1) (NN (R 2)) < 0 ∧ d = NN (nx R (se R n 0) (-1) (NN (R 2)))) := fun z => by
          rcases nx_may R (se R n 0) (-1) (NN (R 2)) with q | ⟨x, x1, x2, x3⟩
          · exact z.1 (by rw [q]; decide)
          · rw [x2, NN_nI (by omega)] at z
            exact nsit d hd (by rw [z.2]; exact x3.2.1)
        unfold risesP
        rw [hN, hnx, on_falls (by omega) hk, if_neg (fun z => this ⟨z.1, z.2.1⟩), if_neg (fun z => this ⟨z.1, z.2.1⟩), if_neg (fun z => this ⟨z.1, z.2.1⟩), hup]
    · exact ⟨rfl, fun _ _ _ _ => rfl⟩
/-- ahead of a seat's turn its holder is as he was -/
theorem ss_bef {R : Nat → Int32} {s d : Nat} (h : Hv R) (hs : s < NN (R 1)) (hd : on R d 5 = nI s) : ∀ n, n ≤ s → se (ss R n) s 2 = se R s 2 ∧ ∀ k, k < 7 → on (ss R n) d k = on R d k
  | 0, _ => ⟨rfl, fun _ _ => rfl⟩
  | n + 1, hn => by
    obtain ⟨i1, i2⟩ := ss_bef h hs hd n (by omega)
    have e1 : ss R n 1 = R 1 := ss_hd R (by decide) n
    obtain ⟨k1, k2⟩ := seat1_oth (ss_Hv h n (by omega)) (n := n) (s := s) (by rw [e1]; omega) (by rw [e1]; exact hs) (by omega)
    simp only [ss]
    exact ⟨k1.trans i1, fun k hk => (k2 d (by rw [i2 5 (by decide)]; exact hd) k hk).trans (i2 k hk)⟩
/-- behind a seat's turn it stays as it is, and who sits on it -/
theorem ss_aft {R : Nat → Int32} {s : Nat} (h : Hv R) (hs : s < NN (R 1)) : ∀ n, s + 1 ≤ n → n ≤ NN (R 1) → se (ss R n) s 2 = se (ss R (s + 1)) s 2 ∧ ∀ d, on (ss R (s + 1)) d 5 = nI s → ∀ k, k < 7 → on (ss R n) d k = on (ss R (s + 1)) d k
  | 0, h0, _ => absurd h0 (by omega)
  | n + 1, hn, hM => by
    by_cases e : n = s
    · subst e; exact ⟨rfl, fun _ _ _ _ => rfl⟩
    · obtain ⟨i1, i2⟩ := ss_aft h hs n (by omega) (by omega)
      have e1 : ss R n 1 = R 1 := ss_hd R (by decide) n
      obtain ⟨k1, k2⟩ := seat1_oth (ss_Hv h n (by omega)) (n := n) (s := s) (by rw [e1]; omega) (by rw [e1]; exact hs) (by omega)
      rw [show ss R (n + 1) = seat1 (ss R n) n from rfl]
      exact ⟨k1.trans i1, fun d hd k hk => (k2 d (by rw [i2 d hd 5 (by decide)]; exact hd) k hk).trans (i2 d hd k hk)⟩
theorem wa_se (R : Nat → Int32) {s k : Nat} (hs : s < 6) (hk : k < 3) (n : Nat) : se (wa R n) s k = se R s k := wa_hd R (by omega) n
theorem wa_on {R : Nat → Int32} {d k : Nat} (hk : k < 7) (h1 : k ≠ 1) : ∀ n, on (wa R n) d k = on R d k
  | 0 => rfl
  | n + 1 => by
    simp only [wa]; split
    · unfold walkP; rw [wk_on hk h1]; exact wa_on hk h1 n
    · exact wa_on hk h1 n
theorem pa_on0 (R : Nat → Int32) (c : Nat) : ∀ n, on (pa R n) c 0 = on R c 0
  | 0 => rfl
  | n + 1 => by
    simp only [pa, pay1]; split
    · exact pa_on0 R c n
    · rw [on_ost_ne (by decide) (by decide) (by decide), on_ost_ne (by decide) (by decide) (by decide)]; exact pa_on0 R c n
theorem pa_on6 (R : Nat → Int32) (c : Nat) : ∀ n, on (pa R n) c 6 = if c < n ∧ ¬ on R c 5 < 0 then on R c 6 + 1 else on R c 6
  | 0 => by rw [if_neg (fun z => by omega)]; rfl
  | n + 1 => by
    have ih := pa_on6 R c n
    simp only [pa, pay1]
    rw [pa_on5]
    by_cases d : on R n 5 < 0
    · rw [if_pos d, ih]
      refine ifq ⟨fun z => ⟨by omega, z.2⟩, fun z => ⟨?_, z.2⟩⟩
      have : c ≠ n := fun e => z.2 (by rw [e]; exact d)
      omega
    · rw [if_neg d]
      by_cases e : c = n
      · subst e
        rw [on_ost_ne (by decide) (by decide) (by decide), on_ost_eq, ih, if_neg (fun z => by omega), if_pos ⟨by omega, d⟩]
      · rw [on_ost_nc (by decide) (by decide) e, on_ost_nc (by decide) (by decide) e, ih]
        exact ifq ⟨fun z => ⟨by omega, z.2⟩, fun z => ⟨by omega, z.2⟩⟩
/-- a second, as a holder sees it -/
theorem sec_hold {R : Nat → Int32} {s d : Nat} (h : Hv R) (hs : s < NN (R 1)) (hd : d < NN (R 2)) (hh : se R s 2 = nI d) :
    (se (secP R) s 2 = nI d ↔ ¬ stay (on R d 0) ≤ on R d 6) ∧ (¬ stay (on R d 0) ≤ on R d 6 → on (secP R) d 0 = on R d 0 ∧ on (secP R) d 6 = on R d 6 + 1) := by
  have hM := h.1.M.1
  have hK := h.1.K.1
  have h5 : on R d 5 = nI s := by
    have := (h.b hs).resolve_left (by rw [hh]; exact nI_ne1 (by omega))
    rw [hh, NN_nI (by omega)] at this
    exact this.2
  generalize hw : wa R (NN (R 2)) = W
  have hW : Hv W := by rw [← hw]; exact wa_Hv h _ (Nat.le_refl _)
  have w1 : W 1 = R 1 := by rw [← hw]; exact wa_hd R (by decide) _
  have w2 : W 2 = R 2 := by rw [← hw]; exact wa_hd R (by decide) _
  have wse : se W s 2 = nI d := by rw [← hw, wa_se R (by omega) (by decide)]; exact hh
  have won : ∀ k, k < 7 → k ≠ 1 → on W d k = on R d k := fun k hk k1 => by rw [← hw]; exact wa_on hk k1 _
  have w5 : on W d 5 = nI s := by rw [won 5 (by decide) (by decide)]; exact h5
  have hsW : s < NN (W 1) := by rw [w1]; exact hs
  obtain ⟨b1, b2⟩ := ss_bef hW hsW w5 s (Nat.le_refl _)
  have hB : Hv (ss W s) := ss_Hv hW s (by omega)
  have e1 : ss W s 1 = W 1 := ss_hd W (by decide) s
  have e2 : ss W s 2 = W 2 := ss_hd W (by decide) s
  have bse : se (ss W s) s 2 = nI d := b1.trans wse
  have nneg : ¬ se (ss W s) s 2 < 0 := by rw [bse]; exact nI_pos (by omega)
  obtain ⟨a1, a2⟩ := ss_aft hW hsW (NN (R 1)) (by omega) (by rw [w1]; exact Nat.le_refl _)
  have sec : ∀ k, k < 3 → se (secP R) s k = se (ss W (NN (R 1))) s k := fun k hk => by
    show se (upd (pa (ss (wa R (NN (R 2))) (NN (R 1))) (NN (R 2))) 0 (R 0 + 1)) s k = _
    rw [se_u0 (by decide), pa_se _ (by omega) hk, hw]
  have seco : ∀ k, on (secP R) d k = on (pa (ss W (NN (R 1))) (NN (R 2))) d k := fun k => by
    show on (upd (pa (ss (wa R (NN (R 2))) (NN (R 1))) (NN (R 2))) 0 (R 0 + 1)) d k = _
    rw [on_u0 (by decide), hw]
  have st : ss W (s + 1) = seat1 (ss W s) s := rfl
  by_cases c : stay (on R d 0) ≤ on R d 6
  · -- he rises, and another one is next
    have hr : seat1 (ss W s) s = risesP (ss W s) (nI s) := by
      unfold seat1
      rw [if_neg nneg, bse, NN_nI (by omega), b2 0 (by decide), b2 6 (by decide), won 0 (by decide) (by decide), won 6 (by decide) (by decide), if_pos c]
    have hnx := rise_nx hB (by rw [e1]; exact hsW) nneg
    have hne : ¬ se (risesP (ss W s) (nI s)) s 2 = nI d := by
      rw [hnx]
      rcases nx_may (ss W s) (se (ss W s) s 0) (-1) (NN (ss W s 2)) with q | ⟨x, x1, x2, x3⟩
      · rw [q]; intro z; exact nI_ne1 (show d < 2 ^ 31 by omega) z.symm
      · rw [x2]
        intro z
        have xd : x = d := (nI_eq (by rw [e2, w2] at x1; omega) (by omega)).mp z
        have := x3.2.1
        rw [xd, b2 5 (by decide), w5] at this
        exact nI_pos (by omega) this
    refine ⟨⟨fun z => ?_, fun z => absurd c z⟩, fun z => absurd c z⟩
    rw [sec 2 (by decide), a1, st, hr] at z
    exact absurd z hne
  · have hr : seat1 (ss W s) s = ss W s := by
      unfold seat1
      rw [if_neg nneg, bse, NN_nI (by omega), b2 0 (by decide), b2 6 (by decide), won 0 (by decide) (by decide), won 6 (by decide) (by decide), if_neg c]
    have k5 : on (ss W (s + 1)) d 5 = nI s := by rw [st, hr, b2 5 (by decide)]; exact w5
    have on7 : ∀ k, k < 7 → k ≠ 1 → on (ss W (NN (R 1))) d k = on R d k := fun k hk k1 => by
      rw [a2 d k5 k hk, st, hr, b2 k hk, won k hk k1]
    refine ⟨⟨fun _ => c, fun _ => ?_⟩, fun _ => ⟨?_, ?_⟩⟩
    · rw [sec 2 (by decide), a1, st, hr]; exact bse
    · rw [seco, pa_on0, on7 0 (by decide) (by decide)]
    · rw [seco, pa_on6, if_pos ⟨hd, by rw [on7 5 (by decide) (by decide), h5]; exact nI_pos (by omega)⟩, on7 6 (by decide) (by decide)]
/-- how long one of a kind keeps sitting who has sat x -/
def gN (k : Int32) : Nat → Int32 → Nat
  | 0, _ => 0
  | f + 1, x => if stay k ≤ x then 0 else gN k f (x + 1) + 1
theorem grd_gN {s d : Nat} : ∀ (f : Nat) {R : Nat → Int32}, Hv R → s < NN (R 1) → d < NN (R 2) → se R s 2 = nI d → grdN s (nI d) f R = gN (on R d 0) f (on R d 6)
  | 0, _, _, _, _, _ => rfl
  | f + 1, R, h, hs, hd, hh => by
    obtain ⟨k1, k2⟩ := sec_hold h hs hd hh
    rw [grdN, gN]
    by_cases c : stay (on R d 0) ≤ on R d 6
    · rw [if_pos c, if_neg (fun z => k1.mp z c)]
    · rw [if_neg c, if_pos (k1.mpr c), grd_gN f (secP_Hv h) (by rw [secP_12.1]; exact hs) (by rw [secP_12.2]; exact hd) (k1.mpr c), (k2 c).1, (k2 c).2]
theorem grdB_own {R : Nat → Int32} {c s : Nat} (h : Hv R) (hc5 : on R c 5 = -1) (hs : s < NN (R 1)) (hh : ¬ se R s 2 < 0) : ∀ n, (grdB R c s n).1 = on R c 1 ∧ (grdB R c s n).2 = nI (gN (on R (NN (se R s 2)) 0) 100 (on R (NN (se R s 2)) 6)) := by
  have hM := h.1.M.1
  have hb := (h.b hs).resolve_left (fun z => hh ((h.b hs).neg.mpr z))
  have eh : se R s 2 = nI (NN (se R s 2)) := vi_eq hb.1 (by have := h.1.K.1; omega)
  have key : ∀ p, grdN s (se R s 2) 100 (ost R c 1 p) = gN (on R (NN (se R s 2)) 0) 100 (on R (NN (se R s 2)) 6) := fun p => by
    have h2 : Hv (ost R c 1 p) := ost_Hx h (by decide) (fun z => absurd z (by decide)) (fun _ => hc5) (fun z => absurd z (by decide))
    have := grd_gN (s := s) (d := NN (se R s 2)) 100 h2 (by rw [hd1_ost]; exact hs) (by rw [hd2_ost]; exact vi_lt hb.1) (by rw [se_ost2 (by omega)]; exact eh)
    rw [on_ost_ne (by decide) (by decide) (by decide), on_ost_ne (by decide) (by decide) (by decide), ← eh] at this
    exact this
  intro n
  induction n with
  | zero => exact ⟨rfl, by rw [grdB, key]⟩
  | succ n ih =>
    rw [grdB, key, ih.2, if_neg (Int32.lt_irrefl)]
    exact ih
theorem vX5_guard (w : WW) : VX5_guard w := by
  intro c s u h
  have hI : IX u := h
  have hv : Hv (vw u (91 * qP)) := h.1
  have hO := hv.1
  have d0 : (0 : Int32) ≤ 100 ∧ (100 : Int32) ≤ 200 := ⟨by decide, by decide⟩
  by_cases c1 : isOn (vw u (91 * qP)) c
  · by_cases c2 : isSt (vw u (91 * qP)) s
    · have hs := (isSt_vi hO).mp c2
      have h6 : vp_in s 6 := vi_mono hs hO.M.1
      have hc := (isOn_vi hO).mp c1
      have h10 : vp_in c 10 := vi_mono hc hO.K.1
      have hc10 : NN c < 10 := vi_lt h10
      have hcc := Hv.c hv (vi_lt hc)
      have hb := Hv.b hv (vi_lt hs)
      have no : ¬ grdOk (vw u (91 * qP)) c s → oGuard (vw u (91 * qP)) c s = .inl 4 := fun z => by
        rw [oGuard, if_neg (fun z => z ⟨c1, c2⟩), if_pos z]
      simp only [eX5_guard_0, eX5_guard_1, eX5_guard_2, eX5_guard_5, eX5_guard_8, eX5_guard_9, eX5_guard_10, eX5_guard_13, eX5_guard_16, eX5_guard_17, eX5_guard_18, eX5_guard_21, eX5_guard_22, eX5_guard_23, eX5_guard_26, eX5_guard_29, eX5_guard_30, eX5_guard_31, eX5_guard_32, eX5_guard_33, eX5_guard_36, eX5_guard_37, eX5_guard_40, eX5_guard_41, eX5_guard_44, eX5_guard_47, eX5_guard_48, eX5_guard_51, eX5_guard_52, eX5_guard_55, eX5_guard_58, eX5_guard_59, eX5_guard_61, eX5_guard_64, eX5_guard_67, eX5_guard_68, eX5_guard_69, eX5_guard_72, eX5_guard_73, eX5_guard_74, eX5_guard_77, kl_i, kl_r, kl_n, kl_l, true_and, and_true, true_implies, false_implies, not_true_eq_false, not_false_eq_true, i10, Classical.not_not, ok_x0, rfP, ok_x1, rfT, ok_x2, rfK, ok_x3, ix_x3, ok_x4, rf_x4, ok_x5, rf_x5, ok_x6, rf_x6, as_fdd, ai_fdd, xa_fdd, rd_fdd, ok_h0 w hqP, rf_h0 w hqP, ok_h1 w hqP, rf_h1 w hqP, ok_h2 w hqP, ix_h2 w hqP, ok_h3 w hqP, ix_h3 w hqP, ok_h4 w hqP, ix_h4 w hqP, ar_sa w hqP, rf_sa w hqP, ar_oa w hqP, rf_oa w hqP, hw_0, hw_1, hw_2, hu_0, hu_1, hu_2, on_vw, on_f, se_vw, se_f, vw_pv, pv_pv, ost_uI, sst_uI, sit_d, may_d, far_d, stay_d, goe_d, stp_d, hOk_h w hqP, hq_hA, pX5_finding, mX5_finding, rfx0, rfx1, rfx2, rfx3, rfx4, rfx5, rfx6, N_0, N_1, N_2, N_3, N_4, N_5, N_6, v7_0, v7_1, v7_2, v7_3, v7_4, v7_5, v7_6, pX5_isOne, rX5_isOne, bi_t c1, pX5_isSeat, rX5_isSeat, bi_t c2, bi_0, h10, h6, ok_on0 w hqP hc10, ix_on0 w hqP hc10, ok_on1 w hqP hc10, ix_on1 w hqP hc10, ok_on2 w hqP hc10, ix_on2 w hqP hc10, ok_on3 w hqP hc10, ix_on3 w hqP hc10, ok_on4 w hqP hc10, ix_on4 w hqP hc10, ok_on5 w hqP hc10, ix_on5 w hqP hc10, ok_on6 w hqP hc10, ix_on6 w hqP hc10, oOk_on w hqP hc10, fo_on w hqP hc10, pX1_sits, pX0_isHeld, rX0_isHeld, pX5_isTooLateFor, eq_true hI, d0, rX5_isTooLateFor, rX5_guard, mX5_guard, Option.some.injEq, Value.int.injEq]
      refine ⟨fun f => xo4 (no (fun z => f z.1)), fun f => ⟨fun g => xo4 (no (fun z => g (hcc.sit.mp z.2.1))), fun g => ⟨fun i => xo4 (no (fun z => z.2.2.1 (hb.neg.mpr i))), fun i => ⟨fun j => xor_ (S := vw u (91 * qP)) ?_, fun j => xo4 (no (fun z => z.2.2.2 j))⟩⟩⟩⟩
      have hn : ¬ se (vw u (91 * qP)) (NN s) 2 < 0 := fun z => i (hb.neg.mp z)
      rw [oGuard, if_neg (fun z => z ⟨c1, c2⟩), if_neg (fun z => z ⟨f, hcc.sit.mpr g, hn, j⟩), (grdB_own hv g (vi_lt hs) hn 100).1]
    · simp only [eX5_guard_0, eX5_guard_1, eX5_guard_2, eX5_guard_5, eX5_guard_8, eX5_guard_9, eX5_guard_10, eX5_guard_13, eX5_guard_16, eX5_guard_17, eX5_guard_18, eX5_guard_21, eX5_guard_22, eX5_guard_23, eX5_guard_26, eX5_guard_29, eX5_guard_30, eX5_guard_31, eX5_guard_32, eX5_guard_33, eX5_guard_36, eX5_guard_37, eX5_guard_40, eX5_guard_41, eX5_guard_44, eX5_guard_47, eX5_guard_48, eX5_guard_51, eX5_guard_52, eX5_guard_55, eX5_guard_58, eX5_guard_59, eX5_guard_61, eX5_guard_64, eX5_guard_67, eX5_guard_68, eX5_guard_69, eX5_guard_72, eX5_guard_73, eX5_guard_74, eX5_guard_77, kl_i, kl_r, kl_n, kl_l, true_and, and_true, true_implies, false_implies, not_true_eq_false, not_false_eq_true, i10, Classical.not_not, ok_x0, rfP, ok_x1, rfT, ok_x2, rfK, ok_x3, ix_x3, ok_x4, rf_x4, ok_x5, rf_x5, ok_x6, rf_x6, as_fdd, ai_fdd, xa_fdd, rd_fdd, ok_h0 w hqP, rf_h0 w hqP, ok_h1 w hqP, rf_h1 w hqP, ok_h2 w hqP, ix_h2 w hqP, ok_h3 w hqP, ix_h3 w hqP, ok_h4 w hqP, ix_h4 w hqP, ar_sa w hqP, rf_sa w hqP, ar_oa w hqP, rf_oa w hqP, hw_0, hw_1, hw_2, hu_0, hu_1, hu_2, on_vw, on_f, se_vw, se_f, vw_pv, pv_pv, ost_uI, sst_uI, sit_d, may_d, far_d, stay_d, goe_d, stp_d, hOk_h w hqP, hq_hA, pX5_finding, mX5_finding, rfx0, rfx1, rfx2, rfx3, rfx4, rfx5, rfx6, N_0, N_1, N_2, N_3, N_4, N_5, N_6, v7_0, v7_1, v7_2, v7_3, v7_4, v7_5, v7_6, pX5_isOne, rX5_isOne, bi_t c1, pX5_isSeat, rX5_isSeat, bi_f c2, rX5_guard, mX5_guard, Option.some.injEq, Value.int.injEq]
      exact xo0 (by rw [oGuard, if_pos (fun z => c2 z.2)])
  · simp only [eX5_guard_0, eX5_guard_1, eX5_guard_2, eX5_guard_5, eX5_guard_8, eX5_guard_9, eX5_guard_10, eX5_guard_13, eX5_guard_16, eX5_guard_17, eX5_guard_18, eX5_guard_21, eX5_guard_22, eX5_guard_23, eX5_guard_26, eX5_guard_29, eX5_guard_30, eX5_guard_31, eX5_guard_32, eX5_guard_33, eX5_guard_36, eX5_guard_37, eX5_guard_40, eX5_guard_41, eX5_guard_44, eX5_guard_47, eX5_guard_48, eX5_guard_51, eX5_guard_52, eX5_guard_55, eX5_guard_58, eX5_guard_59, eX5_guard_61, eX5_guard_64, eX5_guard_67, eX5_guard_68, eX5_guard_69, eX5_guard_72, eX5_guard_73, eX5_guard_74, eX5_guard_77, kl_i, kl_r, kl_n, kl_l, true_and, and_true, true_implies, false_implies, not_true_eq_false, not_false_eq_true, i10, Classical.not_not, ok_x0, rfP, ok_x1, rfT, ok_x2, rfK, ok_x3, ix_x3, ok_x4, rf_x4, ok_x5, rf_x5, ok_x6, rf_x6, as_fdd, ai_fdd, xa_fdd, rd_fdd, ok_h0 w hqP, rf_h0 w hqP, ok_h1 w hqP, rf_h1 w hqP, ok_h2 w hqP, ix_h2 w hqP, ok_h3 w hqP, ix_h3 w hqP, ok_h4 w hqP, ix_h4 w hqP, ar_sa w hqP, rf_sa w hqP, ar_oa w hqP, rf_oa w hqP, hw_0, hw_1, hw_2, hu_0, hu_1, hu_2, on_vw, on_f, se_vw, se_f, vw_pv, pv_pv, ost_uI, sst_uI, sit_d, may_d, far_d, stay_d, goe_d, stp_d, hOk_h w hqP, hq_hA, pX5_finding, mX5_finding, rfx0, rfx1, rfx2, rfx3, rfx4, rfx5, rfx6, N_0, N_1, N_2, N_3, N_4, N_5, N_6, v7_0, v7_1, v7_2, v7_3, v7_4, v7_5, v7_6, pX5_isOne, rX5_isOne, bi_f c1, rX5_guard, mX5_guard, Option.some.injEq, Value.int.injEq]
    exact xo0 (by rw [oGuard, if_pos (fun z => c1 z.1)])
set_option maxRecDepth 20000 in
theorem KX5_guard_ok (w : WW) : KOk w MX5_guard (KX5_guard w) := KOk_mk flX5_ok ciX5_ok clX5_ok (fun _ _ h => by cases h) (fun _ _ h => by cases h) (List.forall_mem_cons.mpr ⟨itV (n := 52) (by decide) (COk_V (n := 1) (ci := 5) (ctX5_finding w) wcX5_52 nmX5_finding (by decide) (by decide) rfl (prX5_finding w)), List.forall_mem_cons.mpr ⟨itV (n := 67) (by decide) (COk_V (n := 1) (ci := 5) (ctX5_isSeat w) wcX5_67 nmX5_isSeat (by decide) (by decide) rfl (prX5_isSeat w)), List.forall_mem_cons.mpr ⟨itV (n := 99) (by decide) (COk_V (n := 1) (ci := 5) (ctX5_isOne w) wcX5_99 nmX5_isOne (by decide) (by decide) rfl (prX5_isOne w)), List.forall_mem_cons.mpr ⟨itV (n := 150) (by decide) (COk_V (n := 0) (ci := 1) (ctX1_sits w) wcX5_150 nmX1_sits (by decide) (by decide) rfl (prX1_sits w)), List.forall_mem_cons.mpr ⟨itV (n := 162) (by decide) (COk_V (n := 1) (ci := 0) (ctX0_isHeld w) wcX5_162 nmX0_isHeld (by decide) (by decide) rfl (prX0_isHeld w)), List.forall_mem_cons.mpr ⟨itV (n := 169) (by decide) (COk_V (n := 1) (ci := 5) (ctX5_isTooLateFor w) wcX5_169 nmX5_isTooLateFor (by decide) (by decide) rfl (prX5_isTooLateFor w)), List.forall_mem_nil _⟩⟩⟩⟩⟩⟩)
theorem ctX5_guard (w : WW) : CT w yX5_guard MX5_guard (csX5_guard w).2.1 (csX5_guard w).2.2 := by
  refine CT_of (by decide) rfl TX5_guard_ok TX5_guard_v (KX5_guard_ok w) (fun as u h => ?_)
  obtain ⟨a0, a1, a2, rfl, h⟩ := sgRII h
  obtain ⟨rfl, hh⟩ := h
  refine ⟨Nat.le_of_ble_eq_true rfl, ?_⟩
  have key := vX5_guard w a1 a2 u hh
  exact key
theorem prX5_guard (w : WW) : ∀ as u, (csX5_guard w).2.1 as u → ∃ a r, as = .ref a :: r ∧ r.length = 2 ∧ okO w a 5 := by
  intro as u h
  obtain ⟨a0, a1, a2, rfl, h⟩ := sgRII h
  exact ⟨_, _, rfl, rfl, okO_x h⟩
