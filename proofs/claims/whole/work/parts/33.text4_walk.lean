/-! ===== the reference's hall: the items keep the bounds ===== -/
theorem seatAdd_Ok {R : Nat → Int32} (h : Ok R) (h6 : R 1 < 6) (p t : Int32) : Ok (seatAdd R p t) := by
  obtain ⟨hM, eM⟩ := h.M
  obtain ⟨hK, eK⟩ := h.K
  generalize hm : NN (R 1) = M at *
  generalize hk : NN (R 2) = K at *
  have m6 : M < 6 := by rw [eM] at h6; exact (nI_ltI (a := M) (b := 6) (by omega) (by decide)).mp h6
  have r1 : seatAdd R p t 1 = nI (M + 1) := by
    show R 1 + 1 = _
    rw [eM, nI_1]
  have r2 : seatAdd R p t 2 = nI K := by
    simp only [seatAdd, hm]
    rw [show ∀ (f : Nat → Int32) v, upd f 1 v 2 = f 2 from fun f v => rfl, hd_sst (by decide), hd_sst (by decide), hd_sst (by decide), eK]
  have n1 : NN (seatAdd R p t 1) = M + 1 := by rw [r1, NN_nI (by omega)]
  have n2 : NN (seatAdd R p t 2) = K := by rw [r2, NN_nI (by omega)]
  have up : ∀ (f : Nat → Int32) v {i : Nat}, 3 ≤ i → upd f 1 v i = f i := fun f v i hi => by simp only [upd]; rw [if_neg (by omega)]
  refine ⟨⟨M + 1, by omega, r1⟩, ⟨K, hK, r2⟩, fun s hs => ?_, fun c hc => ?_⟩
  · rw [n1] at hs; rw [n2]
    have e : se (seatAdd R p t) s 2 = if s = M then -1 else se R s 2 := by
      show seatAdd R p t (3 + 3 * s + 2) = _
      simp only [seatAdd, hm]
      rw [up _ _ (by omega)]
      show se (sst (sst (sst R M 0 p) M 1 t) M 2 (-1)) s 2 = _
      rw [se_sst (by decide) (by decide), se_sst (by decide) (by decide), se_sst (by decide) (by decide)]
      by_cases q : s = M
      · rw [if_pos ⟨q, rfl⟩, if_pos q]
      · rw [if_neg (fun z => q z.1), if_neg (fun z => q z.1), if_neg (fun z => q z.1), if_neg q]
    rw [e]
    by_cases q : s = M
    · rw [if_pos q]; exact Or.inl (by decide)
    · rw [if_neg q]
      have := h.2.2.1 s (by rw [hm]; omega)
      rw [hk] at this
      exact this
  · rw [n2] at hc; rw [n1]
    have e : ∀ k, k < 7 → on (seatAdd R p t) c k = on R c k := fun k hk => by
      show seatAdd R p t (21 + 7 * c + k) = _
      simp only [seatAdd, hm]
      rw [up _ _ (by omega)]
      show on (sst (sst (sst R M 0 p) M 1 t) M 2 (-1)) c k = _
      rw [on_sst m6 (by decide), on_sst m6 (by decide), on_sst m6 (by decide)]
    rw [e 3 (by decide), e 5 (by decide)]
    have := h.2.2.2 c (by rw [hk]; exact hc)
    rw [hm] at this
    exact ⟨this.1.imp id (fun z => vi_mono z (by omega)), this.2.imp id (fun z => vi_mono z (by omega))⟩
theorem oneAdd_Ok {R : Nat → Int32} (h : Ok R) (h10 : R 2 < 10) (k p t wi : Int32) (hw : wi < 0 ∨ vp_in wi (NN (R 1))) : Ok (oneAdd R k p t wi) := by
  obtain ⟨hM, eM⟩ := h.M
  obtain ⟨hK, eK⟩ := h.K
  generalize hm : NN (R 1) = M at *
  generalize hk : NN (R 2) = K at *
  have k10 : K < 10 := by rw [eK] at h10; exact (nI_ltI (a := K) (b := 10) (by omega) (by decide)).mp h10
  have r2 : oneAdd R k p t wi 2 = nI (K + 1) := by
    show R 2 + 1 = _
    rw [eK, nI_1]
  have r1 : oneAdd R k p t wi 1 = nI M := by
    simp only [oneAdd, hk]
    rw [show ∀ (f : Nat → Int32) v, upd f 2 v 1 = f 1 from fun f v => rfl, hd_ost (by decide), hd_ost (by decide), hd_ost (by decide), hd_ost (by decide), hd_ost (by decide), hd_ost (by decide), hd_ost (by decide), eM]
  have n1 : NN (oneAdd R k p t wi 1) = M := by rw [r1, NN_nI (by omega)]
  have n2 : NN (oneAdd R k p t wi 2) = K + 1 := by rw [r2, NN_nI (by omega)]
  have up : ∀ (f : Nat → Int32) v {i : Nat}, 3 ≤ i → upd f 2 v i = f i := fun f v i hi => by simp only [upd]; rw [if_neg (by omega)]
  refine ⟨⟨M, by omega, r1⟩, ⟨K + 1, by omega, r2⟩, fun s hs => ?_, fun c hc => ?_⟩
  · rw [n1] at hs; rw [n2]
    have e : se (oneAdd R k p t wi) s 2 = se R s 2 := by
      show oneAdd R k p t wi (3 + 3 * s + 2) = _
      simp only [oneAdd, hk]
      rw [up _ _ (by omega)]
      show se (ost (ost (ost (ost (ost (ost (ost R K 0 k) K 1 p) K 2 t) K 3 wi) K 4 0) K 5 (-1)) K 6 0) s 2 = _
      rw [se_ost (by omega) (by decide), se_ost (by omega) (by decide), se_ost (by omega) (by decide), se_ost (by omega) (by decide), se_ost (by omega) (by decide), se_ost (by omega) (by decide), se_ost (by omega) (by decide)]
    rw [e]
    have := h.2.2.1 s (by rw [hm]; exact hs)
    rw [hk] at this
    exact this.imp id (fun z => vi_mono z (by omega))
  · rw [n2] at hc; rw [n1]
    have e : ∀ j, j < 7 → on (oneAdd R k p t wi) c j = on (ost (ost (ost (ost (ost (ost (ost R K 0 k) K 1 p) K 2 t) K 3 wi) K 4 0) K 5 (-1)) K 6 0) c j := fun j hj => by
      show oneAdd R k p t wi (21 + 7 * c + j) = _
      simp only [oneAdd, hk]
      rw [up _ _ (by omega)]; rfl
    rw [e 3 (by decide), e 5 (by decide)]
    have no : ∀ j, j < 7 → c ≠ K → on (ost (ost (ost (ost (ost (ost (ost R K 0 k) K 1 p) K 2 t) K 3 wi) K 4 0) K 5 (-1)) K 6 0) c j = on R c j := fun j hj q => by
      rw [on_ost_nc (by decide) hj q, on_ost_nc (by decide) hj q, on_ost_nc (by decide) hj q, on_ost_nc (by decide) hj q, on_ost_nc (by decide) hj q, on_ost_nc (by decide) hj q, on_ost_nc (by decide) hj q]
    by_cases q : c = K
    · subst q
      constructor
      · rw [on_ost_ne (by decide) (by decide) (by decide), on_ost_ne (by decide) (by decide) (by decide), on_ost_ne (by decide) (by decide) (by decide), on_ost_eq]; exact hw
      · rw [on_ost_ne (by decide) (by decide) (by decide), on_ost_eq]; exact Or.inl (by decide)
    · rw [no 3 (by decide) q, no 5 (by decide) q]
      have := h.2.2.2 c (by rw [hk]; omega)
      rw [hm] at this
      exact this
theorem seatAdd_hi {R : Nat → Int32} (h : Ok R) (h6 : R 1 < 6) (p t : Int32) {i : Nat} (hi : 91 ≤ i) : seatAdd R p t i = R i := by
  obtain ⟨hM, eM⟩ := h.M
  generalize hm : NN (R 1) = M at *
  have m6 : M < 6 := by rw [eM] at h6; exact (nI_ltI (a := M) (b := 6) (by omega) (by decide)).mp h6
  simp only [seatAdd, hm]
  rw [show ∀ (f : Nat → Int32) v, upd f 1 v i = f i from fun f v => by simp only [upd]; rw [if_neg (by omega)], sst_hi m6 (by decide) hi, sst_hi m6 (by decide) hi, sst_hi m6 (by decide) hi]
theorem oneAdd_hi {R : Nat → Int32} (h : Ok R) (h10 : R 2 < 10) (k p t wi : Int32) {i : Nat} (hi : 91 ≤ i) : oneAdd R k p t wi i = R i := by
  obtain ⟨hK, eK⟩ := h.K
  generalize hk : NN (R 2) = K at *
  have k10 : K < 10 := by rw [eK] at h10; exact (nI_ltI (a := K) (b := 10) (by omega) (by decide)).mp h10
  simp only [oneAdd, hk]
  rw [show ∀ (f : Nat → Int32) v, upd f 2 v i = f i from fun f v => by simp only [upd]; rw [if_neg (by omega)], ost_hi k10 (by decide) hi, ost_hi k10 (by decide) hi, ost_hi k10 (by decide) hi, ost_hi k10 (by decide) hi, ost_hi k10 (by decide) hi, ost_hi k10 (by decide) hi, ost_hi k10 (by decide) hi]
/-- a token that begins at e0 or behind it -/
def lat (L e0 : Nat) (t : TS) : Prop := ∃ b e, e0 ≤ b ∧ b ≤ e ∧ e ≤ L ∧ t.be = nI b ∧ t.en = nI e ∧ (t.so = 3 → b < e)
theorem lat.en {L e0 : Nat} {t : TS} (h : lat L e0 t) : enOk L t := by obtain ⟨b, e, _, _, h3, _, h5, _⟩ := h; exact ⟨e, h3, h5⟩
theorem lat.gd {L e0 : Nat} {t : TS} (h : lat L e0 t) (v : Int32) : lat L e0 (TS.sgd t v) := h
theorem adv_lat {B : Nat → Int32} {L : Nat} (hB : ∀ k, L ≤ k → B k = -1) (hL : L ≤ 120) {t : TS} {e0 : Nat} (h : ∃ e, e0 ≤ e ∧ e ≤ L ∧ t.en = nI e) : lat L e0 (adv B L t) := by
  obtain ⟨e, h0, he, ee⟩ := h
  have eN : NN t.en = e := by rw [ee, NN_nI (by omega)]
  have b1 := tkB_b B L he
  have b2 := tkE_b hB b1.2
  refine ⟨tkB B L e, tkE B L (tkB B L e), by omega, b2.1, b2.2, ?_, ?_, fun z => ?_⟩
  · show nI (tkB B L (NN t.en)) = _; rw [eN]
  · show nI (tkE B L (tkB B L (NN t.en))) = _; rw [eN]
  · have z : srt (B (tkB B L (NN t.en))) = 3 := z
    rw [eN] at z
    unfold srt at z
    split at z; { exact absurd z (by decide) }
    split at z; { exact absurd z (by decide) }
    split at z; { exact absurd z (by decide) }
    rename_i q0 q1 q2
    rw [tkE, if_neg q0, if_neg q1, if_neg q2]; omega
theorem lat_adv {B : Nat → Int32} {L : Nat} (hB : ∀ k, L ≤ k → B k = -1) (hL : L ≤ 120) {t : TS} {e0 : Nat} (h : lat L e0 t) : lat L e0 (adv B L t) := by
  obtain ⟨b, e, h1, h2, h3, _, h5, _⟩ := h
  exact adv_lat hB hL ⟨e, by omega, h3, h5⟩
theorem lat_wN {B : Nat → Int32} {L : Nat} (hB : ∀ k, L ≤ k → B k = -1) (hL : L ≤ 120) {t : TS} {e0 : Nat} {l m : Int32} (h : lat L e0 t) : lat L e0 (wN B L l m t) := by
  unfold wN; split
  · exact lat_adv hB hL (h.gd 1)
  · exact h.gd 0
theorem lat_mW {B : Nat → Int32} {L : Nat} (hB : ∀ k, L ≤ k → B k = -1) (hL : L ≤ 120) {t : TS} {e0 : Nat} {x : Int64} {l m o : Int32} (h : lat L e0 t) : lat L e0 (mW B L x l m o t).2 := by
  unfold mW; split
  · exact h
  · exact lat_wN hB hL (lat_adv hB hL h)
/-- what an item keeps -/
abbrev Kp (L e0 : Nat) (R : Nat → Int32) (r : (Nat → Int32) × TS) : Prop := Ok r.1 ∧ (∀ i, 91 ≤ i → r.1 i = R i) ∧ lat L e0 r.2
theorem kp_if {L e0 : Nat} {R S : Nat → Int32} {t : TS} (hO : Ok R) (h : ¬ t.gd = 0 → Ok S ∧ ∀ i, 91 ≤ i → S i = R i) (hl : lat L e0 t) : Kp L e0 R (if t.gd = 0 then R else S, t) := by
  by_cases g : t.gd = 0
  · rw [if_pos g]; exact ⟨hO, fun _ _ => rfl, hl⟩
  · rw [if_neg g]; exact ⟨(h g).1, (h g).2, hl⟩
theorem wSeat_eq (B : Nat → Int32) (L : Nat) (R : Nat → Int32) (t : TS) : wSeat B L R t = (if (mW B L 12532058 0 99 5 (wN B L 0 99 (wT2 R (wT1 B L R t)))).2.gd = 0 then R else seatAdd R (wT2 R (wT1 B L R t)).va (mW B L 12532058 0 99 5 (wN B L 0 99 (wT2 R (wT1 B L R t)))).1, (mW B L 12532058 0 99 5 (wN B L 0 99 (wT2 R (wT1 B L R t)))).2) := rfl
theorem wOne_eq (B : Nat → Int32) (L : Nat) (k : Int32) (R : Nat → Int32) (t : TS) : wOne B L k R t = (if (mW B L 12253591 0 (R 1 - 1) (-1) (mW B L 404749 0 99 0 (wN B L 0 99 (wO1 B L R t))).2).2.gd = 0 then R else oneAdd R k (wO1 B L R t).va (mW B L 404749 0 99 0 (wN B L 0 99 (wO1 B L R t))).1 (mW B L 12253591 0 (R 1 - 1) (-1) (mW B L 404749 0 99 0 (wN B L 0 99 (wO1 B L R t))).2).1, (mW B L 12253591 0 (R 1 - 1) (-1) (mW B L 404749 0 99 0 (wN B L 0 99 (wO1 B L R t))).2).2) := rfl
theorem wCough_eq (B : Nat → Int32) (L : Nat) (R : Nat → Int32) (t : TS) : wCough B L R t = (if (wN B L 0 6 (wC2 R (adv B L t))).gd = 0 then R else risesP R (wC2 R (adv B L t)).va, wN B L 0 6 (wC2 R (adv B L t))) := rfl
theorem wSeat_kp {B : Nat → Int32} {L : Nat} (hB : ∀ k, L ≤ k → B k = -1) (hL : L ≤ 120) {R : Nat → Int32} (hO : Ok R) {t : TS} {e0 : Nat} (h : lat L e0 t) : Kp L e0 R (wSeat B L R t) := by
  have l1 : lat L e0 (wT1 B L R t) := by
    unfold wT1; split
    · exact lat_adv hB hL (h.gd 1)
    · exact h.gd 0
  have l2 : lat L e0 (wT2 R (wT1 B L R t)) := l1.gd _
  have l3 := lat_mW (x := 12532058) (l := 0) (m := 99) (o := 5) hB hL (lat_wN (l := 0) (m := 99) hB hL l2)
  have g6 : ¬ (mW B L 12532058 0 99 5 (wN B L 0 99 (wT2 R (wT1 B L R t)))).2.gd = 0 → R 1 < 6 := fun g => by
    have g2 := (wN_gd (mW_gd g)).1
    have g3 : ¬ (wT1 B L R t).gd = 0 := by rw [wT2, sgd_gd, bi_0, Classical.not_not] at g2; exact g2.1
    rw [wT1] at g3; split at g3
    · assumption
    · exact absurd rfl g3
  rw [wSeat_eq]
  exact kp_if hO (fun g => ⟨seatAdd_Ok hO (g6 g) _ _, fun i hi => seatAdd_hi hO (g6 g) _ _ hi⟩) l3
theorem wOne_kp {B : Nat → Int32} {L : Nat} (hB : ∀ k, L ≤ k → B k = -1) (hL : L ≤ 120) {R : Nat → Int32} (hO : Ok R) {t : TS} {e0 : Nat} (k : Int32) (h : lat L e0 t) : Kp L e0 R (wOne B L k R t) := by
  have l1 : lat L e0 (wO1 B L R t) := by
    unfold wO1; split
    · exact lat_adv hB hL (h.gd 1)
    · exact h.gd 0
  have l2 := lat_mW (x := 404749) (l := 0) (m := 99) (o := 0) hB hL (lat_wN (l := 0) (m := 99) hB hL l1)
  have l3 := lat_mW (x := 12253591) (l := 0) (m := R 1 - 1) (o := -1) hB hL l2
  have g10 : ¬ (mW B L 12253591 0 (R 1 - 1) (-1) (mW B L 404749 0 99 0 (wN B L 0 99 (wO1 B L R t))).2).2.gd = 0 → R 2 < 10 := fun g => by
    have g3 := (wN_gd (mW_gd (mW_gd g))).1
    rw [wO1] at g3; split at g3
    · assumption
    · exact absurd rfl g3
  rw [wOne_eq]
  refine kp_if hO (fun g => ⟨oneAdd_Ok hO (g10 g) _ _ _ _ ?_, fun i hi => oneAdd_hi hO (g10 g) _ _ _ _ hi⟩) l3
  rcases mW_va g with q | q
  · rw [q]; exact Or.inl (by decide)
  · exact Or.inr ((isSt_vi hO).mp q)
theorem wCough_kp {B : Nat → Int32} {L : Nat} (hB : ∀ k, L ≤ k → B k = -1) (hL : L ≤ 120) {R : Nat → Int32} (hO : Ok R) {t : TS} {e0 : Nat} (h : lat L e0 t) : Kp L e0 R (wCough B L R t) := by
  have l1 : lat L e0 (wC2 R (adv B L t)) := (lat_adv hB hL h).gd _
  have l2 := lat_wN (l := 0) (m := 6) hB hL l1
  have g6 : ¬ (wN B L 0 6 (wC2 R (adv B L t))).gd = 0 → isSt R (adv B L t).va ∧ ¬ se R (NN (adv B L t).va) 2 < 0 := fun g => by
    have g2 := (wN_gd g).1
    rw [wC2, sgd_gd, bi_0, Classical.not_not] at g2; exact g2.2
  rw [wCough_eq]
  refine kp_if hO (fun g => ?_) l2
  have hs := (isSt_vi hO).mp (g6 g).1
  have h1 := vi_lt hs
  have h2 := hO.M.1
  exact ⟨risesP_Ok hO hs, fun i hi => risesP_hi hO (by rw [wC2, sgd_va]; omega) (vi_mono ((hO.2.2.1 _ h1).resolve_left (g6 g).2) hO.K.1) hi⟩
theorem wItem_kp {B : Nat → Int32} {L : Nat} (hB : ∀ k, L ≤ k → B k = -1) (hL : L ≤ 120) {R : Nat → Int32} (hO : Ok R) {t : TS} {e0 : Nat} (h : lat L e0 t) : Kp L e0 R (wItem B L R t) := by
  unfold wItem; split
  · exact wSeat_kp hB hL hO h
  split
  · exact wCough_kp hB hL hO h
  split
  · exact wOne_kp hB hL hO _ h
  · exact ⟨hO, fun _ _ => rfl, h.gd 0⟩
