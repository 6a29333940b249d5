/-! ===== coughs, ones, items one behind the other ===== -/
theorem st_m' {R : Nat → Int32} (hO : Ok R) {v : Int32} {m : Nat} (hm : m ≤ 10000) (e : v = nI m) : v < R 1 ↔ isSt R v := by
  have hM := hO.M
  rw [isSt_vi hO, e]
  constructor
  · intro z
    rw [hM.2] at z
    exact vi_nI (Nat.lt_of_not_le (fun y => Int32.not_le.mpr z ((nI_leI (by omega) (by omega)).mpr y))) (by omega)
  · intro z
    have := vi_lt z
    rw [NN_nI (by omega)] at this
    rw [hM.2]
    exact Int32.not_le.mp (fun y => by have := (nI_leI (by omega) (by omega)).mp y; omega)
theorem rises_HC {R : Nat → Int32} {s : Nat} (hc : HC R) (hs : s < NN (R 1)) (hh : ¬ se R s 2 < 0) : HC (risesP R (nI s)) := by
  have hM := hc.1.1.M.1
  obtain ⟨hH, t, ht, hC⟩ := hc
  exact ⟨risesP_Hv hH hs hh, t, ht, rises_Cv hC hM (by rw [NN_nI (by omega)]; omega)⟩
theorem cough_rr {B : Nat → Int32} {L q : Nat} {u : MM} {R : Nat → Int32} {t : TS} (hq : q < 3) (h : SR B L q u R t) : RR B L q u (eCough q u) (wCough B L R t) := by
  rw [wCough_eq]
  unfold eCough
  have h2 := h.A hq
  have hc2 := h2.2.2.1
  have hO2 := hc2.1.1
  have l2 := h2.2.2.2
  have hM := hO2.M.1
  by_cases d : (adv B L t).so = 2 ∧ isSt R (adv B L t).va ∧ ¬ se R (NN (adv B L t).va) 2 < 0
  · obtain ⟨ev, m, hm, em⟩ := va_eq h2.1 d.1
    have hs := (st_lv l2 _).mpr d.2.1
    have hv := (isSt_vi hO2).mp hs
    have hN : NN (nI m) = m := NN_nI (by omega)
    have hsm : m < NN (vw (mX4_advance u) (91 * q) 1) := by have := vi_lt hv; rw [em, hN] at this; exact this
    have hh : ¬ se (vw (mX4_advance u) (91 * q)) m 2 < 0 := by rw [l2.2.2.2.1 m hsm 2 (by decide)]; have := d.2.2; rw [em, hN] at this; exact this
    have e2 : wC2 R (adv B L t) = TS.sgd (adv B L t) 1 := by unfold wC2; rw [bi_t d]
    have hw : ¬ (TS.sgd (adv B L t) 1).gd = 0 ∧ (TS.sgd (adv B L t) 1).so = 2 ∧ 0 ≤ (TS.sgd (adv B L t) 1).va ∧ (TS.sgd (adv B L t) 1).va ≤ 6 := by
      refine ⟨ne1o, d.1, ?_⟩
      show 0 ≤ (adv B L t).va ∧ (adv B L t).va ≤ 6
      rw [em]
      exact ⟨nI_pos' (by omega), (nI_leI (a := m) (b := 6) (by omega) (by decide)).mpr (by omega)⟩
    have cc : numB (mX4_advance u) (vw (mX4_advance u) (91 * q) 1) ∧ ¬ se (vw (mX4_advance u) (91 * q)) (NN ((mX4_advance u).1 285)) 2 = -1 := by
      refine ⟨(num_iff h2.1 _).mpr ⟨d.1, (st_m' hO2 hm em).mpr hs⟩, fun z => ?_⟩
      rw [ev, em, hN] at z
      exact hh (by rw [z]; decide)
    have g3 : ¬ (adv B L (TS.sgd (TS.sgd (adv B L t) 1) 1)).gd = 0 := ne1o
    have er : mX0_makeRise q ((mX4_advance u).1 285) (mX4_advance u) = pv (mX4_advance u) (91 * q) (risesP (vw (mX4_advance u) (91 * q)) (nI m)) := by
      unfold mX0_makeRise; rw [if_neg cc.2, ev, em]
    have hi : ∀ i, 91 ≤ i → risesP (vw (mX4_advance u) (91 * q)) (nI m) i = vw (mX4_advance u) (91 * q) i := fun i hi => risesP_hi2 hO2 hsm hh hi
    have h3 := h2.P hq hi (rises_HC hc2 hsm hh) (risesP_lv2 l2 hO2 hsm)
    rw [if_pos cc, e2, wN_y hw, if_neg g3, er]
    have ev2 : (TS.sgd (adv B L t) 1).va = nI m := em
    rw [ev2]
    exact rr_t (((Fx_A q u).tr (Fx_pv hi)).tr (Fx_A q _)) g3 (((h3.gd 1).gd 1).A hq)
  · have e2 : wC2 R (adv B L t) = TS.sgd (adv B L t) 0 := by unfold wC2; rw [bi_f d]
    have nc : ¬ (numB (mX4_advance u) (vw (mX4_advance u) (91 * q) 1) ∧ ¬ se (vw (mX4_advance u) (91 * q)) (NN ((mX4_advance u).1 285)) 2 = -1) := fun z => by
      obtain ⟨z1, z2⟩ := (num_iff h2.1 _).mp z.1
      obtain ⟨ev, m, hm, em⟩ := va_eq h2.1 z1
      have hs := (st_m' hO2 hm em).mp z2
      have hsm := vi_lt ((isSt_vi hO2).mp hs)
      refine d ⟨z1, (st_lv l2 _).mp hs, fun y => z.2 ?_⟩
      rw [ev]
      rw [← l2.2.2.2.1 _ hsm 2 (by decide)] at y
      exact (hc2.1.b hsm).neg.mp y
    rw [if_neg nc, e2, wN_n (fun z => z.1 rfl)]
    exact rr_f (Fx_A q u) rfl (be_eq h2.1)
theorem ost_oneAdd (R : Nat → Int32) (k p t w : Int32) : ost (oneAdd R k p t (-1)) (NN (R 2)) 3 w = oneAdd R k p t w := by
  funext i
  unfold oneAdd
  simp only [ost, upd]
  by_cases z : i = 21 + 7 * NN (R 2) + 3
  · rw [if_pos z, if_neg (by omega), if_neg (by omega), if_neg (by omega), if_neg (by omega), if_pos z]
  · rw [if_neg z, if_neg z]
    by_cases y : i = 2
    · rw [if_pos y, if_pos y]
    · rw [if_neg y, if_neg y, if_neg z]
theorem oneAdd_HC {R : Nat → Int32} {k p t : Int32} (hc : HC R) (hK : NN (R 2) < 10) (hk : kO k) : HC (oneAdd R k p t (-1)) := by
  have hO := hc.1.1
  obtain ⟨hH, tt, h1, hC⟩ := hc
  exact ⟨oneAdd_Hv hH hK hk (Or.inl rfl), tt, h1, oneAdd_Cv hC hO hK⟩
theorem oneAdd_1 (R : Nat → Int32) (k p t w : Int32) : oneAdd R k p t w 1 = R 1 := by
  unfold oneAdd; simp only [ost, upd]
  rw [if_neg (by omega), if_neg (by omega), if_neg (by omega), if_neg (by omega), if_neg (by omega), if_neg (by omega), if_neg (by omega), if_neg (by omega)]
theorem oneAdd_2 (R : Nat → Int32) (k p t w : Int32) : oneAdd R k p t w 2 = R 2 + 1 := rfl
theorem o3_rr {B : Nat → Int32} {L q : Nat} {u : MM} {R : Nat → Int32} {t : TS} (hq : q < 3) (h : SR B L q u R t) (g : ¬ t.gd = 0) {k : Int32} (hk : kO k) (p x : Int32) (hK : ¬ 10 ≤ vw u (91 * q) 2) : RR B L q u (eO3 q k p x u) (if (mW B L 12253591 0 (R 1 - 1) (-1) t).2.gd = 0 then R else oneAdd R k p x (mW B L 12253591 0 (R 1 - 1) (-1) t).1, (mW B L 12253591 0 (R 1 - 1) (-1) t).2) := by
  have hc := h.2.2.1
  have hO := hc.1.1
  have l := h.2.2.2
  have h10 := vi_lt (vp10_of hO hK)
  have eK := hO.K.2
  have hi : ∀ i, 91 ≤ i → oneAdd (vw u (91 * q)) k p x (-1) i = vw u (91 * q) i := fun i hi => oneAdd_hi hO (Int32.not_le.mp hK) _ _ _ _ hi
  have h1 : SR B L q (mX0_addOne q k p x u) (oneAdd R k p x (-1)) t := h.P hq hi (oneAdd_HC hc h10 hk) (oneAdd_lv l hO h10 k p x (-1))
  have f1 : Fx q u (mX0_addOne q k p x u) := Fx_pv hi
  have hw := wd_iff h1.1 (show 4 < 11 by decide)
  rw [xk_4] at hw
  unfold eO3
  by_cases c : wd (mX0_addOne q k p x u) 4
  · rw [if_pos c, mW_y g (hw.mp c)]
    have h2 := h1.A hq
    have hO2 := h2.2.2.1.1.1
    have v1 : vw (mX4_advance (mX0_addOne q k p x u)) (91 * q) 1 = R 1 := by rw [h2.2.2.2.2.1, oneAdd_1]
    unfold eWish
    have cond : numB (mX4_advance (mX0_addOne q k p x u)) (vw (mX4_advance (mX0_addOne q k p x u)) (91 * q) 1) ↔ (¬ (adv B L t).gd = 0 ∧ (adv B L t).so = 2 ∧ 0 ≤ (adv B L t).va ∧ (adv B L t).va ≤ R 1 - 1) := by
      rw [num_iff h2.1]
      constructor
      · intro z
        obtain ⟨-, m, hm, em⟩ := va_eq h2.1 z.1
        have := (st_m' hO2 hm em).mp z.2
        rw [isSt, v1] at this
        exact ⟨g, z.1, this⟩
      · intro z
        obtain ⟨-, m, hm, em⟩ := va_eq h2.1 z.2.1
        exact ⟨z.2.1, (st_m' hO2 hm em).mpr (by rw [isSt, v1]; exact z.2.2)⟩
    by_cases d : numB (mX4_advance (mX0_addOne q k p x u)) (vw (mX4_advance (mX0_addOne q k p x u)) (91 * q) 1)
    · have d' := cond.mp d
      have ev := (va_eq h2.1 d'.2.1).1
      rw [if_pos d, wN_y d', ev]
      have g3 : ¬ (adv B L (TS.sgd (adv B L t) 1)).gd = 0 := ne1o
      have hsv : vp_in (adv B L t).va (NN (vw (mX4_advance (mX0_addOne q k p x u)) (91 * q) 1)) := (isSt_vi hO2).mp (by rw [isSt, v1]; exact d'.2.2)
      have e10 : NN (vw u (91 * q) 2) < 10 := h10
      have hi2 : ∀ i, 91 ≤ i → ost (vw (mX4_advance (mX0_addOne q k p x u)) (91 * q)) (NN (vw u (91 * q) 2)) 3 (adv B L t).va i = vw (mX4_advance (mX0_addOne q k p x u)) (91 * q) i := fun i hi => ost_hi e10 (by decide) hi
      obtain ⟨b1, tt, b2, b3⟩ := h2.2.2.1
      have h3 := h2.P hq hi2 ⟨ost_Hx b1 (by decide) (fun z => absurd z (by decide)) (fun z => absurd z (by decide)) (fun _ => Or.inr hsv), tt, b2, ost_Cv b3 b1.1.M.1 (by decide) (by decide)⟩ (ost_lv h2.2.2.2 b1.1.M.1 (by decide) _)
      rw [l.2.2.1, ost_oneAdd] at h3
      rw [if_neg g3, l.2.2.1]
      rw [l.2.2.1] at hi2
      exact rr_t (((f1.tr (Fx_A q _)).tr (Fx_pv hi2)).tr (Fx_A q _)) g3 ((h3.gd 1).A hq)
    · rw [if_neg d, wN_n (fun z => d (cond.mpr z))]
      exact rr_f (f1.tr (Fx_A q _)) rfl (be_eq h2.1)
  · rw [if_neg c, mW_n (Or.inr (fun z => c (hw.mpr z))), if_neg g]
    exact rr_t f1 g h1
theorem o2_rr {B : Nat → Int32} {L q : Nat} {u : MM} {R : Nat → Int32} {t : TS} (hq : q < 3) (h : SR B L q u R t) (g : ¬ t.gd = 0) {k : Int32} (hk : kO k) (p : Int32) (hK : ¬ 10 ≤ vw u (91 * q) 2) : RR B L q u (eO2 q k p u) (if (mW B L 12253591 0 (R 1 - 1) (-1) (mW B L 404749 0 99 0 t).2).2.gd = 0 then R else oneAdd R k p (mW B L 404749 0 99 0 t).1 (mW B L 12253591 0 (R 1 - 1) (-1) (mW B L 404749 0 99 0 t).2).1, (mW B L 12253591 0 (R 1 - 1) (-1) (mW B L 404749 0 99 0 t).2).2) := by
  have hw := wd_iff h.1 (show 3 < 11 by decide)
  rw [xk_3] at hw
  unfold eO2
  by_cases c : wd u 3
  · rw [if_pos c, mW_y (x := 404749) g (hw.mp c)]
    have h2 := h.A hq
    have hn := n99 h2.1 g
    have v1 : vw (mX4_advance u) (91 * q) 2 = vw u (91 * q) 2 := vwA hq (by decide)
    by_cases d : numB (mX4_advance u) 100
    · have d' := hn.mp d
      have ev := (va_eq h2.1 d'.2.1).1
      rw [if_pos d, wN_y d', ev]
      have h3 := (h2.gd 1).A hq
      have v2 : vw (mX4_advance (mX4_advance u)) (91 * q) 2 = vw u (91 * q) 2 := (vwA hq (by decide)).trans v1
      exact RR.fx ((Fx_A q u).tr (Fx_A q _)) (o3_rr hq h3 ne1o hk p _ (by rw [v2]; exact hK))
    · rw [if_neg d, wN_n (fun z => d (hn.mpr z)), mW_n (Or.inl rfl)]
      exact rr_f (Fx_A q u) rfl (be_eq h2.1)
  · rw [if_neg c, mW_n (x := 404749) (Or.inr (fun z => c (hw.mpr z)))]
    exact o3_rr hq h g hk p 0 hK
theorem kH_r (t : TS) : kH t = -1 ∨ kO (kH t) := by
  unfold kH kO
  repeat' split
  all_goals first | exact Or.inl rfl | exact Or.inr ⟨by decide, by decide⟩
theorem one_rr {B : Nat → Int32} {L q : Nat} {u : MM} {R : Nat → Int32} {t : TS} (hq : q < 3) (h : SR B L q u R t) : RR B L q u (eOne q u) (if ¬ kH t < 0 then wOne B L (kH t) R t else (R, TS.sgd t 0)) := by
  unfold eOne
  have l := h.2.2.2
  rw [knd_eq h.1]
  rcases kH_r t with e | hk
  · rw [if_pos (Or.inl e), if_neg (fun z => z (by rw [e]; decide))]
    exact rr_f (Fx.rf q u) rfl (be_eq h.1)
  · have hk0 : ¬ kH t < 0 := Int32.not_lt.mpr hk.1
    have hk1 : ¬ kH t = -1 := fun z => hk0 (by rw [z]; decide)
    rw [if_pos hk0, wOne_eq]
    by_cases c : 10 ≤ vw u (91 * q) 2
    · have e1 : wO1 B L R t = TS.sgd t 0 := by unfold wO1; rw [if_neg (by rw [← l.2.2.1]; exact Int32.not_lt.mpr c)]
      have e3 : wN B L 0 99 (TS.sgd t 0) = TS.sgd t 0 := wN_n (fun z => z.1 rfl)
      rw [if_pos (Or.inr c), e1, e3, mW_n (x := 404749) (Or.inl rfl), mW_n (Or.inl rfl)]
      exact rr_f (Fx.rf q u) rfl (be_eq h.1)
    · have e1 : wO1 B L R t = adv B L (TS.sgd t 1) := by unfold wO1; rw [if_pos (by rw [← l.2.2.1]; exact Int32.not_le.mp c)]
      rw [if_neg (fun z => z.elim hk1 c), e1]
      have h2 := (h.gd 1).A hq
      have hn : numB (mX4_advance u) 100 ↔ (¬ (adv B L (TS.sgd t 1)).gd = 0 ∧ (adv B L (TS.sgd t 1)).so = 2 ∧ 0 ≤ (adv B L (TS.sgd t 1)).va ∧ (adv B L (TS.sgd t 1)).va ≤ 99) := n99 h2.1 ne1o
      have v1 : vw (mX4_advance u) (91 * q) 2 = vw u (91 * q) 2 := vwA hq (by decide)
      by_cases d : numB (mX4_advance u) 100
      · have d' := hn.mp d
        have ev := (va_eq h2.1 d'.2.1).1
        rw [if_pos d, wN_y d', ev]
        have h3 := (h2.gd 1).A hq
        have v2 : vw (mX4_advance (mX4_advance u)) (91 * q) 2 = vw u (91 * q) 2 := (vwA hq (by decide)).trans v1
        exact RR.fx ((Fx_A q u).tr (Fx_A q _)) (o2_rr hq h3 ne1o hk _ (by rw [v2]; exact c))
      · rw [if_neg d, wN_n (fun z => d (hn.mpr z)), mW_n (x := 404749) (Or.inl rfl), mW_n (Or.inl rfl)]
        exact rr_f (Fx_A q u) rfl (be_eq h2.1)
theorem item_rr {B : Nat → Int32} {L q : Nat} {u : MM} {R : Nat → Int32} {t : TS} (hq : q < 3) (h : SR B L q u R t) (g : ¬ t.gd = 0) : RR B L q u (eItem q u) (wItem B L R t) := by
  have w0 := wd_iff h.1 (show 0 < 11 by decide)
  have w1 := wd_iff h.1 (show 1 < 11 by decide)
  rw [xk_0] at w0
  rw [xk_1] at w1
  unfold eItem wItem
  by_cases c0 : wd u 0
  · rw [if_pos c0, if_pos (w0.mp c0)]; exact seat_rr hq h g
  · rw [if_neg c0, if_neg (fun z => c0 (w0.mpr z))]
    by_cases c1 : wd u 1
    · rw [if_pos c1, if_pos (w1.mp c1)]; exact cough_rr hq h
    · rw [if_neg c1, if_neg (fun z => c1 (w1.mpr z))]; exact one_rr hq h
