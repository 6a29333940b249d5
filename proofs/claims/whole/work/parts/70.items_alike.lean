/-! ===== the class's items and the reference's ===== -/
/-- the same but for the hall q and the token -/
def Fx (q : Nat) (u u' : MM) : Prop := u'.2 = u.2 ∧ ∀ j, j < 91 * q ∨ 91 * q + 91 ≤ j → j < 282 ∨ 285 < j → u'.1 j = u.1 j
theorem Fx.rf (q : Nat) (u : MM) : Fx q u u := ⟨rfl, fun _ _ _ => rfl⟩
theorem Fx.tr {q : Nat} {u v x : MM} (h : Fx q u v) (g : Fx q v x) : Fx q u x := ⟨g.1.trans h.1, fun j a b => (g.2 j a b).trans (h.2 j a b)⟩
theorem Fx_A (q : Nat) (u : MM) : Fx q u (mX4_advance u) := ⟨rfl, fun j _ b => tx_1 u _ b⟩
theorem Fx_pv {q : Nat} {u : MM} {X : Nat → Int32} (h : ∀ i, 91 ≤ i → X i = vw u (91 * q) i) : Fx q u (pv u (91 * q) X) := by
  refine ⟨rfl, fun j a _ => ?_⟩
  rcases a with a | a
  · exact pv_lo u _ X a
  · exact pv_out h a
def SR (B : Nat → Int32) (L q : Nat) (u : MM) (R : Nat → Int32) (t : TS) : Prop := TR B L u t ∧ TX u ∧ HC (vw u (91 * q)) ∧ Lv (vw u (91 * q)) R
theorem SR.A {B : Nat → Int32} {L q : Nat} {u : MM} {R : Nat → Int32} {t : TS} (hq : q < 3) (h : SR B L q u R t) : SR B L q (mX4_advance u) R (adv B L t) := by
  have l := adv_Lv hq h.2.2.1.1.1
  exact ⟨adv_TR h.2.1 h.1.te, adv_TX h.2.1, HC_lv h.2.2.1 l, l.sy.tr h.2.2.2⟩
theorem SR.gd {B : Nat → Int32} {L q : Nat} {u : MM} {R : Nat → Int32} {t : TS} (h : SR B L q u R t) (g : Int32) : SR B L q u R (TS.sgd t g) := h
theorem bx_same {u v : MM} (h : ∀ j, 273 ≤ j → v.1 j = u.1 j) : bx v = bx u := by
  funext k; simp only [bx]; rw [h _ (by decide), h _ (by omega)]
theorem TR_same {B : Nat → Int32} {L : Nat} {u v : MM} {t : TS} (h : ∀ j, 273 ≤ j → v.1 j = u.1 j) (hT : TR B L u t) : TR B L v t := by
  unfold TR
  rw [bx_same h, h 281 (by decide), h 282 (by decide), h 283 (by decide), h 284 (by decide), h 285 (by decide)]
  exact hT
theorem SR.P {B : Nat → Int32} {L q : Nat} {u : MM} {R X Y : Nat → Int32} {t : TS} (hq : q < 3) (h : SR B L q u R t) (hi : ∀ i, 91 ≤ i → X i = vw u (91 * q) i) (hc : HC X) (l : Lv X Y) : SR B L q (pv u (91 * q) X) Y t := by
  have hs : ∀ j, 273 ≤ j → (pv u (91 * q) X).1 j = u.1 j := fun j hj => pv_out hi (by omega)
  exact ⟨TR_same hs h.1, TX_same hs h.2.1, by rw [vw_pv]; exact hc, by rw [vw_pv]; exact l⟩
/-- an item, or a part of one, done by both -/
def RR (B : Nat → Int32) (L q : Nat) (u : MM) (x : Bool × MM) (y : (Nat → Int32) × TS) : Prop := Fx q u x.2 ∧ (x.1 = true → ¬ y.2.gd = 0 ∧ SR B L q x.2 y.1 y.2) ∧ (x.1 = false → y.2.gd = 0 ∧ x.2.1 283 = y.2.be)
theorem rr_t {B : Nat → Int32} {L q : Nat} {u u' : MM} {R : Nat → Int32} {t : TS} (f : Fx q u u') (g : ¬ t.gd = 0) (h : SR B L q u' R t) : RR B L q u (true, u') (R, t) := ⟨f, fun _ => ⟨g, h⟩, fun z => by cases z⟩
theorem rr_f {B : Nat → Int32} {L q : Nat} {u u' : MM} {R : Nat → Int32} {t : TS} (f : Fx q u u') (g : t.gd = 0) (h : u'.1 283 = t.be) : RR B L q u (false, u') (R, t) := ⟨f, fun z => by (cases z), fun _ => ⟨g, h⟩⟩
theorem RR.fx {B : Nat → Int32} {L q : Nat} {u v : MM} {x : Bool × MM} {y : (Nat → Int32) × TS} (f : Fx q u v) (h : RR B L q v x y) : RR B L q u x y := ⟨f.tr h.1, h.2⟩
theorem ne1o : ¬ (1 : Int32) = 0 := by decide
-- numbers of the reference
theorem wN_y {B : Nat → Int32} {L : Nat} {l m : Int32} {t : TS} (h : ¬ t.gd = 0 ∧ t.so = 2 ∧ l ≤ t.va ∧ t.va ≤ m) : wN B L l m t = adv B L (TS.sgd t 1) := if_pos h
theorem wN_n {B : Nat → Int32} {L : Nat} {l m : Int32} {t : TS} (h : ¬ (¬ t.gd = 0 ∧ t.so = 2 ∧ l ≤ t.va ∧ t.va ≤ m)) : wN B L l m t = TS.sgd t 0 := if_neg h
theorem mW_n {B : Nat → Int32} {L : Nat} {x : Int64} {l m o : Int32} {t : TS} (h : t.gd = 0 ∨ ¬ isW t x) : mW B L x l m o t = (o, t) := if_pos h
theorem mW_y {B : Nat → Int32} {L : Nat} {x : Int64} {l m o : Int32} {t : TS} (g : ¬ t.gd = 0) (h : isW t x) : mW B L x l m o t = ((adv B L t).va, wN B L l m (adv B L t)) := if_neg (fun z => z.elim g (fun y => y h))
theorem v100 {v : Int32} {m : Nat} (hm : m ≤ 10000) (e : v = nI m) : v < 100 ↔ 0 ≤ v ∧ v ≤ 99 := by
  rw [e]
  constructor
  · intro z
    refine ⟨nI_pos' (by omega), ?_⟩
    have : ¬ 100 ≤ m := fun y => Int32.not_le.mpr z ((nI_leI (a := 100) (b := m) (by decide) (by omega)).mpr y)
    exact (nI_leI (a := m) (b := 99) (by omega) (by decide)).mpr (by omega)
  · intro z
    have := (nI_leI (a := m) (b := 99) (by omega) (by decide)).mp z.2
    exact Int32.not_le.mp (fun y => by have := (nI_leI (a := 100) (b := m) (by decide) (by omega)).mp y; omega)
theorem n99 {B : Nat → Int32} {L : Nat} {u : MM} {t : TS} (h : TR B L u t) (g : ¬ t.gd = 0) : numB u 100 ↔ (¬ t.gd = 0 ∧ t.so = 2 ∧ 0 ≤ t.va ∧ t.va ≤ 99) := by
  rw [num_iff h]
  constructor
  · intro z
    obtain ⟨-, m, hm, e⟩ := va_eq h z.1
    exact ⟨g, z.1, (v100 hm e).mp z.2⟩
  · intro z
    obtain ⟨-, m, hm, e⟩ := va_eq h z.2.1
    exact ⟨z.2.1, (v100 hm e).mpr z.2.2⟩
theorem seatAdd_HC {R : Nat → Int32} {p t : Int32} (hc : HC R) (hM : NN (R 1) < 6) (ht : in99 t) : HC (seatAdd R p t) := by
  have hO := hc.1.1
  obtain ⟨hH, tt, h1, hC⟩ := hc
  exact ⟨seatAdd_Hv hH hM, tt, h1, seatAdd_Cv hC hO hM (to99 ht)⟩
theorem SR.seat {B : Nat → Int32} {L q : Nat} {u : MM} {R : Nat → Int32} {t : TS} (hq : q < 3) (h : SR B L q u R t) {p x : Int32} (hM : ¬ 6 ≤ vw u (91 * q) 1) (hx : in99 x) : SR B L q (mX0_addSeat q p x u) (seatAdd R p x) t ∧ Fx q u (mX0_addSeat q p x u) := by
  have hO := h.2.2.1.1.1
  have h6 := vi_lt (vp6_of hO hM)
  have hi : ∀ i, 91 ≤ i → seatAdd (vw u (91 * q)) p x i = vw u (91 * q) i := fun i hi => seatAdd_hi hO (Int32.not_le.mp hM) _ _ hi
  exact ⟨h.P hq hi (seatAdd_HC h.2.2.1 h6 hx) (seatAdd_lv h.2.2.2 hO h6 p x), Fx_pv hi⟩
theorem s2_rr {B : Nat → Int32} {L q : Nat} {u : MM} {R : Nat → Int32} {t : TS} (hq : q < 3) (h : SR B L q u R t) (g : ¬ t.gd = 0) (p : Int32) (hM : ¬ 6 ≤ vw u (91 * q) 1) : RR B L q u (eS2 q p u) (if (mW B L 12532058 0 99 5 t).2.gd = 0 then R else seatAdd R p (mW B L 12532058 0 99 5 t).1, (mW B L 12532058 0 99 5 t).2) := by
  have hw := wd_iff h.1 (show 2 < 11 by decide)
  rw [xk_2] at hw
  unfold eS2
  by_cases c : wd u 2
  · have c' := hw.mp c
    rw [if_pos c, mW_y g c']
    have h2 := h.A hq
    have g2 : ¬ (adv B L t).gd = 0 := g
    have hn := n99 h2.1 g2
    have e1 : vw (mX4_advance u) (91 * q) 1 = vw u (91 * q) 1 := vwA hq (by decide)
    by_cases d : numB (mX4_advance u) 100
    · have d' := hn.mp d
      have ev := (va_eq h2.1 d'.2.1).1
      rw [if_pos d, wN_y d', ev]
      have h3 := (h2.gd 1).A hq
      have e2 : vw (mX4_advance (mX4_advance u)) (91 * q) 1 = vw u (91 * q) 1 := (vwA hq (by decide)).trans e1
      have g3 : ¬ (adv B L (TS.sgd (adv B L t) 1)).gd = 0 := ne1o
      obtain ⟨k1, k2⟩ := h3.seat hq (p := p) (by rw [e2]; exact hM) d'.2.2
      rw [if_neg g3]
      exact rr_t (((Fx_A q u).tr (Fx_A q _)).tr k2) g3 k1
    · rw [if_neg d, wN_n (fun z => d (hn.mpr z))]
      exact rr_f (Fx_A q u) rfl (be_eq h2.1)
  · rw [if_neg c, mW_n (Or.inr (fun z => c (hw.mpr z)))]
    obtain ⟨k1, k2⟩ := h.seat hq (p := p) (x := 5) hM ⟨by decide, by decide⟩
    rw [if_neg g]
    exact rr_t k2 g k1
theorem seat_rr {B : Nat → Int32} {L q : Nat} {u : MM} {R : Nat → Int32} {t : TS} (hq : q < 3) (h : SR B L q u R t) (g : ¬ t.gd = 0) : RR B L q u (eSeat q u) (wSeat B L R t) := by
  rw [wSeat_eq]
  unfold eSeat
  have l := h.2.2.2
  by_cases c : 6 ≤ vw u (91 * q) 1
  · have e1 : wT1 B L R t = TS.sgd t 0 := by unfold wT1; rw [if_neg (by rw [← l.2.1]; exact Int32.not_lt.mpr c)]
    have e2 : wT2 R (TS.sgd t 0) = TS.sgd t 0 := by
      unfold wT2; rw [bi_f (fun z => z.1 rfl)]; rfl
    have e3 : wN B L 0 99 (TS.sgd t 0) = TS.sgd t 0 := wN_n (fun z => z.1 rfl)
    rw [if_pos c, e1, e2, e3, mW_n (Or.inl rfl)]
    exact rr_f (Fx.rf q u) rfl (be_eq h.1)
  · have e1 : wT1 B L R t = adv B L (TS.sgd t 1) := by unfold wT1; rw [if_pos (by rw [← l.2.1]; exact Int32.not_le.mp c)]
    rw [if_neg c, e1]
    have h2 := (h.gd 1).A hq
    have hO2 := h2.2.2.1.1.1
    have g2 : ¬ (adv B L (TS.sgd t 1)).gd = 0 := ne1o
    have hn := n99 h2.1 g2
    have v1 : vw (mX4_advance u) (91 * q) 1 = vw u (91 * q) 1 := vwA hq (by decide)
    have hso : ∀ p, so (vw (mX4_advance u) (91 * q)) p 0 (NN (vw (mX4_advance u) (91 * q) 1)) = -1 ↔ ¬ hs R p (NN (R 1)) = true := fun p => by
      rw [so_0 hO2, ← h2.2.2.2.2.1, hs_lv h2.2.2.2 p _ (Nat.le_refl _)]
    by_cases d : (adv B L (TS.sgd t 1)).so = 2 ∧ ¬ hs R (adv B L (TS.sgd t 1)).va (NN (R 1)) = true
    · have e2 : wT2 R (adv B L (TS.sgd t 1)) = TS.sgd (adv B L (TS.sgd t 1)) 1 := by
        unfold wT2; rw [bi_t ⟨g2, d⟩]
      rw [e2]
      have ev := (va_eq h2.1 d.1).1
      have h2' := h2.gd 1
      have hn' : numB (mX4_advance u) 100 ↔ (¬ (TS.sgd (adv B L (TS.sgd t 1)) 1).gd = 0 ∧ (TS.sgd (adv B L (TS.sgd t 1)) 1).so = 2 ∧ 0 ≤ (TS.sgd (adv B L (TS.sgd t 1)) 1).va ∧ (TS.sgd (adv B L (TS.sgd t 1)) 1).va ≤ 99) := n99 h2'.1 ne1o
      by_cases e : numB (mX4_advance u) 100
      · rw [wN_y (hn'.mp e), if_pos ⟨e, (hso _).mpr (by rw [ev]; exact d.2)⟩, ev]
        have h3 := (h2'.gd 1).A hq
        have v2 : vw (mX4_advance (mX4_advance u)) (91 * q) 1 = vw u (91 * q) 1 := (vwA hq (by decide)).trans v1
        exact RR.fx ((Fx_A q u).tr (Fx_A q _)) (s2_rr hq h3 ne1o _ (by rw [v2]; exact c))
      · rw [wN_n (fun z => e (hn'.mpr z)), mW_n (Or.inl rfl), if_neg (fun z => e z.1)]
        exact rr_f (Fx_A q u) rfl (be_eq h2.1)
    · have e2 : wT2 R (adv B L (TS.sgd t 1)) = TS.sgd (adv B L (TS.sgd t 1)) 0 := by
        unfold wT2; rw [bi_f (fun z => d z.2)]
      have e3 : wN B L 0 99 (TS.sgd (adv B L (TS.sgd t 1)) 0) = TS.sgd (adv B L (TS.sgd t 1)) 0 := wN_n (fun z => z.1 rfl)
      rw [e2, e3, mW_n (Or.inl rfl)]
      have nd : ¬ (numB (mX4_advance u) 100 ∧ so (vw (mX4_advance u) (91 * q)) ((mX4_advance u).1 285) 0 (NN (vw (mX4_advance u) (91 * q) 1)) = -1) := fun z => by
        have z1 := (hn.mp z.1).2.1
        exact d ⟨z1, by rw [← (va_eq h2.1 z1).1]; exact (hso _).mp z.2⟩
      rw [if_neg nd]
      exact rr_f (Fx_A q u) rfl (be_eq h2.1)
