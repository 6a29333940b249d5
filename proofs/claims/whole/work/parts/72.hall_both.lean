/-! ===== a hall off the tape, read by both ===== -/
theorem itms_s (B : Nat → Int32) (L f n : Nat) (R : Nat → Int32) (t : TS) : itms B L (f + 1) n R t = if ¬ (wItem B L R (adv B L t)).2.gd = 0 ∧ (wItem B L R (adv B L t)).2.so = 3 ∧ (wItem B L R (adv B L t)).2.va = 59 then itms B L f (n + 1) (wItem B L R (adv B L t)).1 (wItem B L R (adv B L t)).2 else (n + 1, (wItem B L R (adv B L t)).1, (wItem B L R (adv B L t)).2) := rfl
def gdE (t : TS) : Prop := ¬ t.gd = 0 ∧ t.so = 0
/-- what both answer at the end, and what the hall is then -/
def LR (q : Nat) (u : MM) (x : Int32 × MM) (y : Nat × (Nat → Int32) × TS) : Prop := Fx q u x.2 ∧ (gdE y.2.2 → x.1 = nI y.1 ∧ HC (vw x.2 (91 * q)) ∧ Lv (vw x.2 (91 * q)) y.2.1) ∧ (¬ gdE y.2.2 → x.1 = -1 - y.2.2.be) ∧ y.1 ≤ 200 ∧ ∃ s, s ≤ 120 ∧ y.2.2.be = nI s
theorem LR.fx {q : Nat} {u v : MM} {x : Int32 × MM} {y : Nat × (Nat → Int32) × TS} (f : Fx q u v) (h : LR q v x y) : LR q u x y := ⟨f.tr h.1, h.2⟩
theorem TR.be {B : Nat → Int32} {L : Nat} {u : MM} {t : TS} (h : TR B L u t) : ∃ s e, s ≤ e ∧ e ≤ L ∧ t.be = nI s ∧ t.en = nI e ∧ (t.so = 3 → s < e) := by
  obtain ⟨h1, h2, h3, h4, s, e, h5, h6, h7, h8, h9, h10, h11, h12, -, -, -, h16⟩ := h
  exact ⟨s, e, h5, h6, h9, h10, fun z => h16 (by rw [← h12]; exact z)⟩
theorem loop_lr {B : Nat → Int32} {L q : Nat} (hq : q < 3) (hL : L ≤ 120) (hB : ∀ k, L ≤ k → B k = -1) : ∀ (f f' n e : Nat) (u : MM) (R : Nat → Int32) (t : TS), SR B L q u R (adv B L t) → ¬ t.gd = 0 → lat L e (adv B L t) → L ≤ e + f → L + 1 ≤ e + f' → n ≤ e → LR q u (eLoop q f (n + 1) u) (itms B L f' n R t) := by
  intro f
  induction f with
  | zero =>
    intro f' n e u R t h g hl h1 h2 h3
    obtain ⟨s, e', k1, k2, k3, k4, k5⟩ := h.1.be
    obtain ⟨b, e2, l1, l2, l3, l4, l5, l6⟩ := hl
    cases f' with
    | zero => omega
    | succ f' =>
      have es : s = b := by have := congrArg NN (k3.symm.trans l4); rw [NN_nI (by omega), NN_nI (by omega)] at this; exact this
      have hs : s = L := by omega
      obtain ⟨-, -, -, -, s', e3, m1, m2, m3, m4, m5, m6, m7, m8, m9, m10, m11, -⟩ := h.1
      have es' : s' = s := by have := congrArg NN (m5.symm.trans k3); rw [NN_nI (by omega), NN_nI (by omega)] at this; exact this
      have so0 : (adv B L t).so = 0 := by rw [m8, es', hs, hB L (Nat.le_refl _)]; decide
      have nw : ∀ x, ¬ isW (adv B L t) x := fun x z => by rw [isW, so0] at z; exact absurd z.1 (by decide)
      have ek : kH (adv B L t) = -1 := by
        unfold kH
        rw [if_neg (nw _), if_neg (nw _), if_neg (nw _), if_neg (nw _), if_neg (nw _), if_neg (nw _)]
      have ei : wItem B L R (adv B L t) = (R, TS.sgd (adv B L t) 0) := by
        unfold wItem
        rw [if_neg (nw _), if_neg (nw _), if_neg (fun z => z (by rw [ek]; decide))]
      rw [itms_s, ei, if_neg (fun z => z.1 rfl)]
      refine ⟨Fx.rf q u, fun z => absurd rfl z.1, fun _ => ?_, by show n + 1 ≤ 200; omega, s, by omega, k3⟩
      show -1 - u.1 283 = _
      rw [be_eq h.1]; rfl
  | succ f ih =>
    intro f' n e u R t h g hl h1 h2 h3
    cases f' with
    | zero =>
      obtain ⟨b, e2, l1, l2, l3, -⟩ := hl
      omega
    | succ f' =>
      have hr := item_rr hq h g
      have hK := wItem_kp hB hL (h.2.2.2.Ok h.2.2.1.1.1) hl
      rw [itms_s]
      unfold eLoop
      generalize wItem B L R (adv B L t) = y at hr hK ⊢
      generalize eItem q u = x at hr ⊢
      obtain ⟨b, u'⟩ := x
      obtain ⟨R', t'⟩ := y
      obtain ⟨fx, ht, hf⟩ := hr
      obtain ⟨b2, e2, l1, l2, l3, l4, l5, l6⟩ := hK.2.2
      cases b with
      | false =>
        obtain ⟨g0, e0⟩ := hf rfl
        rw [if_neg (fun z => by cases z.1), if_neg (fun z => by cases z.1), if_neg (fun z => z.1 g0)]
        exact ⟨fx, fun z => absurd g0 z.1, fun _ => by show -1 - u'.1 283 = _; rw [e0], by show n + 1 ≤ 200; omega, b2, by omega, l4⟩
      | true =>
        obtain ⟨g1, h'⟩ := ht rfl
        by_cases c0 : u'.1 282 = 0
        · have c0' := (so_0' h'.1).mp c0
          rw [if_pos ⟨rfl, c0⟩, if_neg (fun z => by have := z.2.1; rw [c0'] at this; exact absurd this (by decide))]
          exact ⟨fx, fun _ => ⟨rfl, h'.2.2⟩, fun z => absurd ⟨g1, c0'⟩ z, by show n + 1 ≤ 200; omega, b2, by omega, l4⟩
        · by_cases c3 : u'.1 282 = 3
          · have c3' := (so_3' h'.1).mp c3
            rw [if_neg (fun z => c0 z.2), if_pos ⟨rfl, c3⟩, if_pos ⟨g1, c3'⟩]
            have hlt := l6 c3'.1
            exact LR.fx (fx.tr (Fx_A q u')) (ih f' (n + 1) e2 (mX4_advance u') R' t' (h'.A hq) g1 (adv_lat hB hL ⟨e2, Nat.le_refl _, l3, l5⟩) (by omega) (by omega) (by omega))
          · rw [if_neg (fun z => c0 z.2), if_neg (fun z => c3 z.2), if_neg (fun z => c3 ((so_3' h'.1).mpr z.2))]
            exact ⟨fx, fun z => absurd ((so_0' h'.1).mpr z.2) c0, fun _ => by show -1 - u'.1 283 = _; rw [be_eq h'.1], by show n + 1 ≤ 200; omega, b2, by omega, l4⟩
