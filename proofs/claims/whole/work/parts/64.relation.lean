/-! ===== the class and the reference, held side by side ===== -/
def RH (u v : MM) : Prop := HC (vw u (91 * qP)) ∧ Lv (vw u (91 * qP)) (R6 v) ∧ v.1 1000 = 0
def RK (u v : MM) : Prop := u.1 280 = v.1 1007 ∧ (¬ u.1 280 = 0 → HC (vw u (91 * qK)) ∧ Lv (vw u (91 * qK)) (vw v 1500))
def RT (u v : MM) : Prop := ∃ L, L ≤ 120 ∧ u.1 281 = nI L ∧ v.1 1001 = nI L ∧ ∀ k, k < L → u.1 (300 + k) = v.1 (1320 + k) ∧ ¬ u.1 (300 + k) < 0
def RS (u v : MM) : Prop := ∀ s, s < 4 → u.1 (430 + 2 * s) = v.1 (1440 + s) ∧ (∃ n, n ≤ 40 ∧ u.1 (430 + 2 * s + 1) = nI n ∧ v.1 (1444 + s) = nI n) ∧ ∀ j, j < 40 → u.2 (40 * s + j) = v.2 (200 + (40 * s + j))
def RF (u v : MM) : Prop := ∀ k, k < 7 → u.1 (440 + k) = v.1 (1300 + k)
def Rl (u v : MM) : Prop := RH u v ∧ RK u v ∧ RT u v ∧ RS u v ∧ RF u v
abbrev eqI (u v : MM) (a b : Nat) : Prop := ∀ j, a ≤ j → j < b → v.1 j = u.1 j
abbrev eqJ (u v : MM) (a b : Nat) : Prop := ∀ j, a ≤ j → j < b → v.2 j = u.2 j
theorem RH_cg {u v u' v' : MM} (h : RH u v) (a : eqI u u' 0 91) (b : eqI v v' 1100 1191) (c : v'.1 1000 = v.1 1000) : RH u' v' := by
  obtain ⟨h1, h2, h3⟩ := h
  have l1 : Lv (vw u (91 * qP)) (vw u' (91 * qP)) := Lv_ofO h1.1.1 (fun i hi => (a (91 * qP + i) (by omega) (by unfold qP; omega)).symm)
  have l2 : Lv (R6 v) (R6 v') := Lv_ofO (h2.Ok h1.1.1) (fun i hi => (b (1100 + i) (by omega) (by omega)).symm)
  exact ⟨HC_lv h1 l1, l1.sy.tr (h2.tr l2), c.trans h3⟩
theorem RK_cg {u v u' v' : MM} (h : RK u v) (a : eqI u u' 182 281) (b : eqI v v' 1500 1591) (c : v'.1 1007 = v.1 1007) : RK u' v' := by
  obtain ⟨h1, h2⟩ := h
  have e : u'.1 280 = u.1 280 := a 280 (by decide) (by decide)
  refine ⟨by rw [e, c]; exact h1, fun z => ?_⟩
  rw [e] at z
  obtain ⟨k1, k2⟩ := h2 z
  have l1 : Lv (vw u (91 * qK)) (vw u' (91 * qK)) := Lv_ofO k1.1.1 (fun i hi => (a (91 * qK + i) (by unfold qK; omega) (by unfold qK; omega)).symm)
  have l2 : Lv (vw v 1500) (vw v' 1500) := Lv_ofO (k2.Ok k1.1.1) (fun i hi => (b (1500 + i) (by omega) (by omega)).symm)
  exact ⟨HC_lv k1 l1, l1.sy.tr (k2.tr l2)⟩
theorem RT_cg {u v u' v' : MM} (h : RT u v) (a : u'.1 281 = u.1 281) (a2 : eqI u u' 300 420) (b : v'.1 1001 = v.1 1001) (b2 : eqI v v' 1320 1440) : RT u' v' := by
  obtain ⟨L, h1, h2, h3, h4⟩ := h
  refine ⟨L, h1, a.trans h2, b.trans h3, fun k hk => ?_⟩
  rw [a2 _ (by omega) (by omega), b2 _ (by omega) (by omega)]
  exact h4 k hk
theorem RS_cg {u v u' v' : MM} (h : RS u v) (a : eqI u u' 430 438) (a2 : eqJ u u' 0 160) (b : eqI v v' 1440 1448) (b2 : eqJ v v' 200 360) : RS u' v' := by
  intro s hs
  rw [a _ (by omega) (by omega), a _ (by omega) (by omega), b _ (by omega) (by omega), b _ (by omega) (by omega)]
  refine ⟨(h s hs).1, (h s hs).2.1, fun j hj => ?_⟩
  rw [a2 _ (by omega) (by omega), b2 _ (by omega) (by omega)]
  exact (h s hs).2.2 j hj
theorem RF_cg {u v u' v' : MM} (h : RF u v) (a : eqI u u' 440 447) (b : eqI v v' 1300 1307) : RF u' v' := by
  intro k hk
  rw [a _ (by omega) (by omega), b _ (by omega) (by omega)]
  exact h k hk
theorem Rl_cg {u v u' v' : MM} (h : Rl u v) (a : ∀ j, j < 91 ∨ 182 ≤ j ∧ j < 1000 → u'.1 j = u.1 j) (a2 : eqJ u u' 0 160) (b : ∀ j, 1000 ≤ j → j < 1191 ∨ 1282 ≤ j → v'.1 j = v.1 j) (b2 : eqJ v v' 200 360) : Rl u' v' :=
  ⟨RH_cg h.1 (fun j _ _ => a j (by omega)) (fun j _ _ => b j (by omega) (by omega)) (b _ (by decide) (by decide)),
   RK_cg h.2.1 (fun j _ _ => a j (by omega)) (fun j _ _ => b j (by omega) (by omega)) (b _ (by decide) (by decide)),
   RT_cg h.2.2.1 (a _ (by decide)) (fun j _ _ => a j (by omega)) (b _ (by decide) (by decide)) (fun j _ _ => b j (by omega) (by omega)),
   RS_cg h.2.2.2.1 (fun j _ _ => a j (by omega)) a2 (fun j _ _ => b j (by omega) (by omega)) b2,
   RF_cg h.2.2.2.2 (fun j _ _ => a j (by omega)) (fun j _ _ => b j (by omega) (by omega))⟩
/-- the class leaves the reference's numbers as they are, and the other way round -/
def F5 (u u' : MM) : Prop := (∀ j, 1000 ≤ j → u'.1 j = u.1 j) ∧ ∀ j, 200 ≤ j → u'.2 j = u.2 j
def F6 (v v' : MM) : Prop := (∀ j, j < 1000 → v'.1 j = v.1 j) ∧ ∀ j, j < 200 → v'.2 j = v.2 j
theorem F5.rf (u : MM) : F5 u u := ⟨fun _ _ => rfl, fun _ _ => rfl⟩
theorem F6.rf (u : MM) : F6 u u := ⟨fun _ _ => rfl, fun _ _ => rfl⟩
theorem F5.tr {u v x : MM} (h : F5 u v) (g : F5 v x) : F5 u x := ⟨fun j hj => (g.1 j hj).trans (h.1 j hj), fun j hj => (g.2 j hj).trans (h.2 j hj)⟩
theorem F6.tr {u v x : MM} (h : F6 u v) (g : F6 v x) : F6 u x := ⟨fun j hj => (g.1 j hj).trans (h.1 j hj), fun j hj => (g.2 j hj).trans (h.2 j hj)⟩
theorem Rl.f5 {u v v' : MM} (h : Rl u v) (f : F5 v v') : Rl u v' := Rl_cg h (fun _ _ => rfl) (fun _ _ _ => rfl) (fun j hj _ => f.1 j hj) (fun j hj _ => f.2 j hj)
theorem Rl.f6 {u v u' : MM} (h : Rl u v) (f : F6 u u') : Rl u' v := Rl_cg h (fun j hj => f.1 j (by omega)) (fun j _ hj => f.2 j (by omega)) (fun _ _ _ => rfl) (fun _ _ _ => rfl)
theorem Rl.tsc {u v u' v' : MM} (h : Rl u v) (a : Tsc u u') (b : Sc v v') : Rl u' v' :=
  Rl_cg h (fun j hj => a.2 j (by omega)) (fun j _ _ => by rw [a.1]) (fun j _ hj => b.2 j hj) (fun j _ _ => by rw [b.1])
theorem Tsc.f5 {u u' : MM} (a : Tsc u u') : F5 u u' := ⟨fun j hj => a.2 j (by omega), fun j _ => by rw [a.1]⟩
theorem Sc.f6 {u u' : MM} (a : Sc u u') : F6 u u' := ⟨fun j hj => a.2 j (by omega), fun j _ => by rw [a.1]⟩
theorem uI_o {u : MM} {i j : Nat} {x : Int32} (h : j ≠ i) : (uI u i x).1 j = u.1 j := if_neg h
theorem uI_s {u : MM} {i : Nat} {x : Int32} : (uI u i x).1 i = x := if_pos rfl
theorem Rl.fnd {u v : MM} (h : Rl u v) {k : Nat} (hk : k < 7) : Rl (fndX k u) (fnd6 k v) := by
  obtain ⟨h1, h2, h3, h4, h5⟩ := h
  unfold fndX fnd6
  refine ⟨RH_cg h1 (fun j _ _ => uI_o (by omega)) (fun j _ _ => uI_o (by omega)) (uI_o (by omega)), RK_cg h2 (fun j _ _ => uI_o (by omega)) (fun j _ _ => uI_o (by omega)) (uI_o (by omega)), RT_cg h3 (uI_o (by omega)) (fun j _ _ => uI_o (by omega)) (uI_o (by omega)) (fun j _ _ => uI_o (by omega)), RS_cg h4 (fun j _ _ => uI_o (by omega)) (fun _ _ _ => rfl) (fun j _ _ => uI_o (by omega)) (fun _ _ _ => rfl), fun i hi => ?_⟩
  by_cases e : i = k
  · subst e; rw [uI_s, uI_s, h5 i hi]
  · rw [uI_o (by omega), uI_o (by omega)]; exact h5 i hi
theorem fnd_f5 {u : MM} {k : Nat} (hk : k < 7) : F5 u (fndX k u) := ⟨fun j hj => uI_o (by omega), fun _ _ => rfl⟩
theorem fnd_f6 {u : MM} {k : Nat} : F6 u (fnd6 k u) := ⟨fun j hj => uI_o (by omega), fun _ _ => rfl⟩
theorem pvP {u : MM} {X : Nat → Int32} (h : ∀ i, 91 ≤ i → X i = vw u (91 * qP) i) {j : Nat} (hj : 91 ≤ j) : (pv u (91 * qP) X).1 j = u.1 j := pv_out h (by unfold qP; omega)
theorem pvR {u : MM} {X : Nat → Int32} (h : ∀ i, 91 ≤ i → X i = vw u 1100 i) {j : Nat} (hj : j < 1100 ∨ 1191 ≤ j) : (pv u 1100 X).1 j = u.1 j := by
  rcases hj with hj | hj
  · exact pv_lo u _ X hj
  · simp only [pv]; rw [if_pos (by omega), h _ (by omega)]; show u.1 (1100 + (j - 1100)) = _; rw [show 1100 + (j - 1100) = j by omega]
theorem Rl.hall {u v : MM} {X Y : Nat → Int32} (h : Rl u v) (hc : HC X) (l : Lv X Y) (a : ∀ i, 91 ≤ i → X i = vw u (91 * qP) i) (b : ∀ i, 91 ≤ i → Y i = vw v 1100 i) : Rl (pv u (91 * qP) X) (pv v 1100 Y) := by
  obtain ⟨h1, h2, h3, h4, h5⟩ := h
  refine ⟨⟨by rw [vw_pv]; exact hc, by rw [vw_pv, R6, vw_pv]; exact l, (pvR b (by decide)).trans h1.2.2⟩, RK_cg h2 (fun j _ _ => pvP a (by omega)) (fun j _ _ => pvR b (by omega)) (pvR b (by decide)), RT_cg h3 (pvP a (by decide)) (fun j _ _ => pvP a (by omega)) (pvR b (by decide)) (fun j _ _ => pvR b (by omega)), RS_cg h4 (fun j _ _ => pvP a (by omega)) (fun _ _ _ => rfl) (fun j _ _ => pvR b (by omega)) (fun _ _ _ => rfl), RF_cg h5 (fun j _ _ => pvP a (by omega)) (fun j _ _ => pvR b (by omega))⟩
/-- one act done by both -/
def Act {α : Type} (r r' : α) (u u' v v' : MM) : Prop := r = r' ∧ Rl u' v' ∧ F5 u u' ∧ F6 v v'
theorem st_o {u v : MM} {o o' : OP} (h : Rl u v) (e : OE (vw u (91 * qP)) (R6 v) o o') : Act (an o) (an o') u (moX o u) v (mo6 o' v) := by
  rcases o with k | ⟨a, X⟩ <;> rcases o' with j | ⟨b, Y⟩
  · obtain ⟨rfl, hk⟩ := e
    exact ⟨rfl, h.fnd hk, fnd_f5 hk, fnd_f6⟩
  · exact e.elim
  · exact e.elim
  · obtain ⟨rfl, l, hc, ha, hb⟩ := e
    exact ⟨rfl, h.hall hc l ha hb, ⟨fun j hj => pvP ha (by omega), fun _ _ => rfl⟩, ⟨fun j hj => pvR hb (by omega), fun _ _ => rfl⟩⟩
theorem st_l {u v x y : MM} {o o' : OP} (h : Rl u v) (e : OE (vw u (91 * qP)) (R6 v) o o') (hx : ¬ o = .inl 0 → Tsc u x) (hy : ¬ o' = .inl 0 → Sc v y) : Act (an o) (an o') u (mlX o u x) v (ml o' v y) := by
  rcases o with k | ⟨a, X⟩ <;> rcases o' with j | ⟨b, Y⟩
  · obtain ⟨rfl, hk⟩ := e
    by_cases z : k = 3
    · subst z
      have hx := hx (fun z => by cases z)
      have hy := hy (fun z => by cases z)
      exact ⟨rfl, (h.tsc hx hy).fnd hk, hx.f5.tr (fnd_f5 hk), hy.f6.tr fnd_f6⟩
    · have e1 : mlX (.inl k) u x = fndX k u := by simp only [mlX]; rw [if_neg z]
      have e2 : ml (.inl k) v y = fnd6 k v := by simp only [ml]; rw [if_neg z]
      rw [e1, e2]
      exact ⟨rfl, h.fnd hk, fnd_f5 hk, fnd_f6⟩
  · exact e.elim
  · exact e.elim
  · obtain ⟨rfl, -⟩ := e
    have hx := hx (fun z => by cases z)
    have hy := hy (fun z => by cases z)
    exact ⟨rfl, h.tsc hx hy, hx.f5, hy.f6⟩
theorem st_r {u v x y : MM} {o o' : OP} (h : Rl u v) (e : OE (vw u (91 * qP)) (R6 v) o o') (hx : ¬ o = .inl 0 → Tsc u x) (hy : ¬ o' = .inl 0 → Sc v y) : Act (an o) (an o') u (moR o u x) v (ml o' v y) := by
  rcases o with k | ⟨a, X⟩ <;> rcases o' with j | ⟨b, Y⟩
  · obtain ⟨rfl, hk⟩ := e
    by_cases z : k = 3
    · subst z
      have hy := hy (fun z => by cases z)
      exact ⟨rfl, (h.tsc (Tsc.rf u) hy).fnd hk, fnd_f5 hk, hy.f6.tr fnd_f6⟩
    · have e2 : ml (.inl k) v y = fnd6 k v := by simp only [ml]; rw [if_neg z]
      rw [e2]
      exact ⟨rfl, h.fnd hk, fnd_f5 hk, fnd_f6⟩
  · exact e.elim
  · exact e.elim
  · obtain ⟨rfl, -⟩ := e
    have hx := hx (fun z => by cases z)
    have hy := hy (fun z => by cases z)
    exact ⟨rfl, h.tsc hx hy, hx.f5, hy.f6⟩
theorem st_m {u v y : MM} {o o' : OP} (h : Rl u v) (e : OE (vw u (91 * qP)) (R6 v) o o') (hs : ∀ a X, o = .inr (a, X) → X = vw u (91 * qP)) (hy : ¬ o' = .inl 0 → Sc v y) : Act (an o) (an o') u (moX o u) v (ml o' v y) := by
  have := st_r (x := u) h e (fun _ => Tsc.rf u) hy
  rwa [show moX o u = moR o u u by
    rcases o with k | ⟨a, X⟩
    · rfl
    · show pv u (91 * qP) X = u
      rw [hs a X rfl, pv_vw]]
theorem st_n {u v x : MM} {o o' : OP} (h : Rl u v) (e : OE (vw u (91 * qP)) (R6 v) o o') (hs : ∀ b Y, o' = .inr (b, Y) → Y = R6 v) (hx : ¬ o = .inl 0 → Tsc u x) : Act (an o) (an o') u (mlX o u x) v (mo6 o' v) := by
  have := st_l (y := v) h e hx (fun _ => Sc.rf v)
  rwa [show mo6 o' v = ml o' v v by
    rcases o' with k | ⟨a, X⟩
    · simp only [mo6, ml]
      by_cases z : k = 3
      · rw [if_pos z, z]
      · rw [if_neg z]
    · show pv v 1100 X = v
      rw [hs a X rfl]; exact pv_vw v 1100]
/-- both do the act, the class first, then the reference -/
theorem two {α : Type} {p5 p6 : MM → Prop} {r5 r6 : MM → α} {m5 m6 : MM → MM} (h : ∀ u v, Rl u v → p5 u ∧ p6 v ∧ Act (r5 u) (r6 v) u (m5 u) v (m6 v)) {u : MM} (hu : Rl u u) : p5 u ∧ p6 (m5 u) ∧ r5 u = r6 (m5 u) ∧ Rl (m6 (m5 u)) (m6 (m5 u)) := by
  obtain ⟨h1, -, -, -, f5, -⟩ := h u u hu
  obtain ⟨-, k2, k3, k4, -, k6⟩ := h u (m5 u) (hu.f5 f5)
  exact ⟨h1, k2, k3, k4.f6 k6⟩
theorem Rl.i6 {u v : MM} (h : Rl u v) : I6 v := ⟨h.1.2.2, h.1.2.1.Ok h.1.1.1.1⟩
theorem Rl.ix {u v : MM} (h : Rl u v) : IX u := h.1.1
theorem Rl.lv {u v : MM} (h : Rl u v) : Lv (vw u (91 * qP)) (R6 v) := h.1.2.1
