/-! ===== both do the same: the tape, the sheets, the images ===== -/
theorem st_f {o : Option Nat} {u v x y : MM} (h : Rl u v) (lt : ∀ k, o = some k → k < 7) (ok : o = none → Rl x y ∧ F5 u x ∧ F6 v y) : Rl (nfX o u x) (nfM o v y) ∧ F5 u (nfX o u x) ∧ F6 v (nfM o v y) := by
  cases o with
  | none => exact ok rfl
  | some k => exact ⟨h.fnd (lt k rfl), fnd_f5 (lt k rfl), fnd_f6⟩
theorem ifS {p : Prop} [Decidable p] {a : Nat} {o : Option Nat} (ha : a < 7) (h : ∀ k, o = some k → k < 7) : ∀ k, (if p then some a else o) = some k → k < 7 := by
  intro k e
  by_cases c : p
  · rw [if_pos c] at e; cases e; exact ha
  · rw [if_neg c] at e; exact h k e
theorem ifN : ∀ k, (none : Option Nat) = some k → k < 7 := fun k e => by cases e
theorem i_none {p : Prop} [Decidable p] {a : Nat} {o : Option Nat} (h : (if p then some a else o) = none) : ¬ p ∧ o = none := by
  by_cases c : p
  · rw [if_pos c] at h; cases h
  · rw [if_neg c] at h; exact ⟨c, h⟩
theorem fd_pos (b k : Int32) : ¬ fdB b k < 0 := by
  intro z
  rw [Int32.lt_iff_toInt_lt] at z
  have h : (fdB b k).toBitVec.msb = false := by
    unfold fdB
    rw [Int32.toBitVec_and, BitVec.msb_and]
    exact Bool.and_eq_false_iff.mpr (Or.inr (by decide))
  have := BitVec.toInt_eq_msb_cond (fdB b k).toBitVec
  rw [h] at this
  have e : (fdB b k).toInt = (fdB b k).toBitVec.toInt := rfl
  rw [e, this] at z
  simp at z
  omega
theorem ap_Rl {u v : MM} {b : Int32} {L : Nat} (h : Rl u v) (e : u.1 281 = nI L) (hL : L < 120) (hb : ¬ b < 0) : Rl (mX4_append b u) (uI (uI v (1320 + NN (v.1 1001)) b) 1001 (v.1 1001 + 1)) ∧ F5 u (mX4_append b u) ∧ F6 v (uI (uI v (1320 + NN (v.1 1001)) b) 1001 (v.1 1001 + 1)) ∧ (mX4_append b u).1 281 = nI (L + 1) := by
  have e2 : v.1 1001 = nI L := by rw [← h.tp]; exact e
  have hN : NN (nI L) = L := NN_nI (by omega)
  unfold mX4_append
  rw [e, e2, hN, nI_1]
  obtain ⟨h1, h2, h3, h4, h5⟩ := h
  have o1 : ∀ j, j ≠ 281 → j ≠ 300 + L → (uI (uI u (300 + L) b) 281 (nI (L + 1))).1 j = u.1 j := fun j a c => by rw [uI_o a, uI_o c]
  have o2 : ∀ j, j ≠ 1001 → j ≠ 1320 + L → (uI (uI v (1320 + L) b) 1001 (nI (L + 1))).1 j = v.1 j := fun j a c => by rw [uI_o a, uI_o c]
  refine ⟨⟨RH_cg h1 (fun j _ _ => o1 j (by omega) (by omega)) (fun j _ _ => o2 j (by omega) (by omega)) (o2 _ (by omega) (by omega)), RK_cg h2 (fun j _ _ => o1 j (by omega) (by omega)) (fun j _ _ => o2 j (by omega) (by omega)) (o2 _ (by omega) (by omega)), ⟨L + 1, by omega, uI_s, uI_s, fun k hk => ?_⟩, RS_cg h4 (fun j _ _ => o1 j (by omega) (by omega)) (fun _ _ _ => rfl) (fun j _ _ => o2 j (by omega) (by omega)) (fun _ _ _ => rfl), RF_cg h5 (fun j _ _ => o1 j (by omega) (by omega)) (fun j _ _ => o2 j (by omega) (by omega))⟩, ⟨fun j hj => o1 j (by omega) (by omega), fun _ _ => rfl⟩, ⟨fun j hj => o2 j (by omega) (by omega), fun _ _ => rfl⟩, uI_s⟩
  rw [uI_o (show 300 + k ≠ 281 by omega), uI_o (show 1320 + k ≠ 1001 by omega)]
  by_cases z : k = L
  · subst z; rw [uI_s, uI_s]; exact ⟨rfl, hb⟩
  · rw [uI_o (by omega), uI_o (by omega)]
    obtain ⟨L', hL', e1', e2', k4⟩ := h3
    have : L' = L := by rw [e] at e1'; have := congrArg NN e1'; rw [NN_nI (by omega), NN_nI (by omega)] at this; exact this.symm
    subst this
    exact k4 k (by omega)
theorem fd_Rl (b : Int32) : ∀ (k L : Nat) (u v : MM), Rl u v → u.1 281 = nI L → L + k ≤ 120 → Rl (fdX b k u) (fdM b k v) ∧ F5 u (fdX b k u) ∧ F6 v (fdM b k v)
  | 0, _, u, v, h, _, _ => ⟨h, F5.rf u, F6.rf v⟩
  | k + 1, L, u, v, h, e, hL => by
    obtain ⟨a1, a2, a3, a4⟩ := ap_Rl (b := fdB b (nI k)) h e (by omega) (fd_pos _ _)
    obtain ⟨b1, b2, b3⟩ := fd_Rl b k (L + 1) _ _ a1 a4 (by omega)
    exact ⟨b1, a2.tr b2, a3.tr b3⟩
theorem go_feed (b n : Int32) {u v : MM} (h : Rl u v) : pX5_feed b n u ∧ pX6_feed b n v ∧ Act (rX5_feed b n u) (rX6_feed b n v) u (mX5_feed b n u) v (mX6_feed b n v) := by
  obtain ⟨L, hL, e1, e2, -⟩ := h.2.2.1
  refine ⟨⟨L, hL, e1⟩, ⟨L, hL, e2⟩, ?_⟩
  unfold rX5_feed rX6_feed mX5_feed mX6_feed Act
  rw [e1, e2]
  refine ⟨rfl, st_f h (ifS (by decide) (ifS (by decide) ifN)) (fun z => ?_)⟩
  have z1 := i_none z
  have z2 := i_none z1.2
  have z3 := Classical.not_not.mp z1.1
  obtain ⟨j, hj, rfl⟩ := v0_le (m := 4) (Int32.le_trans (by decide) z3.1) z3.2 rfl
  rw [NN_nI (by omega)]
  refine fd_Rl b j L u v h e1 ?_
  have := z2.1
  rw [nI_add] at this
  exact (nI_leI (a := L + j) (b := 120) (by omega) (by decide)).mp (Int32.not_lt.mp this)
theorem go_wipe {u v : MM} (h : Rl u v) : pX5_wipe u ∧ pX6_wipe v ∧ Act (rX5_wipe u) (rX6_wipe v) u (mX5_wipe u) v (mX6_wipe v) := by
  refine ⟨trivial, trivial, h.tp, ?_, ⟨fun j hj => uI_o (by omega), fun _ _ => rfl⟩, ⟨fun j hj => uI_o (by omega), fun _ _ => rfl⟩⟩
  obtain ⟨h1, h2, h3, h4, h5⟩ := h
  unfold mX5_wipe mX6_wipe
  exact ⟨RH_cg h1 (fun j _ _ => uI_o (by omega)) (fun j _ _ => uI_o (by omega)) (uI_o (by omega)), RK_cg h2 (fun j _ _ => uI_o (by omega)) (fun j _ _ => uI_o (by omega)) (uI_o (by omega)), ⟨0, by decide, uI_s, uI_s, fun k hk => absurd hk (by omega)⟩, RS_cg h4 (fun j _ _ => uI_o (by omega)) (fun _ _ _ => rfl) (fun j _ _ => uI_o (by omega)) (fun _ _ _ => rfl), RF_cg h5 (fun j _ _ => uI_o (by omega)) (fun j _ _ => uI_o (by omega))⟩
theorem sh4 {s : Int32} (h : isSh s) : NN s < 4 := by
  obtain ⟨j, hj, rfl⟩ := v0_le (m := 3) h.1 h.2 rfl
  rw [NN_nI (by omega)]; omega
/-- all but the sheets -/
theorem Rl.sheets {u v x y : MM} (h : Rl u v) (a : ∀ j, j < 430 ∨ 438 ≤ j → x.1 j = u.1 j) (b : ∀ j, j < 1191 ∨ 1282 ≤ j ∧ j < 1440 ∨ 1448 ≤ j → y.1 j = v.1 j) (hs : RS x y) : Rl x y := by
  obtain ⟨h1, h2, h3, h4, h5⟩ := h
  exact ⟨RH_cg h1 (fun j _ _ => a j (by omega)) (fun j _ _ => b j (by omega)) (b _ (by omega)), RK_cg h2 (fun j _ _ => a j (by omega)) (fun j _ _ => b j (by omega)) (b _ (by omega)), RT_cg h3 (a _ (by omega)) (fun j _ _ => a j (by omega)) (b _ (by omega)) (fun j _ _ => b j (by omega)), hs, RF_cg h5 (fun j _ _ => a j (by omega)) (fun j _ _ => b j (by omega))⟩
theorem go_sheet (s b n : Int32) {u v : MM} (h : Rl u v) : pX5_sheet s b n u ∧ pX6_sheet s b n v ∧ Act (rX5_sheet s b n u) (rX6_sheet s b n v) u (mX5_sheet s b n u) v (mX6_sheet s b n v) := by
  refine ⟨trivial, trivial, rfl, st_f h (ifS (by decide) (ifS (by decide) (ifS (by decide) ifN))) (fun z => ?_)⟩
  have z1 := i_none z
  have z2 := i_none z1.2
  have z3 := i_none z2.2
  have z4 := Classical.not_not.mp z1.1
  have hs := sh4 z4.1
  obtain ⟨m, hm, em⟩ : ∃ m, m ≤ 40 ∧ (if b = 0 then (0 : Int32) else n) = nI m := by
    by_cases q : b = 0
    · exact ⟨0, by decide, by rw [if_pos q]; rfl⟩
    · obtain ⟨m, hm, e⟩ := v0_le (k := n) (n := 40) (m := 40) (Int32.not_lt.mp z2.1) (Int32.not_lt.mp z3.1) rfl
      exact ⟨m, hm, by rw [if_neg q]; exact e⟩
  unfold mX3_layOut
  rw [em]
  have o1 : ∀ j, j ≠ 430 + 2 * NN s → j ≠ 430 + 2 * NN s + 1 → (zr (uI (uI u (430 + 2 * NN s) b) (430 + 2 * NN s + 1) (nI m)) (40 * NN s) 40).1 j = u.1 j := fun j a c => by simp only [zr]; rw [uI_o c, uI_o a]
  have o2 : ∀ j, j ≠ 1440 + NN s → j ≠ 1444 + NN s → (zr (uI (uI v (1440 + NN s) b) (1444 + NN s) (nI m)) (200 + 40 * NN s) 40).1 j = v.1 j := fun j a c => by simp only [zr]; rw [uI_o c, uI_o a]
  refine ⟨h.sheets (fun j hj => o1 j (by omega) (by omega)) (fun j hj => o2 j (by omega) (by omega)) (fun t ht => ?_), ⟨fun j hj => o1 j (by omega) (by omega), fun j hj => ?_⟩, ⟨fun j hj => o2 j (by omega) (by omega), fun j hj => ?_⟩⟩
  · by_cases q : t = NN s
    · subst q
      refine ⟨?_, ⟨m, hm, ?_, ?_⟩, fun j hj => ?_⟩
      · simp only [zr]; rw [uI_o (show 430 + 2 * NN s ≠ 430 + 2 * NN s + 1 by omega), uI_s, uI_o (show 1440 + NN s ≠ 1444 + NN s by omega), uI_s]
      · simp only [zr]; rw [uI_s]
      · simp only [zr]; rw [uI_s]
      · simp only [zr]; rw [if_pos (by omega), if_pos (by omega)]
    · rw [o1 _ (by omega) (by omega), o1 _ (by omega) (by omega), o2 _ (by omega) (by omega), o2 _ (by omega) (by omega)]
      refine ⟨(h.2.2.2.1 t ht).1, (h.2.2.2.1 t ht).2.1, fun j hj => ?_⟩
      simp only [zr]; rw [if_neg (by omega), if_neg (by omega)]
      exact (h.2.2.2.1 t ht).2.2 j hj
  · simp only [zr]; rw [if_neg (by omega)]; rfl
  · simp only [zr]; rw [if_neg (by omega)]; rfl
theorem Rl.s5 {u v : MM} (h : Rl u v) : S5 u := fun s hs => by obtain ⟨n, a, b, -⟩ := (h.2.2.2.1 s hs).2.1; exact ⟨n, a, b⟩
theorem Rl.s6 {u v : MM} (h : Rl u v) : S6 v := fun s hs => by obtain ⟨n, a, -, b⟩ := (h.2.2.2.1 s hs).2.1; exact ⟨n, a, b⟩
theorem Rl.bits {u v : MM} (h : Rl u v) {s : Int32} (hs : isSh s) : u.1 (430 + 2 * NN s) = v.1 (1440 + NN s) := (h.2.2.2.1 _ (sh4 hs)).1
theorem Rl.len {u v : MM} (h : Rl u v) {s : Int32} (hs : isSh s) : u.1 (430 + 2 * NN s + 1) = v.1 (1444 + NN s) := by obtain ⟨n, -, a, b⟩ := (h.2.2.2.1 _ (sh4 hs)).2.1; rw [a, b]
theorem ifE {α : Type} {p : Prop} [Decidable p] {a b c : α} (h : ¬ p → b = c) : (if p then a else b) = if p then a else c := by
  by_cases q : p
  · rw [if_pos q, if_pos q]
  · rw [if_neg q, if_neg q]; exact h q
theorem uJ_o {u : MM} {i j : Nat} {x : Int64} (h : j ≠ i) : (uJ u i x).2 j = u.2 j := if_neg h
theorem uJ_s {u : MM} {i : Nat} {x : Int64} : (uJ u i x).2 i = x := if_pos rfl
theorem go_write (s i : Int32) (x : Int64) {u v : MM} (h : Rl u v) : pX5_write s i x u ∧ pX6_write s i x v ∧ Act (rX5_write s i x u) (rX6_write s i x v) u (mX5_write s i x u) v (mX6_write s i x v) := by
  refine ⟨h.s5, h.s6, ?_⟩
  have e : wrNo s i (u.1 (430 + 2 * NN s)) (u.1 (430 + 2 * NN s + 1)) = wrNo s i (v.1 (1440 + NN s)) (v.1 (1444 + NN s)) := by
    unfold wrNo
    exact ifE (fun q => by rw [h.bits (Classical.not_not.mp q), h.len (Classical.not_not.mp q)])
  have lt : ∀ k, wrNo s i (v.1 (1440 + NN s)) (v.1 (1444 + NN s)) = some k → k < 7 := ifS (by decide) (ifS (by decide) (ifS (by decide) ifN))
  have fit : wrNo s i (v.1 (1440 + NN s)) (v.1 (1444 + NN s)) = none → isSh s ∧ NN i < 40 := fun z => by
    have z1 := i_none z
    have z2 := i_none z1.2
    have z3 := i_none z2.2
    have hs := Classical.not_not.mp z1.1
    have hi := Classical.not_not.mp z3.1
    refine ⟨hs, ?_⟩
    obtain ⟨n, hn, -, en⟩ := (h.2.2.2.1 _ (sh4 hs)).2.1
    rw [en] at hi
    have : i ≤ 39 := Int32.le_trans hi.2 (by
      have : ∀ m, m ≤ 40 → nI m - 1 ≤ 39 := by decide
      exact this n hn)
    obtain ⟨j, hj, rfl⟩ := v0_le (m := 39) hi.1 this rfl
    rw [NN_nI (by omega)]; omega
  unfold rX5_write rX6_write mX5_write mX6_write mX3_put
  rw [e]
  have key : wrNo s i (v.1 (1440 + NN s)) (v.1 (1444 + NN s)) = none → u.2 (40 * NN s + NN i) = v.2 (200 + (40 * NN s + NN i)) := fun z => (h.2.2.2.1 _ (sh4 (fit z).1)).2.2 _ (fit z).2
  refine ⟨?_, st_f h lt (fun z => ?_)⟩
  · cases q : wrNo s i (v.1 (1440 + NN s)) (v.1 (1444 + NN s)) with
    | some k => rfl
    | none => exact key q
  · obtain ⟨hs, hi⟩ := fit z
    have h4 := sh4 hs
    rw [h.bits hs]
    refine ⟨h.sheets (fun _ _ => rfl) (fun _ _ => rfl) (fun t ht => ⟨(h.2.2.2.1 t ht).1, (h.2.2.2.1 t ht).2.1, fun j hj => ?_⟩), ⟨fun _ _ => rfl, fun j hj => uJ_o (by omega)⟩, ⟨fun _ _ => rfl, fun j hj => uJ_o (by omega)⟩⟩
    by_cases q : 40 * t + j = 40 * NN s + NN i
    · rw [q, uJ_s, uJ_s]
    · rw [uJ_o q, uJ_o (by omega)]; exact (h.2.2.2.1 t ht).2.2 j hj
