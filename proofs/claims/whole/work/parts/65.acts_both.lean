/-! ===== both do the same: the acts on the hall ===== -/
theorem go_seat (p t : Int32) {u v : MM} (h : Rl u v) : pX5_seat p t u ∧ pX6_seat p t v ∧ Act (rX5_seat p t u) (rX6_seat p t v) u (mX5_seat p t u) v (mX6_seat p t v) := ⟨h.ix, h.i6, st_o h (seat_oe h.ix h.lv p t)⟩
theorem go_seatOf (s k : Int32) {u v : MM} (h : Rl u v) : pX5_seatOf s k u ∧ pX6_seatOf s k v ∧ Act (rX5_seatOf s k u) (rX6_seatOf s k v) u (mX5_seatOf s k u) v (mX6_seatOf s k v) := ⟨h.ix, h.i6, st_o h (seatOf_oe h.ix h.lv s k)⟩
theorem go_worth (s x : Int32) {u v : MM} (h : Rl u v) : pX5_worth s x u ∧ pX6_worth s x v ∧ Act (rX5_worth s x u) (rX6_worth s x v) u (mX5_worth s x u) v (mX6_worth s x v) := ⟨h.ix, h.i6, st_o h (worth_oe h.ix h.lv s x)⟩
theorem go_comes (k p t : Int32) {u v : MM} (h : Rl u v) : pX5_comes k p t u ∧ pX6_comes k p t v ∧ Act (rX5_comes k p t u) (rX6_comes k p t v) u (mX5_comes k p t u) v (mX6_comes k p t v) := ⟨h.ix, h.i6, st_o h (comes_oe h.ix h.lv k p t)⟩
theorem go_of (c k : Int32) {u v : MM} (h : Rl u v) : pX5_of c k u ∧ pX6_of c k v ∧ Act (rX5_of c k u) (rX6_of c k v) u (mX5_of c k u) v (mX6_of c k v) := ⟨h.ix, h.i6, st_o h (of_oe h.ix h.lv c k)⟩
theorem go_set (c k x : Int32) {u v : MM} (h : Rl u v) : pX5_set c k x u ∧ pX6_set c k x v ∧ Act (rX5_set c k x u) (rX6_set c k x v) u (mX5_set c k x u) v (mX6_set c k x v) := ⟨h.ix, h.i6, st_o h (set_oe h.ix h.lv c k x)⟩
theorem go_turn (c k : Int32) {u v : MM} (h : Rl u v) : pX5_turn c k u ∧ pX6_turn c k v ∧ Act (rX5_turn c k u) (rX6_turn c k v) u (mX5_turn c k u) v (mX6_turn c k v) := ⟨h.ix, h.i6, st_o h (turn_oe h.ix h.lv c k)⟩
theorem go_as (c k : Int32) {u v : MM} (h : Rl u v) : pX5_as c k u ∧ pX6_as c k v ∧ Act (rX5_as c k u) (rX6_as c k v) u (mX5_as c k u) v (mX6_as c k v) := ⟨h.ix, h.i6, st_o h (as_oe h.ix h.lv c k)⟩
theorem go_far (c p : Int32) {u v : MM} (h : Rl u v) : pX5_far c p u ∧ pX6_far c p v ∧ Act (rX5_far c p u) (rX6_far c p v) u (mX5_far c p u) v (mX6_far c p v) := ⟨h.ix, h.i6, st_o h (far_oe h.ix h.lv c p)⟩
theorem go_on (p : Int32) {u v : MM} (h : Rl u v) : pX5_on p u ∧ pX6_on p v ∧ Act (rX5_on p u) (rX6_on p v) u (mX5_on p u) v (mX6_on p v) := ⟨h.ix, h.i6, st_o h (on_oe h.ix h.lv p)⟩
theorem go_cough (s : Int32) {u v : MM} (h : Rl u v) : pX5_cough s u ∧ pX6_cough s v ∧ Act (rX5_cough s u) (rX6_cough s v) u (mX5_cough s u) v (mX6_cough s v) := ⟨h.ix, h.i6, st_o h (cough_oe h.ix h.lv s)⟩
theorem go_now (k : Int32) {u v : MM} (h : Rl u v) : pX5_now k u ∧ pX6_now k v ∧ Act (rX5_now k u) (rX6_now k v) u (mX5_now k u) v (mX6_now k v) := ⟨h.ix, h.i6, st_o h (now_oe h.ix h.lv k)⟩
theorem Rl.tp {u v : MM} (h : Rl u v) : u.1 281 = v.1 1001 := by obtain ⟨L, -, e1, e2, -⟩ := h.2.2.1; rw [e1, e2]
theorem go_count (k : Int32) {u v : MM} (h : Rl u v) : pX5_count k u ∧ pX6_count k v ∧ Act (rX5_count k u) (rX6_count k v) u (mX5_count k u) v (mX6_count k v) := by
  refine ⟨h.ix, h.i6, ?_⟩
  unfold rX5_count mX5_count
  rw [h.tp]
  exact st_o h (count_oe h.ix h.lv (v.1 1001) k)
theorem goT {u : MM} (h : IX u) (n : Nat) : Tsc u (stT u (goP n (Tr u))) := stT_Tsc (fun i hi => goP_hi (Tr_Hv h.1).1 hi n)
theorem goS {v : MM} (h : I6 v) (n : Nat) : Sc v (sc v (goP n (ln v))) := sc_Sc h.1 (fun i hi => goP_hi ((lnV h.2).Ok h.2) hi n)
theorem go_holder (s n : Int32) {u v : MM} (h : Rl u v) : pX5_holder s n u ∧ pX6_holder s n v ∧ Act (rX5_holder s n u) (rX6_holder s n v) u (mX5_holder s n u) v (mX6_holder s n v) := ⟨h.ix, h.i6, st_l h (holder_oe h.ix h.lv s n) (fun _ => goT h.ix _) (fun _ => goS h.i6 _)⟩
theorem go_where (s n : Int32) {u v : MM} (h : Rl u v) : pX5_where s n u ∧ pX6_where s n v ∧ Act (rX5_where s n u) (rX6_where s n v) u (mX5_where s n u) v (mX6_where s n v) := ⟨h.ix, h.i6, st_l h (where_oe h.ix h.lv s n) (fun _ => goT h.ix _) (fun _ => goS h.i6 _)⟩
theorem go_coins (s n : Int32) {u v : MM} (h : Rl u v) : pX5_coins s n u ∧ pX6_coins s n v ∧ Act (rX5_coins s n u) (rX6_coins s n v) u (mX5_coins s n u) v (mX6_coins s n v) := ⟨h.ix, h.i6, st_l h (coins_oe h.ix h.lv s n) (fun _ => goT h.ix _) (fun _ => goS h.i6 _)⟩
theorem go_gets (c s : Int32) {u v : MM} (h : Rl u v) : pX5_gets c s u ∧ pX6_gets c s v ∧ Act (rX5_gets c s u) (rX6_gets c s v) u (mX5_gets c s u) v (mX6_gets c s v) := ⟨h.ix, h.i6, st_l h (gets_oe h.ix h.lv c s) (fun _ => goT h.ix _) (fun _ => goS h.i6 _)⟩
theorem go_rich (n : Int32) {u v : MM} (h : Rl u v) : pX5_rich n u ∧ pX6_rich n v ∧ Act (rX5_rich n u) (rX6_rich n v) u (mX5_rich n u) v (mX6_rich n v) := ⟨h.ix, h.i6, st_r h (rich_oe h.ix h.lv n) (fun _ => goT h.ix _) (fun _ => goS h.i6 _)⟩
theorem i_inr {α β : Type} {p : Prop} [Decidable p] {a : α} {o : α ⊕ β} {b : β} (h : (if p then .inl a else o) = .inr b) : ¬ p ∧ o = .inr b := by
  by_cases c : p
  · rw [if_pos c] at h; cases h
  · rw [if_neg c] at h; exact ⟨c, h⟩
theorem i_inl {p : Prop} [Decidable p] {o : OP} (h : ¬ (if ¬ p then .inl 0 else o) = (.inl 0 : OP)) : p := Classical.byContradiction (fun z => h (if_pos z))
theorem cf_same {R : Nat → Int32} {c a : Int32} {X : Nat → Int32} (h : oCoughFor R c = .inr (a, X)) : X = R := by
  unfold oCoughFor at h
  cases (i_inr (i_inr (i_inr h).2).2).2; rfl
theorem go_coughFor (c : Int32) {u v : MM} (h : Rl u v) : pX5_coughFor c u ∧ pX6_coughFor c v ∧ Act (rX5_coughFor c u) (rX6_coughFor c v) u (mX5_coughFor c u) v (mX6_coughFor c v) := ⟨h.ix, h.i6, st_m h (coughFor_oe h.ix h.lv c) (fun a X e => cf_same e) (fun _ => cfM_Sc h.i6 _ (Nat.le_refl _))⟩
theorem sp_same {R : Nat → Int32} {c s a : Int32} {X : Nat → Int32} (h : oSpots R c s = .inr (a, X)) : X = R := by
  unfold oSpots at h
  cases (i_inr (i_inr h).2).2; rfl
theorem nr_same {R : Nat → Int32} {c s a : Int32} {X : Nat → Int32} (h : oNearest R c s = .inr (a, X)) : X = R := by
  unfold oNearest at h
  cases (i_inr (i_inr (i_inr h).2).2).2; rfl
theorem pl_same {R : Nat → Int32} {c s a : Int32} {X : Nat → Int32} (h : oPlace R c s = .inr (a, X)) : X = R := by
  unfold oPlace at h
  have h2 := (i_inr h).2
  by_cases z : wtg R (NN c)
  · rw [if_pos z] at h2; cases h2; rfl
  · rw [if_neg z] at h2; cases h2
theorem bs_same {R : Nat → Int32} {c a : Int32} {X : Nat → Int32} (h : oBest R c = .inr (a, X)) : X = R := by
  unfold oBest at h
  cases (i_inr (i_inr h).2).2; rfl
theorem on10 {u : MM} (h : IX u) {c : Int32} (z : isOn (vw u (91 * qP)) c) : NN c < 10 := by
  have := vi_lt ((isOn_vi h.1.1).mp z); have := h.1.1.K.1; omega
theorem tf_Tsc {u : MM} {c : Nat} {R : Nat → Int32} (hc : c < 10) (h : tfm c u R) : Tsc u (stT u R) := by
  refine stT_Tsc (fun i hi => ?_)
  rcases h with rfl | ⟨x, rfl⟩
  · rfl
  · exact ost_hi hc (by decide) hi
theorem go_spots (c s : Int32) {u v : MM} (h : Rl u v) : pX5_spots c s u ∧ pX6_spots c s v ∧ Act (rX5_spots c s u) (rX6_spots c s v) u (mX5_spots c s u) v (mX6_spots c s v) := ⟨h.ix, h.i6, st_n h (spots_oe h.ix h.lv c s) (fun a X e => sp_same e) (fun z => tf_Tsc (on10 h.ix (i_inl z).1) (Or.inr ⟨_, rfl⟩))⟩
theorem go_nearest (c s : Int32) {u v : MM} (h : Rl u v) : pX5_nearest c s u ∧ pX6_nearest c s v ∧ Act (rX5_nearest c s u) (rX6_nearest c s v) u (mX5_nearest c s u) v (mX6_nearest c s v) := ⟨h.ix, h.i6, st_n h (nearest_oe h.ix h.lv c s) (fun a X e => nr_same e) (fun z => tf_Tsc (on10 h.ix (i_inl z).1) (nrT_f _ _ _ _ _))⟩
theorem go_place (c p : Int32) {u v : MM} (h : Rl u v) : pX5_place c p u ∧ pX6_place c p v ∧ Act (rX5_place c p u) (rX6_place c p v) u (mX5_place c p u) v (mX6_place c p v) := by
  refine ⟨h.ix, h.i6, st_n h (place_oe h.ix h.lv c p) (fun a X e => pl_same e) (fun z => ?_)⟩
  rw [bec_stT, wif_st]
  refine tf_Tsc (on10 h.ix (i_inl z).1) ?_
  split
  · exact Or.inl rfl
  · exact Or.inr ⟨_, rfl⟩
theorem go_best (c : Int32) {u v : MM} (h : Rl u v) : pX5_best c u ∧ pX6_best c v ∧ Act (rX5_best c u) (rX6_best c v) u (mX5_best c u) v (mX6_best c v) := by
  refine ⟨h.ix, h.i6, st_n h (best_oe h.ix h.lv c) (fun a X e => bs_same e) (fun z => ?_)⟩
  obtain ⟨R, h1, h2⟩ := bsM_f c u 100
  rw [h1]
  exact tf_Tsc (on10 h.ix (i_inl z)) h2
theorem twN_lt {R : Nat → Int32} {c : Int32} {s k : Nat} : ∀ f n, twN R c s n f = some k → k < n + f
  | 0, _, h => by simp only [twN] at h; cases h
  | f + 1, n, h => by
    simp only [twN] at h
    split at h
    · cases h; omega
    · have := twN_lt f (n + 1) h; omega
theorem twK_le {R : Nat → Int32} {c : Int32} {s m : Nat} : twK m (twN R c s 0 m) ≤ m := by
  cases e : twN R c s 0 m with
  | none => exact Nat.le_refl _
  | some k => have := twN_lt _ _ e; show k + 1 ≤ m; omega
theorem go_twice (c s : Int32) {u v : MM} (h : Rl u v) : pX5_twice c s u ∧ pX6_twice c s v ∧ Act (rX5_twice c s u) (rX6_twice c s v) u (mX5_twice c s u) v (mX6_twice c s v) := by
  refine ⟨h.ix, h.i6, st_l h (twice_oe h.ix h.lv c s) (fun z => twX_Tsc h.ix.1 rfl _ twK_le) (fun z => ?_)⟩
  have := vi_lt ((isSt_vi h.i6.2).mp (i_inl z).2)
  exact twM_Sc h.i6 (Nat.lt_of_le_of_lt (Nat.zero_le _) this) _ twK_le
theorem go_will (c n : Int32) {u v : MM} (h : Rl u v) : pX5_will c n u ∧ pX6_will c n v ∧ Act (rX5_will c n u) (rX6_will c n v) u (mX5_will c n u) v (mX6_will c n v) := by
  refine ⟨h.ix, h.i6, st_l h (will_oe h.ix h.lv c n) (fun z => wlS_Tsc h.ix.1 (on10 h.ix (i_inl z).1) n (NN (vw u (91 * qP) 1) + 1) (Nat.le_refl _)) (fun z => wlM_Sc h.i6 ((isOn_vi h.i6.2).mp (i_inl z).1) _ (Nat.le_refl _))⟩
theorem go_kind (c n : Int32) {u v : MM} (h : Rl u v) : pX5_kind c n u ∧ pX6_kind c n v ∧ Act (rX5_kind c n u) (rX6_kind c n v) u (mX5_kind c n u) v (mX6_kind c n v) := by
  refine ⟨h.ix, h.i6, st_l h (kind_oe h.ix h.lv c n) (fun z => kdX_Tsc h.ix.1 (on10 h.ix (i_inl z).1) n _ (Nat.le_refl _)) (fun z => kdM_Sc h.i6 ((isOn_vi h.i6.2).mp (i_inl z).1) _)⟩
theorem go_guard (c s : Int32) {u v : MM} (h : Rl u v) : pX5_guard c s u ∧ pX6_guard c s v ∧ Act (rX5_guard c s u) (rX6_guard c s v) u (mX5_guard c s u) v (mX6_guard c s v) := by
  refine ⟨h.ix, h.i6, st_r h (guard_oe h.ix h.lv c s) (fun _ => Tsc.rf u) (fun z => gdM_Sc h.i6 ((isOn_vi h.i6.2).mp (i_inl z).1) _)⟩
theorem hl_o (u : MM) (n : Nat) {j : Nat} (h : j < 1310 ∨ 1310 + n ≤ j) : (hl u n).1 j = u.1 j := by simp only [hl]; rw [if_neg (by omega)]
theorem Rl.hl {u v : MM} (h : Rl u v) {n : Nat} (hn : n ≤ 6) : Rl u (hl v n) := by
  obtain ⟨h1, h2, h3, h4, h5⟩ := h
  exact ⟨RH_cg h1 (fun _ _ _ => rfl) (fun j _ _ => hl_o _ _ (by omega)) (hl_o _ _ (by omega)), RK_cg h2 (fun _ _ _ => rfl) (fun j _ _ => hl_o _ _ (by omega)) (hl_o _ _ (by omega)), RT_cg h3 rfl (fun _ _ _ => rfl) (hl_o _ _ (by omega)) (fun j _ _ => hl_o _ _ (by omega)), RS_cg h4 (fun _ _ _ => rfl) (fun _ _ _ => rfl) (fun j _ _ => hl_o _ _ (by omega)) (fun _ _ _ => rfl), RF_cg h5 (fun _ _ _ => rfl) (fun j _ _ => hl_o _ _ (by omega))⟩
theorem sec_inr {R : Nat → Int32} {n a : Int32} {X : Nat → Int32} (h : oSeconds R n = .inr (a, X)) : (0 ≤ n ∧ n ≤ 200) ∧ ¬ late R n := by
  unfold oSeconds at h
  have h1 := i_inr h
  have h2 := i_inr h1.2
  have h3 := Classical.not_not.mp h1.1
  exact ⟨⟨Int32.le_trans (by decide) h3.1, h3.2⟩, h2.1⟩
theorem go_seconds (n : Int32) {u v : MM} (h : Rl u v) : pX5_seconds n u ∧ pX6_seconds n v ∧ Act (rX5_seconds n u) (rX6_seconds n v) u (mX5_seconds n u) v (mX6_seconds n v) := by
  refine ⟨h.ix, h.i6, ?_⟩
  have e := seconds_oe h.ix h.lv n
  unfold rX5_seconds rX6_seconds mX5_seconds mX6_seconds
  cases e5 : oSeconds (vw u (91 * qP)) n with
  | inl k =>
    cases e6 : oSeconds (R6 v) n with
    | inr q => rw [e5, e6] at e; exact e.elim
    | inl j =>
      rw [e5, e6] at e
      obtain ⟨rfl, hk⟩ := e
      have k3 : ¬ k = 3 := fun z => by
        rw [z] at e5
        unfold oSeconds at e5
        split at e5
        · cases e5
        · split at e5 <;> cases e5
      have e1 : ∀ x, mlX (.inl k) u x = fndX k u := fun x => by simp only [mlX]; rw [if_neg k3]
      rw [e1]
      exact ⟨rfl, h.fnd hk, fnd_f5 hk, fnd_f6⟩
  | inr q =>
    obtain ⟨a, X⟩ := q
    cases e6 : oSeconds (R6 v) n with
    | inl j => rw [e5, e6] at e; exact e.elim
    | inr q' =>
      obtain ⟨b, Y⟩ := q'
      rw [e5, e6] at e
      obtain ⟨⟨n0, n2⟩, nl⟩ := sec_inr e5
      have hT := bec_Tsc u
      have hr := (h.tsc hT (Sc.rf v)).hl (n := NN (R6 v 1)) h.i6.2.M.1
      have l0 : vw (mX0_become qT qP u) (91 * qP) 0 = vw u (91 * qP) 0 := hT.P (by decide)
      have hO := hr.ix.1.1
      have ha : ∀ i, 91 ≤ i → goP (NN n) (vw (mX0_become qT qP u) (91 * qP)) i = vw (mX0_become qT qP u) (91 * qP) i := fun i hi => goP_hi hO hi _
      have hb : ∀ i, 91 ≤ i → goP (NN n) (R6 (hl v (NN (R6 v 1)))) i = vw (hl v (NN (R6 v 1))) 1100 i := fun i hi => goP_hi hr.i6.2 hi _
      refine ⟨e.1, hr.hall (go_HC hr.ix n0 n2 (by rw [late, l0]; exact nl)) (goP_lv hr.lv hO _) ha hb, hT.f5.tr ⟨fun j hj => pvP ha (by omega), fun _ _ => rfl⟩, F6.tr ⟨fun j hj => hl_o _ _ (by omega), fun _ _ => rfl⟩ ⟨fun j hj => pvR hb (by omega), fun _ _ => rfl⟩⟩
