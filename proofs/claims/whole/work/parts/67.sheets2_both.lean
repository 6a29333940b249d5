/-! ===== both do the same: copies, wills off a sheet, who will hold, images ===== -/
theorem nfX_n (u x : MM) : nfX none u x = x := rfl
theorem nfM_n (u x : MM) : nfM none u x = x := rfl
theorem nf_s (k : Nat) (a : Int32) : nf (some k) a = -1000000001 - nI k := rfl
theorem nf_n (a : Int32) : nf none a = a := rfl
theorem go_copy (s f t o n : Int32) {u v : MM} (h : Rl u v) : pX5_copy s f t o n u ∧ pX6_copy s f t o n v ∧ Act (rX5_copy s f t o n u) (rX6_copy s f t o n v) u (mX5_copy s f t o n u) v (mX6_copy s f t o n v) := by
  refine ⟨h.s5, h.s6, ?_⟩
  have e : cpX s f t o n u = cpN s f t o n v := by
    unfold cpX cpN cpNo
    exact ifE (fun q => by
      have q := Classical.not_not.mp q
      rw [h.bits q.1, h.len q.1, h.bits q.2, h.len q.2])
  have lt : ∀ k, cpN s f t o n v = some k → k < 7 := ifS (by decide) (ifS (by decide) (ifS (by decide) (ifS (by decide) ifN)))
  have fit : cpN s f t o n v = none → isSh s ∧ isSh t ∧ NN f + NN n ≤ 40 ∧ NN o + NN n ≤ 40 := fun z => by
    have z1 := i_none z
    have z2 := i_none z1.2
    have z3 := i_none z2.2
    have z4 := i_none z3.2
    have hs := Classical.not_not.mp z1.1
    have hp := Classical.not_not.mp z4.1
    have key : ∀ (r x : Int32), isSh r → part (v.1 (1444 + NN r)) x n → NN x + NN n ≤ 40 := fun r x hr hp => by
      obtain ⟨m, hm, -, en⟩ := (h.2.2.2.1 _ (sh4 hr)).2.1
      rw [en] at hp
      obtain ⟨p1, p2, p3, p4⟩ := hp
      obtain ⟨j, hj, rfl⟩ := v0_le (k := n) (n := nI m) (m := m) p2 p3 (nI_toInt (by omega))
      have e1 : nI m - nI j = nI (m - j) := by
        rw [show nI m = nI (m - j) + nI j by rw [nI_add]; congr 1; omega]
        exact Int32.add_sub_cancel _ _
      rw [e1] at p4
      obtain ⟨i, hi, rfl⟩ := v0_le (k := x) (n := nI (m - j)) (m := m - j) p1 p4 (nI_toInt (by omega))
      rw [NN_nI (by omega), NN_nI (by omega)]; omega
    exact ⟨hs.1, hs.2, key s f hs.1 hp.1, key t o hs.2 hp.2⟩
  unfold rX5_copy rX6_copy mX5_copy mX6_copy
  rw [e]
  refine ⟨rfl, st_f h lt (fun z => ?_)⟩
  obtain ⟨hs, ht, h1, h2⟩ := fit z
  have s4 := sh4 hs
  have t4 := sh4 ht
  refine ⟨h.sheets (fun _ _ => rfl) (fun _ _ => rfl) (fun r hr => ⟨(h.2.2.2.1 r hr).1, (h.2.2.2.1 r hr).2.1, fun j hj => ?_⟩), ⟨fun _ _ => rfl, fun j hj => ?_⟩, ⟨fun _ _ => rfl, fun j hj => ?_⟩⟩
  · simp only [mvJ]
    by_cases q : 40 * NN t + NN o ≤ 40 * r + j ∧ 40 * r + j < 40 * NN t + NN o + NN n
    · rw [if_pos q, if_pos (by omega), if_pos (by omega)]
      have := (h.2.2.2.1 _ s4).2.2 (NN f + (40 * r + j - (40 * NN t + NN o))) (by omega)
      rw [show 40 * NN s + NN f + (40 * r + j - (40 * NN t + NN o)) = 40 * NN s + (NN f + (40 * r + j - (40 * NN t + NN o))) by omega, this]
      exact congrArg v.2 (by omega)
    · rw [if_neg q, if_neg (by omega), if_neg (by omega)]
      exact (h.2.2.2.1 r hr).2.2 j hj
  · simp only [mvJ]; rw [if_neg (by omega)]
  · simp only [mvJ]; rw [if_neg (by omega), if_neg (by omega)]
theorem Z_eq {u v : MM} (h : Rl u v) {s : Int32} (hs : isSh s) {k : Nat} (hk : k < 40) : Z5 u s k = Z6 v s k := (h.2.2.2.1 _ (sh4 hs)).2.2 k hk
theorem will_of {z : Int64} {m : Nat} (hm : m < 2 ^ 31) (h1 : -1 ≤ z) (h2 : z < (nI m).toInt64) : z.toInt32 = -1 ∨ vp_in z.toInt32 m := by
  rw [Int64.le_iff_toInt_le] at h1
  rw [Int64.lt_iff_toInt_lt, Int32.toInt_toInt64, nI_toInt hm] at h2
  have e1 : (-1 : Int64).toInt = -1 := by decide
  rw [e1] at h1
  by_cases q : z.toInt = -1
  · left
    have : z = -1 := Int64.toInt_inj.mp (by rw [q, e1])
    rw [this]; decide
  · right
    obtain ⟨j, hj⟩ : ∃ j : Nat, z.toInt = j := ⟨z.toInt.toNat, by omega⟩
    have : z = (nI j).toInt64 := Int64.toInt_inj.mp (by rw [Int32.toInt_toInt64, nI_toInt (by omega), hj])
    rw [this, Int32.toInt32_toInt64]
    exact vi_nI (by omega) hm
theorem lyP_rel {Z Z' : Nat → Int64} {R S : Nat → Int32} (hc : HC R) (l : Lv R S) : ∀ n, n ≤ NN (R 2) → (∀ k, k < n → Z k = Z' k) → HC (lyP Z (R 1) R n).1 ∧ Lv (lyP Z (R 1) R n).1 (lyP Z' (S 1) S n).1 ∧ (lyP Z (R 1) R n).2 = (lyP Z' (S 1) S n).2
  | 0, _, _ => ⟨hc, l, rfl⟩
  | n + 1, hn, hz => by
    obtain ⟨a1, a2, a3⟩ := lyP_rel (Z := Z) (Z' := Z') hc l n (by omega) (fun k hk => hz k (by omega))
    have hM := hc.1.1.M
    simp only [lyP]
    rw [← hz n (by omega), ← l.2.1]
    by_cases q : -1 ≤ Z n ∧ Z n < (R 1).toInt64
    · rw [if_pos q, if_pos q]
      obtain ⟨b1, t, b2, b3⟩ := a1
      have e1 : (lyP Z (R 1) R n).1 1 = R 1 := lyP_hd Z (R 1) R (by decide) n
      have q2 := q.2
      rw [hM.2] at q2
      refine ⟨⟨ost_Hx b1 (by decide) (fun z => absurd z (by decide)) (fun z => absurd z (by decide)) (fun _ => by rw [e1]; exact will_of (by omega) q.1 q2), t, b2, ost_Cv b3 b1.1.M.1 (by decide) (by decide)⟩, ?_, ?_⟩
      · rw [← l.2.1] at a2; exact ost_lv a2 b1.1.M.1 (by decide) _
      · rw [← l.2.1] at a3; show _ + 1 = _ + 1; rw [a3]
    · rw [if_neg q, if_neg q]
      rw [← l.2.1] at a2 a3
      exact ⟨a1, a2, a3⟩
theorem go_lays (s : Int32) {u v : MM} (h : Rl u v) : pX5_lays s u ∧ pX6_lays s v ∧ Act (rX5_lays s u) (rX6_lays s v) u (mX5_lays s u) v (mX6_lays s v) := by
  refine ⟨⟨h.ix, h.s5⟩, ⟨h.i6, h.s6⟩, ?_⟩
  have e : lyNo s (u.1 (430 + 2 * NN s)) = lyNo s (v.1 (1440 + NN s)) := by
    unfold lyNo
    exact ifE (fun q => by rw [h.bits (Classical.not_not.mp q)])
  have lt : ∀ k, lyNo s (v.1 (1440 + NN s)) = some k → k < 7 := ifS (by decide) (ifS (by decide) ifN)
  unfold rX5_lays rX6_lays mX5_lays mX6_lays
  rw [e]
  cases q : lyNo s (v.1 (1440 + NN s)) with
  | some k => rw [nf_s, nf_s]; exact ⟨rfl, st_f (o := some k) h (fun j z => lt j (q.trans z)) (fun z => by cases z)⟩
  | none =>
    have hs := Classical.not_not.mp (i_none q).1
    have hK := h.ix.1.1.K.1
    obtain ⟨m, hm, em, em'⟩ := (h.2.2.2.1 _ (sh4 hs)).2.1
    have eN : min (NN (R6 v 2)) (NN (v.1 (1444 + NN s))) = min (NN (vw u (91 * qP) 2)) (NN (u.1 (430 + 2 * NN s + 1))) := by rw [h.lv.2.2.1, h.len hs]
    have m40 : NN (u.1 (430 + 2 * NN s + 1)) ≤ 40 := by rw [em, NN_nI (by omega)]; exact hm
    obtain ⟨a1, a2, a3⟩ := lyP_rel (Z := Z5 u s) (Z' := Z6 v s) h.ix h.lv (min (NN (vw u (91 * qP) 2)) (NN (u.1 (430 + 2 * NN s + 1)))) (Nat.min_le_left _ _) (fun k hk => Z_eq h hs (by omega))
    have hx : ∀ i, 91 ≤ i → (lyC s u).1 i = vw u (91 * qP) i := fun i hi => lyP_hi _ _ _ hi _ (by omega)
    have hy : ∀ i, 91 ≤ i → (lyA s v).1 i = vw v 1100 i := fun i hi => lyP_hi _ _ _ hi _ (by rw [eN]; omega)
    have l' : Lv (lyC s u).1 (lyA s v).1 := by unfold lyC lyA; rw [eN]; exact a2
    have a4 : (lyC s u).2 = (lyA s v).2 := by unfold lyC lyA; rw [eN]; exact a3
    rw [nf_n, nf_n, nfX_n, nfM_n]
    exact ⟨a4, h.hall a1 l' hx hy, ⟨fun j hj => pvP hx (by omega), fun _ _ => rfl⟩, ⟨fun j hj => pvR hy (by omega), fun _ _ => rfl⟩⟩
theorem rl_lt {s n b : Int32} {R : Nat → Int32} : ∀ k, rlNo s n b R = some k → k < 7 := ifS (by decide) (ifS (by decide) (ifS (by decide) (ifS (by decide) ifN)))
theorem rd_lt {s n b : Int32} {R : Nat → Int32} : ∀ k, rdNo s n b R = some k → k < 7 := ifS (by decide) (ifS (by decide) (ifS (by decide) (ifS (by decide) ifN)))
theorem go_roll (s n : Int32) {u v : MM} (h : Rl u v) : pX5_roll s n u ∧ pX6_roll s n v ∧ Act (rX5_roll s n u) (rX6_roll s n v) u (mX5_roll s n u) v (mX6_roll s n v) := by
  refine ⟨⟨h.ix, h.s5⟩, ⟨h.i6, h.s6⟩, ?_⟩
  have e : rlNo s n (u.1 (430 + 2 * NN s)) (vw u (91 * qP)) = rlNo s n (v.1 (1440 + NN s)) (R6 v) := by
    unfold rlNo
    refine ifE (fun q => ?_)
    rw [h.bits (Classical.not_not.mp q)]
    exact ifE (fun _ => ifE (fun _ => ifq (lat_lv h.lv n)))
  unfold rX5_roll rX6_roll mX5_roll mX6_roll
  rw [e]
  cases q : rlNo s n (v.1 (1440 + NN s)) (R6 v) with
  | some k => rw [nf_s, nf_s]; exact ⟨rfl, st_f (o := some k) h (fun j z => rl_lt j (q.trans z)) (fun z => by cases z)⟩
  | none =>
    have hs := Classical.not_not.mp (i_none q).1
    have s4 := sh4 hs
    have hM := h.ix.1.1.M.1
    rw [← h.lv.2.1, ← h.len hs]
    have mM : min (NN (vw u (91 * qP) 1)) (NN (u.1 (430 + 2 * NN s + 1))) ≤ NN (vw u (91 * qP) 1) := Nat.min_le_left _ _
    generalize min (NN (vw u (91 * qP) 1)) (NN (u.1 (430 + 2 * NN s + 1))) = m at mM ⊢
    have tT := goT h.ix (NN n)
    have tS := goS h.i6 (NN n)
    have hr := h.tsc tT tS
    have L : Lv (goP (NN n) (Tr u)) (goP (NN n) (ln v)) := (goP_lv (Tr_lv h.ix.1.1) h.ix.1.1 _).sy.tr ((goP_lv h.lv h.ix.1.1 _).tr (goP_lv (lnV h.i6.2) h.i6.2 _))
    have eM : goP (NN n) (Tr u) 1 = vw u (91 * qP) 1 := by rw [(goP_12 _).1]; exact (Tr_lv h.ix.1.1).2.1.symm
    rw [nf_n, nfX_n, nfM_n]
    refine ⟨rfl, hr.sheets (fun _ _ => rfl) (fun _ _ => rfl) (fun t ht => ⟨(hr.2.2.2.1 t ht).1, (hr.2.2.2.1 t ht).2.1, fun j hj => ?_⟩), tT.f5.tr ⟨fun _ _ => rfl, fun j hj => ?_⟩, tS.f6.tr ⟨fun _ _ => rfl, fun j hj => ?_⟩⟩
    · simp only [rlJ]
      by_cases c : 40 * NN s ≤ 40 * t + j ∧ 40 * t + j < 40 * NN s + m
      · rw [if_pos c, if_pos (by omega), show 200 + (40 * t + j) - (200 + 40 * NN s) = 40 * t + j - 40 * NN s by omega, L.2.2.2.1 _ (by rw [eM]; omega) 2 (by decide)]
      · rw [if_neg c, if_neg (by omega)]; exact (hr.2.2.2.1 t ht).2.2 j hj
    · simp only [rlJ]; rw [if_neg (by omega)]
    · simp only [rlJ]; rw [if_neg (by omega)]
theorem rdX_hi {Z : Nat → Int64} {e i : Nat} (hi : 91 ≤ i) : ∀ f k (R : Nat → Int32), Ok R → rdX Z e k f R i = R i
  | 0, _, _, _ => rfl
  | f + 1, k, R, h => by
    simp only [rdX]; split
    · rw [rdX_hi hi f (k + 1) _ (secP_Ok h), secP_hi h hi]
    · rfl
theorem rdW_hi {Z : Nat → Int64} {e i : Nat} (hi : 91 ≤ i) : ∀ f k (R : Nat → Int32), Ok R → (rdW Z e k f R).2 i = R i
  | 0, _, _, _ => rfl
  | f + 1, k, R, h => by
    simp only [rdW]; split
    · rw [rdW_hi hi f (k + 1) _ (secP_Ok h), secP_hi h hi]
    · exact secP_hi h hi
theorem rdW_z {Z Z' : Nat → Int64} {e : Nat} : ∀ f k (R : Nat → Int32), (∀ i, i < k + f → Z i = Z' i) → rdW Z e k f R = rdW Z' e k f R
  | 0, _, _, _ => rfl
  | f + 1, k, R, h => by
    simp only [rdW]
    rw [h k (by omega), rdW_z f (k + 1) (secP R) (fun i hi => h i (by omega))]
theorem go_read (s e : Int32) {u v : MM} (h : Rl u v) : pX5_read s e u ∧ pX6_read s e v ∧ Act (rX5_read s e u) (rX6_read s e v) u (mX5_read s e u) v (mX6_read s e v) := by
  refine ⟨⟨h.ix, h.s5⟩, ⟨h.i6, h.s6⟩, ?_⟩
  have e' : rdNo s e (u.1 (430 + 2 * NN s)) (vw u (91 * qP)) = rdNo s e (v.1 (1440 + NN s)) (R6 v) := by
    unfold rdNo
    refine ifE (fun q => ?_)
    rw [h.bits (Classical.not_not.mp q)]
    refine ifE (fun _ => ?_)
    rw [ifq (nif (st_lv h.lv e)), ifq (lat_lv h.lv 40)]
  unfold rX5_read rX6_read mX5_read mX6_read
  rw [e']
  cases q : rdNo s e (v.1 (1440 + NN s)) (R6 v) with
  | some k => rw [nf_s, nf_s]; exact ⟨rfl, st_f (o := some k) h (fun j z => rd_lt j (q.trans z)) (fun z => by cases z)⟩
  | none =>
    have q1 := i_none q
    have q2 := i_none q1.2
    have q3 := i_none q2.2
    have hs := Classical.not_not.mp q1.1
    have he := Classical.not_not.mp q3.1
    have he' : NN e < NN (vw u (91 * qP) 1) := vi_lt ((isSt_vi h.ix.1.1).mp ((st_lv h.lv e).mpr he))
    obtain ⟨m, hm, em, em'⟩ := (h.2.2.2.1 _ (sh4 hs)).2.1
    have m40 : NN (v.1 (1444 + NN s)) ≤ 40 := by rw [em', NN_nI (by omega)]; exact hm
    have tT : Tsc u (stT u (rdX (Z5 u s) (NN e) 0 (NN (u.1 (430 + 2 * NN s + 1))) (Tr u))) := stT_Tsc (fun i hi => rdX_hi hi _ _ _ (Tr_Hv h.ix.1).1)
    have tS : Sc v (sc v (rdW (Z6 v s) (NN e) 0 (NN (v.1 (1444 + NN s))) (ln v)).2) := sc_Sc h.i6.1 (fun i hi => rdW_hi hi _ _ _ ((lnV h.i6.2).Ok h.i6.2))
    rw [nf_n, nf_n, nfX_n, nfM_n]
    refine ⟨?_, h.tsc tT tS, tT.f5, tS.f6⟩
    show (rdW (Z5 u s) (NN e) 0 (NN (u.1 (430 + 2 * NN s + 1))) (vw u (91 * qP))).1 = (rdW (Z6 v s) (NN e) 0 (NN (v.1 (1444 + NN s))) (R6 v)).1
    rw [h.len hs, rdW_lv _ _ h.lv h.ix.1.1 he', rdW_z _ _ _ (fun i hi => Z_eq h hs (by omega))]
theorem mvI_o {u : MM} {a b n j : Nat} (h : j < b ∨ b + n ≤ j) : (mvI u a b n).1 j = u.1 j := by simp only [mvI]; rw [if_neg (by omega)]
theorem mvI_i {u : MM} {a b n i : Nat} (h : i < n) : (mvI u a b n).1 (b + i) = u.1 (a + i) := by simp only [mvI]; rw [if_pos (by omega), show b + i - b = i by omega]
theorem go_image {u v : MM} (h : Rl u v) : pX5_image u ∧ pX6_image v ∧ Act (rX5_image u) (rX6_image v) u (mX5_image u) v (mX6_image v) := by
  refine ⟨h.ix, trivial, rfl, ?_⟩
  have o1 : ∀ j, j < 182 ∨ 273 ≤ j → j ≠ 280 → (mX5_image u).1 j = u.1 j := fun j a c => by
    unfold mX5_image; rw [uI_o c]; exact cpq_out (by unfold qK; omega)
  have o2 : ∀ j, j < 1500 ∨ 1591 ≤ j → j ≠ 1007 → (mX6_image v).1 j = v.1 j := fun j a c => by
    unfold mX6_image; rw [uI_o c]; exact mvI_o (by omega)
  obtain ⟨h1, h2, h3, h4, h5⟩ := h
  have l1 : Lv (vw u (91 * qP)) (vw (mX0_become qK qP u) (91 * qK)) := bec_lv h1.1.1.1
  have l2 : Lv (vw (mX0_become qK qP u) (91 * qK)) (vw (mX5_image u) (91 * qK)) := Lv_ofO (l1.Ok h1.1.1.1) (fun i hi => (uI_o (show 91 * qK + i ≠ 280 by unfold qK; omega)).symm)
  have l3 : Lv (R6 v) (vw (mX6_image v) 1500) := Lv_ofO (h1.2.1.Ok h1.1.1.1) (fun i hi => by
    show v.1 (1100 + i) = (uI (mvI v 1100 1500 91) 1007 1).1 (1500 + i)
    rw [uI_o (by omega), mvI_i hi])
  exact ⟨⟨RH_cg h1 (fun j _ _ => o1 j (by omega) (by omega)) (fun j _ _ => o2 j (by omega) (by omega)) (o2 _ (by omega) (by omega)), ⟨by unfold mX5_image mX6_image; rw [uI_s, uI_s], fun _ => ⟨HC_lv h1.1 (l1.tr l2), (l1.tr l2).sy.tr (h1.2.1.tr l3)⟩⟩, RT_cg h3 (o1 _ (by omega) (by omega)) (fun j _ _ => o1 j (by omega) (by omega)) (o2 _ (by omega) (by omega)) (fun j _ _ => o2 j (by omega) (by omega)), RS_cg h4 (fun j _ _ => o1 j (by omega) (by omega)) (fun _ _ _ => rfl) (fun j _ _ => o2 j (by omega) (by omega)) (fun _ _ _ => rfl), RF_cg h5 (fun j _ _ => o1 j (by omega) (by omega)) (fun j _ _ => o2 j (by omega) (by omega))⟩, ⟨fun j hj => o1 j (by omega) (by omega), fun _ _ => rfl⟩, ⟨fun j hj => o2 j (by omega) (by omega), fun _ _ => rfl⟩⟩
theorem go_undo {u v : MM} (h : Rl u v) : pX5_undo u ∧ pX6_undo v ∧ Act (rX5_undo u) (rX6_undo v) u (mX5_undo u) v (mX6_undo v) := by
  refine ⟨fun z => (h.2.1.2 z).1.1.1, trivial, ?_⟩
  unfold rX5_undo rX6_undo mX5_undo mX6_undo
  rw [← h.2.1.1]
  by_cases q : u.1 280 = 0
  · rw [if_pos q, if_pos q, if_pos q, if_pos q]
    exact ⟨rfl, h.fnd (by decide), fnd_f5 (by decide), fnd_f6⟩
  · rw [if_neg q, if_neg q, if_neg q, if_neg q]
    obtain ⟨k1, k2⟩ := h.2.1.2 q
    have o1 : ∀ j, 91 ≤ j → (mX0_become qP qK u).1 j = u.1 j := fun j a => cpq_out (by unfold qP; omega)
    have o2 : ∀ j, j < 1100 ∨ 1191 ≤ j → (mvI v 1500 1100 91).1 j = v.1 j := fun j a => mvI_o (by omega)
    have l1 : Lv (vw u (91 * qK)) (vw (mX0_become qP qK u) (91 * qP)) := bec_lv k1.1.1
    have l3 : Lv (vw v 1500) (R6 (mvI v 1500 1100 91)) := Lv_ofO (k2.Ok k1.1.1) (fun i hi => (mvI_i hi).symm)
    refine ⟨k2.2.2.1, ?_, ⟨fun j hj => o1 j (by omega), fun _ _ => rfl⟩, ⟨fun j hj => o2 j (by omega), fun _ _ => rfl⟩⟩
    obtain ⟨h1, h2, h3, h4, h5⟩ := h
    exact ⟨⟨HC_lv k1 l1, l1.sy.tr (k2.tr l3), (o2 _ (by omega)).trans h1.2.2⟩, RK_cg h2 (fun j _ _ => o1 j (by omega)) (fun j _ _ => o2 j (by omega)) (o2 _ (by omega)), RT_cg h3 (o1 _ (by omega)) (fun j _ _ => o1 j (by omega)) (o2 _ (by omega)) (fun j _ _ => o2 j (by omega)), RS_cg h4 (fun j _ _ => o1 j (by omega)) (fun _ _ _ => rfl) (fun j _ _ => o2 j (by omega)) (fun _ _ _ => rfl), RF_cg h5 (fun j _ _ => o1 j (by omega)) (fun j _ _ => o2 j (by omega))⟩
theorem go_tear {u v : MM} (h : Rl u v) : pX5_tear u ∧ pX6_tear v ∧ Act (rX5_tear u) (rX6_tear v) u (mX5_tear u) v (mX6_tear v) := by
  refine ⟨trivial, trivial, by unfold rX5_tear rX6_tear; rw [h.2.1.1], ?_, ⟨fun j hj => uI_o (by omega), fun _ _ => rfl⟩, ⟨fun j hj => uI_o (by omega), fun _ _ => rfl⟩⟩
  obtain ⟨h1, h2, h3, h4, h5⟩ := h
  unfold mX5_tear mX6_tear
  exact ⟨RH_cg h1 (fun j _ _ => uI_o (by omega)) (fun j _ _ => uI_o (by omega)) (uI_o (by omega)), ⟨by rw [uI_s, uI_s], fun z => absurd uI_s z⟩, RT_cg h3 (uI_o (by omega)) (fun j _ _ => uI_o (by omega)) (uI_o (by omega)) (fun j _ _ => uI_o (by omega)), RS_cg h4 (fun j _ _ => uI_o (by omega)) (fun _ _ _ => rfl) (fun j _ _ => uI_o (by omega)) (fun _ _ _ => rfl), RF_cg h5 (fun j _ _ => uI_o (by omega)) (fun j _ _ => uI_o (by omega))⟩
theorem fsum_eq {f g : Nat → Int32} : ∀ n, (∀ k, k < n → f k = g k) → fsum f n = fsum g n
  | 0, _ => rfl
  | n + 1, h => by simp only [fsum]; rw [fsum_eq n (fun k hk => h k (by omega)), h n (by omega)]
theorem go_status (k : Int32) {u v : MM} (h : Rl u v) : pX5_status k u ∧ pX6_status k v ∧ Act (rX5_status k u) (rX6_status k v) u (mX5_status k u) v (mX6_status k v) := by
  refine ⟨trivial, trivial, ?_⟩
  unfold rX5_status rX6_status mX5_status mX6_status
  by_cases q : isWh k
  · have nq : ¬ ¬ isWh k := fun z => z q
    rw [if_neg nq, if_neg nq, if_neg nq, if_neg nq]
    refine ⟨?_, h, F5.rf u, F6.rf v⟩
    by_cases z : k < 0
    · rw [if_pos z, if_pos z]; exact fsum_eq 7 (fun i hi => h.2.2.2.2 i hi)
    · rw [if_neg z, if_neg z]
      obtain ⟨j, hj, rfl⟩ := v0_le (m := 6) (Int32.not_lt.mp z) q.2 rfl
      exact h.2.2.2.2 _ (by rw [NN_nI (by omega)]; omega)
  · rw [if_pos q, if_pos q, if_pos q, if_pos q]
    exact ⟨rfl, h.fnd (by decide), fnd_f5 (by decide), fnd_f6⟩
