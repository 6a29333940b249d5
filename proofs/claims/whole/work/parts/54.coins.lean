/-! ===== coins and worths stay within bounds ===== -/
theorem Cv_cong {R S : Nat → Int32} {t : Nat} (h : Cv R t) (e0 : S 0 = R 0) (e1 : S 1 = R 1) (e2 : S 2 = R 2) (es : ∀ s, s < NN (R 1) → se S s 1 = se R s 1) (ec : ∀ c, c < NN (R 2) → on S c 4 = on R c 4) : Cv S t := by
  obtain ⟨h0, h1, h2⟩ := h
  refine ⟨by rw [e0]; exact h0, fun s hs => ?_, fun c hc => ?_⟩
  · rw [e1] at hs; rw [es s hs]; exact h1 s hs
  · rw [e2] at hc; rw [ec c hc]; exact h2 c hc
theorem ost_Cv {R : Nat → Int32} {t c k : Nat} {v : Int32} (h : Cv R t) (hM : NN (R 1) ≤ 6) (hk : k < 7) (h4 : k ≠ 4) : Cv (ost R c k v) t :=
  Cv_cong h hd0_ost hd1_ost hd2_ost (fun s hs => se_ost1 (by omega)) (fun d _ => on_ost_ne hk (by decide) (Ne.symm h4))
theorem sst_Cv {R : Nat → Int32} {t s : Nat} {v : Int32} (h : Cv R t) (hs6 : s < 6) (hv : ∃ x, x ≤ 99 ∧ v = nI x) : Cv (sst R s 1 v) t := by
  obtain ⟨h0, h1, h2⟩ := h
  refine ⟨by rw [hd_sst (by decide)]; exact h0, fun d hd => ?_, fun c hc => ?_⟩
  · rw [hd1_sst] at hd
    rw [se_sst (by decide) (by decide)]
    split
    · exact hv
    · exact h1 d hd
  · rw [hd2_sst] at hc
    rw [on_sst hs6 (by decide)]; exact h2 c hc
theorem falls_Cv {R : Nat → Int32} {t : Nat} {s to : Int32} (h : Cv R t) (hM : NN (R 1) ≤ 6) (hs : NN s < 6) : Cv (fallsP R s to) t :=
  Cv_cong h (fallsP_hd (by decide)) (fallsP_hd (by decide)) (fallsP_hd (by decide)) (fun d hd => by rw [se_falls (by omega) (by decide), if_neg (fun z => absurd z.2 (by decide))]) (fun d _ => by rw [on_falls hs (by decide), if_neg (fun z => absurd z.2.2 (by decide)), if_neg (fun z => absurd z.2.2 (by decide)), if_neg (fun z => absurd z.2.2 (by decide))])
theorem up_Cv {R : Nat → Int32} {t : Nat} {s : Int32} (h : Cv R t) (hM : NN (R 1) ≤ 6) : Cv (upP R s) t :=
  Cv_cong h (upP_hd (by decide)) (upP_hd (by decide)) (upP_hd (by decide)) (fun d hd => se_up (by omega) (by decide)) (fun d _ => by rw [on_up (by decide), if_neg (fun z => absurd z.2 (by decide)), if_neg (fun z => absurd z.2 (by decide)), if_neg (fun z => absurd z.2 (by decide))])
theorem rises_Cv {R : Nat → Int32} {t : Nat} {s : Int32} (h : Cv R t) (hM : NN (R 1) ≤ 6) (hs : NN s < 6) : Cv (risesP R s) t := by
  unfold risesP
  exact falls_Cv (up_Cv h hM) (by rw [upP_hd (by decide)]; exact hM) hs
theorem wk_Cv {c : Nat} {x : Int32} {t : Nat} : ∀ (n : Nat) (R : Nat → Int32), Cv R t → NN (R 1) ≤ 6 → Cv (wk c x n R) t
  | 0, _, h, _ => h
  | n + 1, R, h, hM => by
    simp only [wk]; split
    · exact wk_Cv n _ (ost_Cv h hM (by decide) (by decide)) (by rw [hd1_ost]; exact hM)
    · exact h
theorem wa_Cv {R : Nat → Int32} {t : Nat} (h : Cv R t) (hM : NN (R 1) ≤ 6) : ∀ n, Cv (wa R n) t
  | 0 => h
  | n + 1 => by
    simp only [wa]; split
    · exact wk_Cv _ _ (wa_Cv h hM n) (by rw [wa_hd R (by decide)]; exact hM)
    · exact wa_Cv h hM n
theorem seat1_Cv {R : Nat → Int32} {t s : Nat} (h : Cv R t) (hM : NN (R 1) ≤ 6) (hs : s < NN (R 1)) : Cv (seat1 R s) t := by
  have hN : NN (nI s) = s := NN_nI (by omega)
  unfold seat1; split
  · exact falls_Cv h hM (by omega)
  · split
    · exact rises_Cv h hM (by omega)
    · exact h
theorem ss_Cv {R : Nat → Int32} {t : Nat} (h : Cv R t) (hM : NN (R 1) ≤ 6) : ∀ n, n ≤ NN (R 1) → Cv (ss R n) t
  | 0, _ => h
  | n + 1, hn => seat1_Cv (ss_Cv h hM n (by omega)) (by rw [ss_hd R (by decide)]; exact hM) (by rw [ss_hd R (by decide)]; omega)
theorem pa_on5 (R : Nat → Int32) (c : Nat) : ∀ n, on (pa R n) c 5 = on R c 5
  | 0 => rfl
  | n + 1 => by
    simp only [pa, pay1]; split
    · exact pa_on5 R c n
    · rw [on_ost_ne (by decide) (by decide) (by decide), on_ost_ne (by decide) (by decide) (by decide)]; exact pa_on5 R c n
theorem pa_se (R : Nat → Int32) {s k : Nat} (hs : s < 6) (hk : k < 3) : ∀ n, se (pa R n) s k = se R s k
  | 0 => rfl
  | n + 1 => by
    simp only [pa, pay1]; split
    · exact pa_se R hs hk n
    · rw [se_ost hs hk, se_ost hs hk]; exact pa_se R hs hk n
theorem pa_on4 {R : Nat → Int32} (hO : Ok R) (c : Nat) : ∀ n, n ≤ NN (R 2) → on (pa R n) c 4 = if c < n ∧ ¬ on R c 5 < 0 then on R c 4 + se R (NN (on R c 5)) 1 else on R c 4
  | 0, _ => by rw [if_neg (fun z => by omega)]; rfl
  | n + 1, hn => by
    have ih := pa_on4 hO c n (by omega)
    simp only [pa, pay1]
    rw [pa_on5]
    by_cases d : on R n 5 < 0
    · rw [if_pos d, ih]
      refine ifq ⟨fun z => ⟨by omega, z.2⟩, fun z => ⟨?_, z.2⟩⟩
      have : c ≠ n := fun e => z.2 (by rw [e]; exact d)
      omega
    · rw [if_neg d]
      have hs := vi_lt ((hO.2.2.2 n (by omega)).2.resolve_left d)
      have hM := hO.M.1
      by_cases e : c = n
      · subst e
        rw [on_ost_eq, ih, if_neg (fun z => by omega), if_pos ⟨by omega, d⟩, pa_se R (by omega) (by decide)]
      · rw [on_ost_nc (by decide) (by decide) e, on_ost_nc (by decide) (by decide) e, ih]
        exact ifq ⟨fun z => ⟨by omega, z.2⟩, fun z => ⟨by omega, z.2⟩⟩
theorem sec_Cv {R : Nat → Int32} {t : Nat} (h : Cv R t) (hO : Ok R) : Cv (secP R) (t + 1) := by
  have hM := hO.M.1
  have hK := hO.K.1
  have a1 : wa R (NN (R 2)) 1 = R 1 := wa_hd R (by decide) _
  have aO := wa_Ok hO (NN (R 2))
  have bO := ss_Ok aO (NN (R 1)) (by rw [a1]; exact Nat.le_refl _)
  have bC := ss_Cv (wa_Cv h hM (NN (R 2))) (by rw [a1]; exact hM) (NN (R 1)) (by rw [a1]; exact Nat.le_refl _)
  have b1 : ss (wa R (NN (R 2))) (NN (R 1)) 1 = R 1 := (ss_hd _ (by decide) _).trans a1
  have b2 : ss (wa R (NN (R 2))) (NN (R 1)) 2 = R 2 := (ss_hd _ (by decide) _).trans (wa_hd R (by decide) _)
  obtain ⟨c0, c1, c2⟩ := bC
  refine ⟨?_, fun s hs => ?_, fun c hc => ?_⟩
  · rw [secP_0, h.1, nI_1]
  · rw [secP_12.1] at hs
    show ∃ v, v ≤ 99 ∧ se (upd (pa (ss (wa R (NN (R 2))) (NN (R 1))) (NN (R 2))) 0 (R 0 + 1)) s 1 = nI v
    rw [se_u0 (by decide), pa_se _ (by omega) (by decide)]
    exact c1 s (by rw [b1]; exact hs)
  · rw [secP_12.2] at hc
    show ∃ x, x ≤ 99 * (t + 1) ∧ on (upd (pa (ss (wa R (NN (R 2))) (NN (R 1))) (NN (R 2))) 0 (R 0 + 1)) c 4 = nI x
    rw [on_u0 (by decide), pa_on4 bO c _ (by rw [b2]; exact Nat.le_refl _)]
    obtain ⟨x, x1, x2⟩ := c2 c (by rw [b2]; exact hc)
    split
    · rename_i z
      have hs := vi_lt ((bO.2.2.2 c (by rw [b2]; exact hc)).2.resolve_left z.2)
      obtain ⟨y, y1, y2⟩ := c1 _ hs
      exact ⟨x + y, by omega, by rw [x2, y2, nI_add]⟩
    · exact ⟨x, by omega, x2⟩
theorem go_Cv {R : Nat → Int32} {t : Nat} (h : Cv R t) (hO : Ok R) : ∀ n, Cv (goP n R) (t + n)
  | 0 => h
  | n + 1 => sec_Cv (go_Cv h hO n) (goP_Ok hO n)
theorem seatAdd_Cv {R : Nat → Int32} {t : Nat} {p v : Int32} (h : Cv R t) (hO : Ok R) (hM : NN (R 1) < 6) (hv : ∃ x, x ≤ 99 ∧ v = nI x) : Cv (seatAdd R p v) t := by
  have eM := hO.M.2
  obtain ⟨h0, h1, h2⟩ := h
  have e1 : seatAdd R p v 1 = nI (NN (R 1) + 1) := by
    show R 1 + 1 = _; rw [← nI_1, ← eM]
  refine ⟨?_, fun s hs => ?_, fun c hc => ?_⟩
  · unfold seatAdd
    rw [show ∀ (f : Nat → Int32) x, upd f 1 x 0 = f 0 from fun _ _ => rfl, hd_sst (by decide), hd_sst (by decide), hd_sst (by decide)]; exact h0
  · rw [e1, NN_nI (by omega)] at hs
    unfold seatAdd
    rw [se_u0 (by decide), se_sst (by decide) (by decide), if_neg (fun z => absurd z.2 (by decide)), se_sst (by decide) (by decide)]
    split
    · exact hv
    · rename_i z
      rw [se_sst (by decide) (by decide), if_neg (fun y => absurd y.2 (by decide))]
      exact h1 s (by have : s ≠ NN (R 1) := fun y => z ⟨y, rfl⟩; omega)
  · have e2 : seatAdd R p v 2 = R 2 := by
      show sst (sst (sst R _ 0 p) _ 1 v) _ 2 (-1) 2 = _; rw [hd2_sst, hd2_sst, hd2_sst]
    rw [e2] at hc
    unfold seatAdd
    rw [on_u0 (by decide), on_sst hM (by decide), on_sst hM (by decide), on_sst hM (by decide)]
    exact h2 c hc
theorem oneAdd_Cv {R : Nat → Int32} {t : Nat} {k p o wi : Int32} (h : Cv R t) (hO : Ok R) (hK : NN (R 2) < 10) : Cv (oneAdd R k p o wi) t := by
  have eK := hO.K.2
  have hM := hO.M.1
  obtain ⟨h0, h1, h2⟩ := h
  have e2 : oneAdd R k p o wi 2 = nI (NN (R 2) + 1) := by
    show R 2 + 1 = _; rw [← nI_1, ← eK]
  have e1 : oneAdd R k p o wi 1 = R 1 := by
    unfold oneAdd
    rw [show ∀ (f : Nat → Int32) v, upd f 2 v 1 = f 1 from fun _ _ => rfl, hd1_ost, hd1_ost, hd1_ost, hd1_ost, hd1_ost, hd1_ost, hd1_ost]
  have e0 : oneAdd R k p o wi 0 = R 0 := by
    unfold oneAdd
    rw [show ∀ (f : Nat → Int32) v, upd f 2 v 0 = f 0 from fun _ _ => rfl, hd0_ost, hd0_ost, hd0_ost, hd0_ost, hd0_ost, hd0_ost, hd0_ost]
  refine ⟨by rw [e0]; exact h0, fun s hs => ?_, fun c hc => ?_⟩
  · rw [e1] at hs
    unfold oneAdd
    rw [se_u0 (by decide), se_ost (by omega) (by decide), se_ost (by omega) (by decide), se_ost (by omega) (by decide), se_ost (by omega) (by decide), se_ost (by omega) (by decide), se_ost (by omega) (by decide), se_ost (by omega) (by decide)]
    exact h1 s hs
  · rw [e2, NN_nI (by omega)] at hc
    unfold oneAdd
    rw [on_u0 (by decide), on_ost_ne (by decide) (by decide) (by decide), on_ost_ne (by decide) (by decide) (by decide), on_ost (by decide) (by decide)]
    split
    · exact ⟨0, Nat.zero_le _, rfl⟩
    · rename_i z
      rw [on_ost_ne (by decide) (by decide) (by decide), on_ost_ne (by decide) (by decide) (by decide), on_ost_ne (by decide) (by decide) (by decide), on_ost_ne (by decide) (by decide) (by decide)]
      exact h2 c (by have : c ≠ NN (R 2) := fun y => z ⟨y, rfl⟩; omega)
/-- coins are no negative numbers, however one wills -/
theorem coinsW_pos {R : Nat → Int32} {t c k n : Nat} {v : Int32} (h : Cv R t) (hO : Ok (ost R c k v)) (hM : NN (R 1) ≤ 6) (hk : k < 7) (h4 : k ≠ 4) (hc : c < NN (R 2)) (ht : t + n ≤ 20000) : -1 < coinsW R c k v n := by
  have := (go_Cv (ost_Cv (c := c) (v := v) h hM hk h4) hO n).2.2 c (by rw [(goP_12 n).2, hd2_ost]; exact hc)
  obtain ⟨x, x1, x2⟩ := this
  unfold coinsW
  rw [x2]
  exact Int32.lt_of_lt_of_le (by decide) (nI_pos' (by omega))
