/-! ===== the reference's hall: the items keep the bounds ===== -/
theorem seatAdd_Ok {R : Nat → Int32} (h : Ok R) (h6 : R 1 < 6) (p t : Int32) : Ok (seatAdd R p t) := by
  obtain ⟨hM, eM⟩ := h.M
  obtain ⟨hK, eK⟩ := h.K
  generalize hm : NN (R 1) = M at *
  generalize hk : NN (R 2) = K at *
  have m6 : M < 6 := by rw [eM] at h6; exact (nI_ltI (a := M) (b := 6) (by omega) (by decide)).mp h6
  have r1 : seatAdd R p t 1 = nI (M + 1) := by
    show R 1 + 1 = _
    rw [eM, nI_1]
  have r2 : seatAdd R p t 2 = nI K := by
    simp only [seatAdd, hm]
    rw [show ∀ (f : Nat → Int32) v, upd f 1 v 2 = f 2 from fun f v => rfl, hd_sst (by decide), hd_sst (by decide), hd_sst (by decide), eK]
  have n1 : NN (seatAdd R p t 1) = M + 1 := by rw [r1, NN_nI (by omega)]
  have n2 : NN (seatAdd R p t 2) = K := by rw [r2, NN_nI (by omega)]
  have up : ∀ (f : Nat → Int32) v {i : Nat}, 3 ≤ i → upd f 1 v i = f i := fun f v i hi => by simp only [upd]; rw [if_neg (by omega)]
  refine ⟨⟨M + 1, by omega, r1⟩, ⟨K, hK, r2⟩, fun s hs => ?_, fun c hc => ?_⟩
  · rw [n1] at hs; rw [n2]
    have e : se (seatAdd R p t) s 2 = if s = M then -1 else se R s 2 := by
      show seatAdd R p t (3 + 3 * s + 2) = _
      simp only [seatAdd, hm]
      rw [up _ _ (by omega)]
      show se (sst (sst (sst R M 0 p) M 1 t) M 2 (-1)) s 2 = _
      rw [se_sst (by decide) (by decide), se_sst (by decide) (by decide), se_sst (by decide) (by decide)]
      exact 0
    exact 0
  · rw [n2] at hc; rw [n1]
    have e : ∀ k, k < 7 → on (seatAdd R p t) c k = on R c k := fun k hk => by
      show seatAdd R p t (21 + 7 * c + k) = _
      simp only [seatAdd, hm]
      rw [up _ _ (by omega)]
      show on (sst (sst (sst R M 0 p) M 1 t) M 2 (-1)) c k = _
      rw [on_sst m6 (by decide), on_sst m6 (by decide), on_sst m6 (by decide)]
    rw [e 3 (by decide), e 5 (by decide)]
    have := h.2.2.2 c (by rw [hk]; exact hc)
    rw [hm] at this
    exact ⟨this.1.imp id (fun z => vi_mono z (by omega)), this.2.imp id (fun z => vi_mono z (by omega))⟩
