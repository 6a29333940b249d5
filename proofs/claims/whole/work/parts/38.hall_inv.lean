/-! ===== what holds of a hall between doings ===== -/
theorem ifq {α : Type} {p q : Prop} [Decidable p] [Decidable q] {a b : α} (h : p ↔ q) : (if p then a else b) = if q then a else b := by
  by_cases hp : p
  · rw [if_pos hp, if_pos (h.mp hp)]
  · rw [if_neg hp, if_neg (fun z => hp (h.mpr z))]
theorem vi_pos {v : Int32} {n : Nat} (h : vp_in v n) : ¬ v < 0 := fun z => h (Or.inl z)
theorem neg1 : (-1 : Int32) < 0 := by decide
theorem nI_ne1 {n : Nat} (h : n < 2 ^ 31) : ¬ nI n = -1 := fun z => nI_pos h (by rw [z]; decide)
theorem vi_ne1 {v : Int32} {n : Nat} (h : vp_in v n) : ¬ v = -1 := fun z => h (Or.inl (by rw [z]; decide))
/-- a seat's holder sits on it -/
def Hb (R : Nat → Int32) (s : Nat) : Prop := se R s 2 = -1 ∨ (vp_in (se R s 2) (NN (R 2)) ∧ on R (NN (se R s 2)) 5 = nI s)
/-- one is of a kind, wills a seat or none, sits on none or on the place of one -/
def Hc (R : Nat → Int32) (c : Nat) : Prop := kO (on R c 0) ∧ (on R c 3 = -1 ∨ vp_in (on R c 3) (NN (R 1))) ∧ (on R c 5 = -1 ∨ (vp_in (on R c 5) (NN (R 1)) ∧ on R c 1 = se R (NN (on R c 5)) 0))
/-- of all seats but x -/
def Hx (R : Nat → Int32) (x : Nat) : Prop := Ok R ∧ (∀ s, s < NN (R 1) → s ≠ x → Hb R s) ∧ (∀ c, c < NN (R 2) → Hc R c)
abbrev Hv (R : Nat → Int32) : Prop := Hx R 9
theorem Hb.neg {R : Nat → Int32} {s : Nat} (h : Hb R s) : se R s 2 < 0 ↔ se R s 2 = -1 :=
  ⟨fun z => h.elim id (fun q => absurd z (vi_pos q.1)), fun z => by rw [z]; decide⟩
theorem Hc.sit {R : Nat → Int32} {c : Nat} (h : Hc R c) : on R c 5 < 0 ↔ on R c 5 = -1 :=
  ⟨fun z => h.2.2.elim id (fun q => absurd z (vi_pos q.1)), fun z => by rw [z]; decide⟩
theorem Hc.wil {R : Nat → Int32} {c : Nat} (h : Hc R c) : on R c 3 < 0 ↔ on R c 3 = -1 :=
  ⟨fun z => h.2.1.elim id (fun q => absurd z (vi_pos q)), fun z => by rw [z]; decide⟩
theorem Hv.b {R : Nat → Int32} (h : Hv R) {s : Nat} (hs : s < NN (R 1)) : Hb R s := h.2.1 s hs (by have := h.1.M.1; omega)
theorem Hv.c {R : Nat → Int32} (h : Hv R) {c : Nat} (hc : c < NN (R 2)) : Hc R c := h.2.2 c hc
theorem Hx_cong {R S : Nat → Int32} {x : Nat} (h : Hx R x) (e1 : S 1 = R 1) (e2 : S 2 = R 2) (es : ∀ s, s < NN (R 1) → se S s 0 = se R s 0 ∧ se S s 2 = se R s 2) (ec : ∀ c, c < NN (R 2) → on S c 0 = on R c 0 ∧ on S c 1 = on R c 1 ∧ on S c 3 = on R c 3 ∧ on S c 5 = on R c 5) : Hx S x := by
  obtain ⟨⟨o1, o2, o3, o4⟩, hb, hc⟩ := h
  refine ⟨⟨by rw [e1]; exact o1, by rw [e2]; exact o2, fun s hs => ?_, fun c hs => ?_⟩, fun s hs hx => ?_, fun c hs => ?_⟩
  · rw [e1] at hs; rw [e2, (es s hs).2]; exact o3 s hs
  · rw [e2] at hs; rw [e1, (ec c hs).2.2.1, (ec c hs).2.2.2]; exact o4 c hs
  · rw [e1] at hs
    have := hb s hs hx
    unfold Hb at this ⊢
    rw [e2, (es s hs).2]
    rcases this with q | q
    · exact Or.inl q
    · exact Or.inr ⟨q.1, by rw [(ec _ (vi_lt q.1)).2.2.2]; exact q.2⟩
  · rw [e2] at hs
    have := hc c hs
    unfold Hc at this ⊢
    rw [e1, (ec c hs).1, (ec c hs).2.1, (ec c hs).2.2.1, (ec c hs).2.2.2]
    refine ⟨this.1, this.2.1, ?_⟩
    rcases this.2.2 with q | q
    · exact Or.inl q
    · exact Or.inr ⟨q.1, by rw [(es _ (vi_lt q.1)).1]; exact q.2⟩
theorem Hx_lv {R S : Nat → Int32} {x : Nat} (h : Hx R x) (l : Lv R S) : Hx S x :=
  Hx_cong h l.2.1.symm l.2.2.1.symm (fun s hs => ⟨(l.2.2.2.1 s hs 0 (by decide)).symm, (l.2.2.2.1 s hs 2 (by decide)).symm⟩) (fun c hc => ⟨(l.2.2.2.2 c hc 0 (by decide)).symm, (l.2.2.2.2 c hc 1 (by decide)).symm, (l.2.2.2.2 c hc 3 (by decide)).symm, (l.2.2.2.2 c hc 5 (by decide)).symm⟩)
theorem u0_Hx {R : Nat → Int32} {x : Nat} {v : Int32} (h : Hx R x) : Hx (upd R 0 v) x :=
  Hx_cong h rfl rfl (fun s _ => ⟨se_u0 (by decide), se_u0 (by decide)⟩) (fun c _ => ⟨on_u0 (by decide), on_u0 (by decide), on_u0 (by decide), on_u0 (by decide)⟩)
/-- toes, coins, sat -/
theorem ost_HxF {R : Nat → Int32} {x c k : Nat} {v : Int32} (h : Hx R x) (hk : k = 2 ∨ k = 4 ∨ k = 6) : Hx (ost R c k v) x := by
  have hM := h.1.M.1
  have h7 : k < 7 := by omega
  refine Hx_cong h hd1_ost hd2_ost (fun s hs => ⟨se_ost (by omega) (by decide), se_ost (by omega) (by decide)⟩) (fun d _ => ⟨on_ost_ne h7 (by decide) (by omega), on_ost_ne h7 (by decide) (by omega), on_ost_ne h7 (by decide) (by omega), on_ost_ne h7 (by decide) (by omega)⟩)
theorem sst_HxW {R : Nat → Int32} {x s : Nat} {v : Int32} (h : Hx R x) (hs : s < 6) : Hx (sst R s 1 v) x :=
  Hx_cong h hd1_sst hd2_sst (fun t _ => ⟨by rw [se_sst (by decide) (by decide), if_neg (fun z => absurd z.2 (by decide))], by rw [se_sst (by decide) (by decide), if_neg (fun z => absurd z.2 (by decide))]⟩) (fun d _ => ⟨on_sst hs (by decide), on_sst hs (by decide), on_sst hs (by decide), on_sst hs (by decide)⟩)
/-- kind, will; a place, of one who stands -/
theorem ost_Hx {R : Nat → Int32} {x c k : Nat} {v : Int32} (h : Hx R x) (hk : k < 4) (h0 : k = 0 → kO v) (h1 : k = 1 → on R c 5 = -1) (h3 : k = 3 → v = -1 ∨ vp_in v (NN (R 1))) : Hx (ost R c k v) x := by
  have hM := h.1.M.1
  have h7 : k < 7 := by omega
  obtain ⟨hO, hb, hc⟩ := h
  refine ⟨ost_Ok hO h7 (fun z => (h3 z).elim (fun q => Or.inl (by rw [q]; decide)) Or.inr) (fun z => by omega), fun s hs hx => ?_, fun d hd => ?_⟩
  · rw [hd1_ost] at hs
    have := hb s hs hx
    unfold Hb at this ⊢
    rw [hd2_ost, se_ost (by omega) (by decide), on_ost_ne h7 (by decide) (by omega)]
    exact this
  · rw [hd2_ost] at hd
    have := hc d hd
    unfold Hc at this ⊢
    rw [hd1_ost, on_ost_ne (k' := 5) h7 (by decide) (by omega), on_ost h7 (by decide), on_ost h7 (by decide), on_ost h7 (by decide)]
    refine ⟨?_, ?_, ?_⟩
    · split
      · rename_i z; exact h0 z.2.symm
      · exact this.1
    · split
      · rename_i z; exact h3 z.2.symm
      · exact this.2.1
    · rcases this.2.2 with q | q
      · exact Or.inl q
      · refine Or.inr ⟨q.1, ?_⟩
        rw [if_neg (fun z => vi_ne1 q.1 (by rw [z.1]; exact h1 z.2.symm)), se_ost (by have := vi_lt q.1; omega) (by decide)]
        exact q.2
-- the numbers behind a fall
theorem se_falls {R : Nat → Int32} {s to : Int32} {t k : Nat} (ht : t < 6) (hk : k < 3) : se (fallsP R s to) t k = if t = NN s ∧ k = 2 then to else se R t k := by
  unfold fallsP; split
  · exact se_sst (by decide) hk
  · rw [se_ost ht hk, se_ost ht hk, se_ost ht hk]; exact se_sst (by decide) hk
theorem on_falls {R : Nat → Int32} {s to : Int32} {d k : Nat} (hs : NN s < 6) (hk : k < 7) : on (fallsP R s to) d k = if ¬ to < 0 ∧ d = NN to ∧ k = 1 then se R (NN s) 0 else if ¬ to < 0 ∧ d = NN to ∧ k = 6 then 0 else if ¬ to < 0 ∧ d = NN to ∧ k = 5 then s else on R d k := by
  unfold fallsP; split
  · rename_i z
    rw [if_neg (fun q => q.1 z), if_neg (fun q => q.1 z), if_neg (fun q => q.1 z)]
    exact on_sst hs (by decide)
  · rename_i z
    rw [on_ost (by decide) hk, on_ost (by decide) hk, on_ost (by decide) hk, on_sst hs (by decide)]
    simp only [z, not_false_eq_true, true_and]
theorem se_up {R : Nat → Int32} {s : Int32} {t k : Nat} (ht : t < 6) (hk : k < 3) : se (upP R s) t k = se R t k := by
  unfold upP; rw [se_ost ht hk, se_ost ht hk, se_ost ht hk]
theorem on_up {R : Nat → Int32} {s : Int32} {d k : Nat} (hk : k < 7) : on (upP R s) d k = if d = NN (se R (NN s) 2) ∧ k = 1 then se R (NN s) 0 else if d = NN (se R (NN s) 2) ∧ k = 6 then 0 else if d = NN (se R (NN s) 2) ∧ k = 5 then -1 else on R d k := by
  unfold upP; rw [on_ost (by decide) hk, on_ost (by decide) hk, on_ost (by decide) hk]
theorem on_up_ne {R : Nat → Int32} {s : Int32} {d k : Nat} (hk : k < 7) (hd : d ≠ NN (se R (NN s) 2)) : on (upP R s) d k = on R d k := by
  rw [on_up hk, if_neg (fun z => hd z.1), if_neg (fun z => hd z.1), if_neg (fun z => hd z.1)]
/-- a seat falls: to nobody, or to one who stands -/
theorem fallsP_Hx {R : Nat → Int32} {s : Nat} {to : Int32} (h : Hx R s) (hs : s < NN (R 1)) (ht : to = -1 ∨ (vp_in to (NN (R 2)) ∧ on R (NN to) 5 = -1)) : Hv (fallsP R (nI s) to) := by
  have hM := h.1.M.1
  have hN : NN (nI s) = s := NN_nI (by omega)
  have e1 : fallsP R (nI s) to 1 = R 1 := fallsP_hd (by decide)
  have e2 : fallsP R (nI s) to 2 = R 2 := fallsP_hd (by decide)
  have hO : Ok (fallsP R (nI s) to) := fallsP_Ok h.1 (vi_nI hs (by omega)) (ht.elim (fun q => Or.inl (by rw [q]; decide)) (fun q => Or.inr q.1))
  have key : ∀ d, on R d 5 ≠ -1 → ∀ k, k < 7 → on (fallsP R (nI s) to) d k = on R d k := fun d hd k hk => by
    rw [on_falls (by rw [hN]; omega) hk]
    have : ¬ (¬ to < 0 ∧ d = NN to) := fun z => by
      rcases ht with q | q
      · exact z.1 (by rw [q]; decide)
      · exact hd (by rw [z.2]; exact q.2)
    rw [if_neg (fun z => this ⟨z.1, z.2.1⟩), if_neg (fun z => this ⟨z.1, z.2.1⟩), if_neg (fun z => this ⟨z.1, z.2.1⟩)]
  refine ⟨hO, fun t hts _ => ?_, fun d hd => ?_⟩
  · rw [e1] at hts
    unfold Hb
    rw [e2, se_falls (by omega) (by decide), hN]
    by_cases e : t = s
    · rw [if_pos ⟨e, rfl⟩]
      rcases ht with q | q
      · exact Or.inl q
      · refine Or.inr ⟨q.1, ?_⟩
        rw [on_falls (by rw [hN]; omega) (by decide), if_neg (fun z => absurd z.2.2 (by decide)), if_neg (fun z => absurd z.2.2 (by decide)), if_pos ⟨vi_pos q.1, rfl, rfl⟩, e]
    · rw [if_neg (fun z => e z.1)]
      have := h.2.1 t hts e
      unfold Hb at this
      rcases this with q | q
      · exact Or.inl q
      · refine Or.inr ⟨q.1, ?_⟩
        rw [key _ (by rw [q.2]; exact nI_ne1 (by omega)) 5 (by decide)]
        exact q.2
  · rw [e2] at hd
    have hc := h.2.2 d hd
    by_cases e : ¬ to < 0 ∧ d = NN to
    · obtain ⟨e0, rfl⟩ := e
      have tin : vp_in to (NN (R 2)) := ht.elim (fun q => absurd (by rw [q]; decide) e0) (fun q => q.1)
      have f0 : on (fallsP R (nI s) to) (NN to) 0 = on R (NN to) 0 := by
        rw [on_falls (by rw [hN]; omega) (by decide), if_neg (fun z => absurd z.2.2 (by decide)), if_neg (fun z => absurd z.2.2 (by decide)), if_neg (fun z => absurd z.2.2 (by decide))]
      have f3 : on (fallsP R (nI s) to) (NN to) 3 = on R (NN to) 3 := by
        rw [on_falls (by rw [hN]; omega) (by decide), if_neg (fun z => absurd z.2.2 (by decide)), if_neg (fun z => absurd z.2.2 (by decide)), if_neg (fun z => absurd z.2.2 (by decide))]
      have f5 : on (fallsP R (nI s) to) (NN to) 5 = nI s := by
        rw [on_falls (by rw [hN]; omega) (by decide), if_neg (fun z => absurd z.2.2 (by decide)), if_neg (fun z => absurd z.2.2 (by decide)), if_pos ⟨e0, rfl, rfl⟩]
      have f1 : on (fallsP R (nI s) to) (NN to) 1 = se R s 0 := by
        rw [on_falls (by rw [hN]; omega) (by decide), if_pos ⟨e0, rfl, rfl⟩, hN]
      unfold Hc at hc ⊢
      rw [f0, f3, f5, f1, e1, hN, se_falls (by omega) (by decide), if_neg (fun z => absurd z.2 (by decide))]
      exact ⟨hc.1, hc.2.1, Or.inr ⟨vi_nI hs (by omega), rfl⟩⟩
    · have f : ∀ k, k < 7 → on (fallsP R (nI s) to) d k = on R d k := fun k hk => by
        rw [on_falls (by rw [hN]; omega) hk, if_neg (fun z => e ⟨z.1, z.2.1⟩), if_neg (fun z => e ⟨z.1, z.2.1⟩), if_neg (fun z => e ⟨z.1, z.2.1⟩)]
      unfold Hc at hc ⊢
      rw [f 0 (by decide), f 1 (by decide), f 3 (by decide), f 5 (by decide), e1]
      refine ⟨hc.1, hc.2.1, ?_⟩
      rcases hc.2.2 with q | q
      · exact Or.inl q
      · refine Or.inr ⟨q.1, ?_⟩
        rw [se_falls (by have := vi_lt q.1; omega) (by decide), if_neg (fun z => absurd z.2 (by decide))]
        exact q.2
/-- a holder stands up -/
theorem upP_Hx {R : Nat → Int32} {s : Nat} (h : Hv R) (hs : s < NN (R 1)) (hh : ¬ se R s 2 < 0) : Hx (upP R (nI s)) s := by
  have hM := h.1.M.1
  have hN : NN (nI s) = s := NN_nI (by omega)
  have e1 : upP R (nI s) 1 = R 1 := upP_hd (by decide)
  have e2 : upP R (nI s) 2 = R 2 := upP_hd (by decide)
  have hb := (h.b hs).resolve_left (fun z => hh ((h.b hs).neg.mpr z))
  refine ⟨upP_Ok h.1, fun t ht hx => ?_, fun d hd => ?_⟩
  · rw [e1] at ht
    have := h.b ht
    unfold Hb at this ⊢
    rw [e2, se_up (by omega) (by decide)]
    rcases this with q | q
    · exact Or.inl q
    · refine Or.inr ⟨q.1, ?_⟩
      rw [on_up_ne (by decide) (fun z => ?_)]
      · exact q.2
      · rw [hN] at z
        rw [z, hb.2] at q
        exact hx ((nI_eq (by omega) (by omega)).mp q.2.symm)
  · rw [e2] at hd
    have hc := h.c hd
    unfold Hc at hc ⊢
    by_cases e : d = NN (se R s 2)
    · have f : ∀ k, k < 7 → k ≠ 1 → k ≠ 6 → k ≠ 5 → on (upP R (nI s)) d k = on R d k := fun k hk k1 k6 k5 => by
        rw [on_up hk, if_neg (fun z => k1 z.2), if_neg (fun z => k6 z.2), if_neg (fun z => k5 z.2)]
      rw [f 0 (by decide) (by decide) (by decide) (by decide), f 3 (by decide) (by decide) (by decide) (by decide), e1]
      refine ⟨hc.1, hc.2.1, Or.inl ?_⟩
      rw [on_up (by decide), if_neg (fun z => absurd z.2 (by decide)), if_neg (fun z => absurd z.2 (by decide)), if_pos ⟨by rw [hN]; exact e, rfl⟩]
    · have f : ∀ k, k < 7 → on (upP R (nI s)) d k = on R d k := fun k hk => on_up_ne hk (by rw [hN]; exact e)
      rw [f 0 (by decide), f 1 (by decide), f 3 (by decide), f 5 (by decide), e1]
      refine ⟨hc.1, hc.2.1, ?_⟩
      rcases hc.2.2 with q | q
      · exact Or.inl q
      · exact Or.inr ⟨q.1, by rw [se_up (by have := vi_lt q.1; omega) (by decide)]; exact q.2⟩
/-- who is next stands, is no page, and isn't the one left out -/
theorem nx_may (R : Nat → Int32) (p but : Int32) : ∀ n, nx R p but n = -1 ∨ ∃ c, c < n ∧ nx R p but n = nI c ∧ mayP R but c
  | 0 => Or.inl rfl
  | n + 1 => by
    simp only [nx]
    split
    · rename_i z; exact Or.inr ⟨n, Nat.lt_succ_self n, rfl, z.1⟩
    · rcases nx_may R p but n with h | ⟨c, h1, h2, h3⟩
      · exact Or.inl h
      · exact Or.inr ⟨c, by omega, h2, h3⟩
theorem nx_to {R : Nat → Int32} {x : Nat} (h : Hx R x) (p but : Int32) : nx R p but (NN (R 2)) = -1 ∨ (vp_in (nx R p but (NN (R 2))) (NN (R 2)) ∧ on R (NN (nx R p but (NN (R 2)))) 5 = -1) := by
  have hK := h.1.K.1
  rcases nx_may R p but (NN (R 2)) with q | ⟨c, h1, h2, h3⟩
  · exact Or.inl q
  · rw [h2, NN_nI (by omega)]
    exact Or.inr ⟨vi_nI h1 (by omega), (h.2.2 c h1).sit.mp h3.2.1⟩
theorem risesP_Hv {R : Nat → Int32} {s : Nat} (h : Hv R) (hs : s < NN (R 1)) (hh : ¬ se R s 2 < 0) : Hv (risesP R (nI s)) := by
  have hu := upP_Hx h hs hh
  have e1 : upP R (nI s) 1 = R 1 := upP_hd (by decide)
  have e2 : upP R (nI s) 2 = R 2 := upP_hd (by decide)
  unfold risesP
  rw [← e2]
  exact fallsP_Hx hu (by rw [e1]; exact hs) (nx_to hu _ _)
theorem Hv.any {R : Nat → Int32} (h : Hv R) (x : Nat) : Hx R x := ⟨h.1, fun s hs _ => h.b hs, h.2.2⟩
theorem wk_Hv {c : Nat} {t : Int32} : ∀ (n : Nat) (R : Nat → Int32), Hv R → on R c 5 = -1 → Hv (wk c t n R)
  | 0, _, h, _ => h
  | n + 1, R, h, h5 => by
    simp only [wk]; split
    · exact wk_Hv n _ (ost_Hx h (by decide) (fun z => absurd z (by decide)) (fun _ => h5) (fun z => absurd z (by decide))) (by rw [on_ost_ne (by decide) (by decide) (by decide)]; exact h5)
    · exact h
theorem wa_Hv {R : Nat → Int32} (h : Hv R) : ∀ n, n ≤ NN (R 2) → Hv (wa R n)
  | 0, _ => h
  | n + 1, hn => by
    have ih := wa_Hv h n (by omega)
    simp only [wa]; split
    · rename_i z
      exact wk_Hv _ _ ih ((ih.c (by rw [wa_hd R (by decide)]; omega)).sit.mp z.1)
    · exact ih
theorem seat1_Hv {R : Nat → Int32} {s : Nat} (h : Hv R) (hs : s < NN (R 1)) : Hv (seat1 R s) := by
  unfold seat1; split
  · exact fallsP_Hx (h.any s) hs (nx_to h _ _)
  · rename_i z
    split
    · exact risesP_Hv h hs z
    · exact h
theorem ss_Hv {R : Nat → Int32} (h : Hv R) : ∀ n, n ≤ NN (R 1) → Hv (ss R n)
  | 0, _ => h
  | n + 1, hn => seat1_Hv (ss_Hv h n (by omega)) (by rw [ss_hd R (by decide)]; omega)
theorem pay1_Hv {R : Nat → Int32} {c : Nat} (h : Hv R) : Hv (pay1 R c) := by
  unfold pay1; split
  · exact h
  · exact ost_HxF (ost_HxF h (Or.inr (Or.inr rfl))) (Or.inr (Or.inl rfl))
theorem pa_Hv {R : Nat → Int32} (h : Hv R) : ∀ n, Hv (pa R n)
  | 0 => h
  | n + 1 => pay1_Hv (pa_Hv h n)
theorem secP_Hv {R : Nat → Int32} (h : Hv R) : Hv (secP R) :=
  u0_Hx (pa_Hv (ss_Hv (wa_Hv h _ (Nat.le_refl _)) _ (by rw [wa_hd R (by decide)]; exact Nat.le_refl _)) _)
theorem goP_Hv {R : Nat → Int32} (h : Hv R) : ∀ n, Hv (goP n R)
  | 0 => h
  | n + 1 => secP_Hv (goP_Hv h n)
theorem seatAdd_Hv {R : Nat → Int32} {p t : Int32} (h : Hv R) (hM : NN (R 1) < 6) : Hv (seatAdd R p t) := by
  obtain ⟨hK6, eM⟩ := h.1.M
  have hK := h.1.K
  have e1 : seatAdd R p t 1 = nI (NN (R 1) + 1) := by
    show R 1 + 1 = _; rw [← nI_1, ← eM]
  have n1 : NN (seatAdd R p t 1) = NN (R 1) + 1 := by rw [e1, NN_nI (by omega)]
  have e2 : seatAdd R p t 2 = R 2 := by
    show sst (sst (sst R _ 0 p) _ 1 t) _ 2 (-1) 2 = _; rw [hd2_sst, hd2_sst, hd2_sst]
  have es : ∀ s k, k < 3 → se (seatAdd R p t) s k = if s = NN (R 1) ∧ k = 2 then -1 else if s = NN (R 1) ∧ k = 1 then t else if s = NN (R 1) ∧ k = 0 then p else se R s k := fun s k hk => by
    unfold seatAdd; rw [se_u0 (by decide), se_sst (by decide) hk, se_sst (by decide) hk, se_sst (by decide) hk]
  have es2 : ∀ s, s < NN (R 1) → ∀ k, k < 3 → se (seatAdd R p t) s k = se R s k := fun s hs k hk => by
    rw [es s k hk, if_neg (fun z => by omega), if_neg (fun z => by omega), if_neg (fun z => by omega)]
  have eo : ∀ c k, on (seatAdd R p t) c k = on R c k := fun c k => by
    unfold seatAdd; rw [on_u0 (by decide), on_sst hM (by decide), on_sst hM (by decide), on_sst hM (by decide)]
  have hb : ∀ s, s < NN (seatAdd R p t 1) → Hb (seatAdd R p t) s := fun s hs => by
    unfold Hb; rw [e2]
    by_cases e : s = NN (R 1)
    · rw [es s 2 (by decide), if_pos ⟨e, rfl⟩]; exact Or.inl rfl
    · rw [es2 s (by omega) 2 (by decide), eo]; exact h.b (by omega)
  have hc : ∀ c, c < NN (seatAdd R p t 2) → Hc (seatAdd R p t) c := fun c hc => by
    rw [e2] at hc
    have := h.c hc
    unfold Hc at this ⊢
    rw [eo, eo, eo, eo, n1]
    refine ⟨this.1, this.2.1.imp id (fun q => vi_mono q (by omega)), this.2.2.imp id (fun q => ⟨vi_mono q.1 (by omega), ?_⟩)⟩
    rw [es2 _ (vi_lt q.1) 0 (by decide)]; exact q.2
  refine ⟨⟨⟨NN (R 1) + 1, by omega, e1⟩, ⟨NN (R 2), hK.1, by rw [e2]; exact hK.2⟩, fun s hs => ?_, fun c hcc => ?_⟩, fun s hs _ => hb s hs, hc⟩
  · exact (hb s hs).imp (fun q => by rw [q]; decide) (fun q => q.1)
  · exact ⟨(hc c hcc).2.1.imp (fun q => by rw [q]; decide) id, (hc c hcc).2.2.imp (fun q => by rw [q]; decide) (fun q => q.1)⟩
theorem oneAdd_Hv {R : Nat → Int32} {k p t wi : Int32} (h : Hv R) (hK : NN (R 2) < 10) (hk : kO k) (hw : wi = -1 ∨ vp_in wi (NN (R 1))) : Hv (oneAdd R k p t wi) := by
  obtain ⟨hM, eM⟩ := h.1.M
  have eK := h.1.K.2
  have e2 : oneAdd R k p t wi 2 = nI (NN (R 2) + 1) := by
    show R 2 + 1 = _; rw [← nI_1, ← eK]
  have n2 : NN (oneAdd R k p t wi 2) = NN (R 2) + 1 := by rw [e2, NN_nI (by omega)]
  have e1 : oneAdd R k p t wi 1 = R 1 := by
    unfold oneAdd
    rw [show ∀ (f : Nat → Int32) v, upd f 2 v 1 = f 1 from fun _ _ => rfl, hd1_ost, hd1_ost, hd1_ost, hd1_ost, hd1_ost, hd1_ost, hd1_ost]
  have es : ∀ s, s < NN (R 1) → ∀ j, j < 3 → se (oneAdd R k p t wi) s j = se R s j := fun s hs j hj => by
    unfold oneAdd; rw [se_u0 (by decide), se_ost (by omega) hj, se_ost (by omega) hj, se_ost (by omega) hj, se_ost (by omega) hj, se_ost (by omega) hj, se_ost (by omega) hj, se_ost (by omega) hj]
  have eo : ∀ c, c ≠ NN (R 2) → ∀ j, j < 7 → on (oneAdd R k p t wi) c j = on R c j := fun c hc j hj => by
    unfold oneAdd; rw [on_u0 (by decide), on_ost_nc (by decide) hj hc, on_ost_nc (by decide) hj hc, on_ost_nc (by decide) hj hc, on_ost_nc (by decide) hj hc, on_ost_nc (by decide) hj hc, on_ost_nc (by decide) hj hc, on_ost_nc (by decide) hj hc]
  have n0 : on (oneAdd R k p t wi) (NN (R 2)) 0 = k := by
    unfold oneAdd; rw [on_u0 (by decide), on_ost_ne (by decide) (by decide) (by decide), on_ost_ne (by decide) (by decide) (by decide), on_ost_ne (by decide) (by decide) (by decide), on_ost_ne (by decide) (by decide) (by decide), on_ost_ne (by decide) (by decide) (by decide), on_ost_ne (by decide) (by decide) (by decide), on_ost_eq]
  have n3 : on (oneAdd R k p t wi) (NN (R 2)) 3 = wi := by
    unfold oneAdd; rw [on_u0 (by decide), on_ost_ne (by decide) (by decide) (by decide), on_ost_ne (by decide) (by decide) (by decide), on_ost_ne (by decide) (by decide) (by decide), on_ost_eq]
  have n5 : on (oneAdd R k p t wi) (NN (R 2)) 5 = -1 := by
    unfold oneAdd; rw [on_u0 (by decide), on_ost_ne (by decide) (by decide) (by decide), on_ost_eq]
  have hb : ∀ s, s < NN (oneAdd R k p t wi 1) → Hb (oneAdd R k p t wi) s := fun s hs => by
    rw [e1] at hs
    have := h.b hs
    unfold Hb at this ⊢
    rw [n2, es s hs 2 (by decide)]
    refine this.imp id (fun q => ⟨vi_mono q.1 (by omega), ?_⟩)
    rw [eo _ (by have := vi_lt q.1; omega) 5 (by decide)]; exact q.2
  have hc : ∀ c, c < NN (oneAdd R k p t wi 2) → Hc (oneAdd R k p t wi) c := fun c hc => by
    unfold Hc
    rw [e1]
    by_cases e : c = NN (R 2)
    · subst e
      rw [n0, n3, n5]
      exact ⟨hk, hw, Or.inl rfl⟩
    · have := h.c (c := c) (by omega)
      unfold Hc at this
      rw [eo c e 0 (by decide), eo c e 1 (by decide), eo c e 3 (by decide), eo c e 5 (by decide)]
      refine ⟨this.1, this.2.1, this.2.2.imp id (fun q => ⟨q.1, ?_⟩)⟩
      rw [es _ (vi_lt q.1) 0 (by decide)]; exact q.2
  refine ⟨⟨⟨NN (R 1), hM, by rw [e1]; exact eM⟩, ⟨NN (R 2) + 1, by omega, e2⟩, fun s hs => ?_, fun c hcc => ?_⟩, fun s hs _ => hb s hs, hc⟩
  · exact (hb s hs).imp (fun q => by rw [q]; decide) (fun q => q.1)
  · exact ⟨(hc c hcc).2.1.imp (fun q => by rw [q]; decide) id, (hc c hcc).2.2.imp (fun q => by rw [q]; decide) (fun q => q.1)⟩
-- the class's ways of reckoning are the reference's
/-- who is next when a holder has stood up: he who is next while the holder still sits -/
theorem nx_up {R : Nat → Int32} {s : Nat} (h : Hv R) (hs : s < NN (R 1)) (hh : ¬ se R s 2 < 0) (p : Int32) : ∀ n, n ≤ NN (R 2) → nx (upP R (nI s)) p (se R s 2) n = nx R p (-1) n
  | 0, _ => rfl
  | n + 1, hn => by
    have hM := h.1.M.1
    have hK := h.1.K.1
    have hN : NN (nI s) = s := NN_nI (by omega)
    have ih := nx_up h hs hh p n (by omega)
    have hb := (h.b hs).resolve_left (fun z => hh ((h.b hs).neg.mpr z))
    have eh : se R s 2 = nI (NN (se R s 2)) := vi_eq hb.1 (by omega)
    have hsit : ¬ on R (NN (se R s 2)) 5 < 0 := by rw [hb.2]; exact nI_pos (by omega)
    have f : ∀ d, d ≠ NN (se R s 2) → ∀ k, k < 7 → on (upP R (nI s)) d k = on R d k := fun d hd k hk => on_up_ne hk (by rw [hN]; exact hd)
    have ff : ∀ d, d ≠ NN (se R s 2) → farP (upP R (nI s)) d p = farP R d p := fun d hd => by
      unfold farP; rw [f d hd 0 (by decide), f d hd 1 (by decide), f d hd 2 (by decide)]
    have em : mayP (upP R (nI s)) (se R s 2) n ↔ mayP R (-1) n := by
      by_cases e : n = NN (se R s 2)
      · exact ⟨fun z => absurd (by rw [e]; exact eh.symm) z.1, fun z => absurd (by rw [← e]; exact z.2.1) hsit⟩
      · rw [mayP, mayP, f n e 0 (by decide), f n e 5 (by decide)]
        exact and_congr_left (fun _ => ⟨fun _ => nI_ne1 (by omega), fun _ z => e (by rw [← z, NN_nI (by omega)])⟩)
    simp only [nx]
    rw [ih]
    refine ifq ⟨fun y => ⟨em.mp y.1, ?_⟩, fun y => ⟨em.mpr y.1, ?_⟩⟩
    · have m := em.mp y.1
      have en : n ≠ NN (se R s 2) := fun e => hsit (by rw [← e]; exact m.2.1)
      rcases nx_may R p (-1) n with q | ⟨c, c1, c2, c3⟩
      · exact Or.inl (by rw [q]; decide)
      · have ec : c ≠ NN (se R s 2) := fun e => hsit (by rw [← e]; exact c3.2.1)
        have y2 := y.2
        rw [c2, NN_nI (by omega), ahead, ff n en, ff c ec, f n en 2 (by decide), f c ec 2 (by decide)] at y2
        rw [c2, NN_nI (by omega)]; exact y2
    · have m := y.1
      have en : n ≠ NN (se R s 2) := fun e => hsit (by rw [← e]; exact m.2.1)
      rcases nx_may R p (-1) n with q | ⟨c, c1, c2, c3⟩
      · exact Or.inl (by rw [q]; decide)
      · have ec : c ≠ NN (se R s 2) := fun e => hsit (by rw [← e]; exact c3.2.1)
        have y2 := y.2
        rw [c2, NN_nI (by omega)] at y2
        rw [c2, NN_nI (by omega), ahead, ff n en, ff c ec, f n en 2 (by decide), f c ec 2 (by decide)]; exact y2
/-- to rise, told as the class does it -/
theorem rises_eq {R : Nat → Int32} {s : Nat} (h : Hv R) (hs : s < NN (R 1)) (hh : ¬ se R s 2 < 0) : risesP R (nI s) = fallsP (ost (ost R (NN (se R s 2)) 5 (-1)) (NN (se R s 2)) 6 0) (nI s) (nx R (se R s 0) (-1) (NN (R 2))) := by
  have hM := h.1.M.1
  have hK := h.1.K.1
  have hN : NN (nI s) = s := NN_nI (by omega)
  have hb := (h.b hs).resolve_left (fun z => hh ((h.b hs).neg.mpr z))
  have hcc := ((h.c (vi_lt hb.1)).2.2.resolve_left (by rw [hb.2]; exact nI_ne1 (by omega))).2
  rw [hb.2, hN] at hcc
  have eu : upP R (nI s) = ost (ost R (NN (se R s 2)) 5 (-1)) (NN (se R s 2)) 6 0 := by
    unfold upP
    rw [hN]
    exact ost_same (by rw [on_ost_ne (by decide) (by decide) (by decide), on_ost_ne (by decide) (by decide) (by decide)]; exact hcc)
  unfold risesP
  rw [hN, nx_up h hs hh _ _ (Nat.le_refl _), eu]
theorem nearer_cmp (v t : Int32) : v + cmpI t v = nearer v t := by
  unfold cmpI nearer
  by_cases a : v < t
  · rw [if_pos a, if_neg (fun z => Int32.lt_irrefl (Int32.lt_trans a z)), if_neg (fun z => Int32.lt_irrefl (z ▸ a))]
  · by_cases b : t < v
    · rw [if_neg a, if_pos b, if_pos b, Int32.sub_eq_add_neg]
    · have e : t = v := Int32.le_antisymm (Int32.not_lt.mp a) (Int32.not_lt.mp b)
      rw [if_neg a, if_neg b, if_neg b, if_pos e, Int32.add_zero]
theorem stepC_eq (p t : Int32) : stepC p t = stepTo p t := by
  unfold stepC stepTo
  rw [Int32.add_assoc, nearer_cmp, nearer_cmp]
theorem cmpI_rng (a b : Int32) : cmpI a b = -1 ∨ (cmpI a b = 0 ∧ a = b) ∨ cmpI a b = 1 := by
  unfold cmpI
  split
  · exact Or.inl rfl
  · split
    · rename_i h; exact Or.inr (Or.inl ⟨rfl, h⟩)
    · exact Or.inr (Or.inr rfl)
theorem step_al (x a p b : Int32) (h : 10 * (x + a) + (p - x * 10) + b = p) : 10 * a + b = 0 := by grind
theorem step_bk (x y p t : Int32) (h1 : y = x) (h2 : t - y * 10 = p - x * 10) : p = t := by grind
theorem stepTo_ne {p t : Int32} (h : ¬ p = t) : ¬ stepTo p t = p := by
  intro e
  rw [← stepC_eq] at e
  unfold stepC rem32 at e
  have h1 := cmpI_rng (t / 10) (p / 10)
  have h2 := cmpI_rng (t - t / 10 * 10) (p - p / 10 * 10)
  have key := step_al _ _ _ _ e
  rcases h1 with h1 | ⟨h1, q1⟩ | h1 <;> rcases h2 with h2 | ⟨h2, q2⟩ | h2 <;> rw [h1, h2] at key
  · exact absurd key (by decide)
  · exact absurd key (by decide)
  · exact absurd key (by decide)
  · exact absurd key (by decide)
  · exact h (step_bk _ _ _ _ q1 q2)
  · exact absurd key (by decide)
  · exact absurd key (by decide)
  · exact absurd key (by decide)
  · exact absurd key (by decide)
/-- one isn't in his own way -/
theorem brd_self {R : Nat → Int32} {c : Nat} {t : Int32} (h : ¬ on R c 1 = t) (hc : c < 2 ^ 31) : ∀ n, n < 2 ^ 31 → brd R (stepTo (on R c 1) t) (nI c) n = brd R (stepTo (on R c 1) t) (-1) n
  | 0, _ => rfl
  | n + 1, hn => by
    simp only [brd]
    rw [brd_self h hc n (by omega)]
    congr 1
    have : (¬ nI n = nI c ∧ on R n 0 = 2 ∧ on R n 5 < 0 ∧ on R n 1 = stepTo (on R c 1) t) ↔ (¬ nI n = -1 ∧ on R n 0 = 2 ∧ on R n 5 < 0 ∧ on R n 1 = stepTo (on R c 1) t) := by
      by_cases e : n = c
      · subst e
        exact ⟨fun z => absurd rfl z.1, fun z => absurd z.2.2.2.symm (stepTo_ne h)⟩
      · exact and_congr_left (fun _ => ⟨fun _ => nI_ne1 (by omega), fun _ z => e ((nI_eq (by omega) (by omega)).mp z)⟩)
    simp only [this]
theorem ost_comm {R : Nat → Int32} {c k c' k' : Nat} {v v' : Int32} (h : ¬ (21 + 7 * c + k = 21 + 7 * c' + k')) : ost (ost R c k v) c' k' v' = ost (ost R c' k' v') c k v := by
  funext j; simp only [ost, upd]
  by_cases e : j = 21 + 7 * c' + k'
  · rw [if_pos e, if_pos e, if_neg (by omega)]
  · rw [if_neg e, if_neg e]
/-- a fall, told as the class does it -/
theorem falls_eq (R : Nat → Int32) {s to : Int32} (h : ¬ to < 0) (hs : NN s < 6) : ost (ost (ost (sst R (NN s) 2 to) (NN to) 5 s) (NN to) 1 (se R (NN s) 0)) (NN to) 6 0 = fallsP R s to := by
  unfold fallsP; rw [if_neg h]; exact ost_comm (by omega)
