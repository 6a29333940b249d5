/-! ===== falls, rises, walks, a second: on the row of numbers ===== -/
def seatAdd (R : Nat → Int32) (p t : Int32) : Nat → Int32 := upd (sst (sst (sst R (NN (R 1)) 0 p) (NN (R 1)) 1 t) (NN (R 1)) 2 (-1)) 1 (R 1 + 1)
def oneAdd (R : Nat → Int32) (k p t wi : Int32) : Nat → Int32 := upd (ost (ost (ost (ost (ost (ost (ost R (NN (R 2)) 0 k) (NN (R 2)) 1 p) (NN (R 2)) 2 t) (NN (R 2)) 3 wi) (NN (R 2)) 4 0) (NN (R 2)) 5 (-1)) (NN (R 2)) 6 0) 2 (R 2 + 1)
/-- a seat on a place, among the first n -/
def hs (R : Nat → Int32) (p : Int32) : Nat → Bool
  | 0 => false
  | n + 1 => hs R p n || decide (se R n 0 = p)
/-- a page in the way -/
def brd (R : Nat → Int32) (p but : Int32) : Nat → Bool
  | 0 => false
  | n + 1 => brd R p but n || decide (¬ nI n = but ∧ on R n 0 = 2 ∧ on R n 5 < 0 ∧ on R n 1 = p)
def fallsP (R : Nat → Int32) (s to : Int32) : Nat → Int32 := if to < 0 then sst R (NN s) 2 to else ost (ost (ost (sst R (NN s) 2 to) (NN to) 5 s) (NN to) 6 0) (NN to) 1 (se R (NN s) 0)
def upP (R : Nat → Int32) (s : Int32) : Nat → Int32 := ost (ost (ost R (NN (se R (NN s) 2)) 5 (-1)) (NN (se R (NN s) 2)) 6 0) (NN (se R (NN s) 2)) 1 (se R (NN s) 0)
def risesP (R : Nat → Int32) (s : Int32) : Nat → Int32 := fallsP (upP R s) s (nx (upP R s) (se R (NN s) 0) (se R (NN s) 2) (NN (R 2)))
def nearer (v t : Int32) : Int32 := if v < t then v + 1 else if t < v then v - 1 else v
def stepTo (p t : Int32) : Int32 := 10 * nearer (p / 10) (t / 10) + nearer (rem32 p 10) (rem32 t 10)
abbrev mayGo (R : Nat → Int32) (c : Nat) (t : Int32) : Prop := ¬ on R c 1 = t ∧ brd R (stepTo (on R c 1) t) (nI c) (NN (R 2)) = false
def wk (c : Nat) (t : Int32) : Nat → (Nat → Int32) → (Nat → Int32)
  | 0, R => R
  | n + 1, R => if mayGo R c t then wk c t n (ost R c 1 (stepTo (on R c 1) t)) else R
/-- all that stand and will, of the first n, go -/
abbrev goer (R : Nat → Int32) (n : Nat) : Prop := on R n 5 < 0 ∧ ¬ on R n 3 < 0
def walkP (R : Nat → Int32) (c : Nat) : Nat → Int32 := wk c (se R (NN (on R c 3)) 0) (NN (goe (on R c 0) (R 0))) R
def wa (R : Nat → Int32) : Nat → (Nat → Int32)
  | 0 => R
  | n + 1 => if goer (wa R n) n then walkP (wa R n) n else wa R n
def seat1 (R : Nat → Int32) (s : Nat) : Nat → Int32 := if se R s 2 < 0 then fallsP R (nI s) (nx R (se R s 0) (-1) (NN (R 2))) else if stay (on R (NN (se R s 2)) 0) ≤ on R (NN (se R s 2)) 6 then risesP R (nI s) else R
def ss (R : Nat → Int32) : Nat → (Nat → Int32)
  | 0 => R
  | n + 1 => seat1 (ss R n) n
def pay1 (R : Nat → Int32) (c : Nat) : Nat → Int32 := if on R c 5 < 0 then R else ost (ost R c 6 (on R c 6 + 1)) c 4 (on R c 4 + se R (NN (on R c 5)) 1)
def pa (R : Nat → Int32) : Nat → (Nat → Int32)
  | 0 => R
  | n + 1 => pay1 (pa R n) n
def secP (R : Nat → Int32) : Nat → Int32 := upd (pa (ss (wa R (NN (R 2))) (NN (R 1))) (NN (R 2))) 0 (R 0 + 1)
def goP : Nat → (Nat → Int32) → (Nat → Int32)
  | 0, R => R
  | n + 1, R => secP (goP n R)
/-- what keeps every index within its row -/
def Ok (R : Nat → Int32) : Prop := (∃ M, M ≤ 6 ∧ R 1 = nI M) ∧ (∃ K, K ≤ 10 ∧ R 2 = nI K) ∧ (∀ s, s < NN (R 1) → se R s 2 < 0 ∨ vp_in (se R s 2) (NN (R 2))) ∧ (∀ c, c < NN (R 2) → (on R c 3 < 0 ∨ vp_in (on R c 3) (NN (R 1))) ∧ (on R c 5 < 0 ∨ vp_in (on R c 5) (NN (R 1))))
theorem vi_mono {i : Int32} {m n : Nat} (h : vp_in i m) (hmn : m ≤ n) : vp_in i n := fun z => h (z.elim Or.inl (fun q => Or.inr (Nat.le_trans hmn q)))
theorem Ok.crt {R : Nat → Int32} (h : Ok R) : crtOk R := h.2.1
theorem Ok.M {R : Nat → Int32} (h : Ok R) : NN (R 1) ≤ 6 ∧ R 1 = nI (NN (R 1)) := by obtain ⟨M, hM, e⟩ := h.1; rw [e, NN_nI (by omega)]; exact ⟨hM, rfl⟩
theorem Ok.K {R : Nat → Int32} (h : Ok R) : NN (R 2) ≤ 10 ∧ R 2 = nI (NN (R 2)) := by obtain ⟨M, hM, e⟩ := h.2.1; rw [e, NN_nI (by omega)]; exact ⟨hM, rfl⟩
theorem nx_vi (R : Nat → Int32) (p but : Int32) {n m : Nat} (hn : n ≤ m) (hm : m < 2 ^ 31 := by decide) : nx R p but n < 0 ∨ vp_in (nx R p but n) m := by
  rcases nx_rng R p but n with e | ⟨c, h1, h2⟩
  · rw [e]; exact Or.inl (by decide)
  · rw [h2]; exact Or.inr (vi_nI (by omega) hm)
theorem ost_Ok {R : Nat → Int32} {c k : Nat} {v : Int32} (h : Ok R) (hk : k < 7) (h3 : k = 3 → v < 0 ∨ vp_in v (NN (R 1))) (h5 : k = 5 → v < 0 ∨ vp_in v (NN (R 1))) : Ok (ost R c k v) := by
  obtain ⟨h1, h2, hs, hc⟩ := h
  have e1 : ost R c k v 1 = R 1 := hd_ost (by decide)
  have e2 : ost R c k v 2 = R 2 := hd_ost (by decide)
  rw [Ok, e1, e2]
  obtain ⟨M, hM, eM⟩ := h1
  refine ⟨⟨M, hM, eM⟩, h2, fun s hsM => ?_, fun d hd => ⟨?_, ?_⟩⟩
  · rw [se_ost (by rw [eM, NN_nI (by omega)] at hsM; omega) (by decide)]; exact hs s hsM
  · rw [on_ost hk (by decide)]; split
    · rename_i z; exact h3 z.2.symm
    · exact (hc d hd).1
  · rw [on_ost hk (by decide)]; split
    · rename_i z; exact h5 z.2.symm
    · exact (hc d hd).2
theorem sst_Ok {R : Nat → Int32} {s k : Nat} {v : Int32} (h : Ok R) (hs6 : s < 6) (hk : k < 3) (h2 : k = 2 → v < 0 ∨ vp_in v (NN (R 2))) : Ok (sst R s k v) := by
  obtain ⟨h1, h3, hs, hc⟩ := h
  have e1 : sst R s k v 1 = R 1 := hd_sst (by decide)
  have e2 : sst R s k v 2 = R 2 := hd_sst (by decide)
  rw [Ok, e1, e2]
  refine ⟨h1, h3, fun t ht => ?_, fun d hd => ⟨?_, ?_⟩⟩
  · rw [se_sst hk (by decide)]; split
    · rename_i z; exact h2 z.2.symm
    · exact hs t ht
  · rw [on_sst hs6 hk]; exact (hc d hd).1
  · rw [on_sst hs6 hk]; exact (hc d hd).2
theorem no3 {k : Nat} {P : Prop} (h : k ≠ 3 := by decide) : k = 3 → P := fun z => absurd z h
theorem no5 {k : Nat} {P : Prop} (h : k ≠ 5 := by decide) : k = 5 → P := fun z => absurd z h
theorem fallsP_Ok {R : Nat → Int32} {s to : Int32} (h : Ok R) (hs : vp_in s (NN (R 1))) (ht : to < 0 ∨ vp_in to (NN (R 2))) : Ok (fallsP R s to) := by
  unfold fallsP
  have hs6 : NN s < 6 := by have := vi_lt hs; have := h.M.1; omega
  have h0 : Ok (sst R (NN s) 2 to) := sst_Ok h hs6 (by decide) (fun _ => ht)
  split
  · exact h0
  · exact ost_Ok (ost_Ok (ost_Ok h0 (by decide) no3 (fun _ => Or.inr (by rw [hd_sst (by decide)]; exact hs))) (by decide) no3 no5) (by decide) no3 no5
theorem upP_Ok {R : Nat → Int32} {s : Int32} (h : Ok R) : Ok (upP R s) :=
  ost_Ok (ost_Ok (ost_Ok h (by decide) no3 (fun _ => Or.inl (by decide))) (by decide) no3 no5) (by decide) no3 no5
theorem upP_hd {R : Nat → Int32} {s : Int32} {i : Nat} (h : i < 21) : upP R s i = R i := by simp only [upP]; rw [hd_ost h, hd_ost h, hd_ost h]
theorem fallsP_hd {R : Nat → Int32} {s to : Int32} {i : Nat} (h : i < 3) : fallsP R s to i = R i := by
  unfold fallsP; split
  · rw [hd_sst h]
  · rw [hd_ost (by omega), hd_ost (by omega), hd_ost (by omega), hd_sst h]
theorem risesP_hd {R : Nat → Int32} {s : Int32} {i : Nat} (h : i < 3) : risesP R s i = R i := by
  unfold risesP; rw [fallsP_hd h, upP_hd (by omega)]
theorem wk_hd {c : Nat} {t : Int32} {i : Nat} (h : i < 21) : ∀ (n : Nat) (R : Nat → Int32), wk c t n R i = R i
  | 0, _ => rfl
  | n + 1, R => by
    simp only [wk]; split
    · rw [wk_hd h n, hd_ost h]
    · rfl
theorem wk_Ok {c : Nat} {t : Int32} : ∀ (n : Nat) (R : Nat → Int32), Ok R → Ok (wk c t n R)
  | 0, _, h => h
  | n + 1, R, h => by
    simp only [wk]; split
    · exact wk_Ok n _ (ost_Ok h (by decide) no3 no5)
    · exact h
theorem wk_on {c : Nat} {t : Int32} {d k : Nat} (hk : k < 7) (hk1 : k ≠ 1) : ∀ (n : Nat) (R : Nat → Int32), on (wk c t n R) d k = on R d k
  | 0, _ => rfl
  | n + 1, R => by
    simp only [wk]; split
    · rw [wk_on hk hk1 n, on_ost_ne (by decide) hk hk1]
    · rfl
theorem wk_onc {c : Nat} {t : Int32} {d k : Nat} (hk : k < 7) (hd : d ≠ c) : ∀ (n : Nat) (R : Nat → Int32), on (wk c t n R) d k = on R d k
  | 0, _ => rfl
  | n + 1, R => by
    simp only [wk]; split
    · rw [wk_onc hk hd n, on_ost_nc (by decide) hk hd]
    · rfl
theorem wa_hd (R : Nat → Int32) {i : Nat} (h : i < 21) : ∀ n, wa R n i = R i
  | 0 => rfl
  | n + 1 => by
    simp only [wa]; split
    · unfold walkP; rw [wk_hd h]; exact wa_hd R h n
    · exact wa_hd R h n
theorem wa_Ok {R : Nat → Int32} (h : Ok R) : ∀ n, Ok (wa R n)
  | 0 => h
  | n + 1 => by
    simp only [wa]; split
    · exact wk_Ok _ _ (wa_Ok h n)
    · exact wa_Ok h n
theorem nx_ok {R S : Nat → Int32} (h : Ok R) (p but : Int32) : nx S p but (NN (R 2)) < 0 ∨ vp_in (nx S p but (NN (R 2))) (NN (R 2)) := nx_vi _ _ _ (Nat.le_refl _) (by have := h.K.1; omega)
theorem risesP_Ok {R : Nat → Int32} {s : Int32} (h : Ok R) (hs : vp_in s (NN (R 1))) : Ok (risesP R s) := by
  have e1 : upP R s 1 = R 1 := upP_hd (by decide)
  have e2 : upP R s 2 = R 2 := upP_hd (by decide)
  exact fallsP_Ok (upP_Ok h) (by rw [e1]; exact hs) (by rw [e2]; exact nx_ok h _ _)
theorem seat1_hd {R : Nat → Int32} {s i : Nat} (h : i < 3) : seat1 R s i = R i := by
  unfold seat1; split
  · exact fallsP_hd h
  · split
    · exact risesP_hd h
    · rfl
theorem seat1_Ok {R : Nat → Int32} {s : Nat} (h : Ok R) (hs : s < NN (R 1)) : Ok (seat1 R s) := by
  have hv : vp_in (nI s) (NN (R 1)) := vi_nI hs (by have := h.M.1; omega)
  unfold seat1; split
  · exact fallsP_Ok h hv (nx_ok h _ _)
  · split
    · exact risesP_Ok h hv
    · exact h
theorem ss_hd (R : Nat → Int32) {i : Nat} (h : i < 3) : ∀ n, ss R n i = R i
  | 0 => rfl
  | n + 1 => by simp only [ss]; rw [seat1_hd h]; exact ss_hd R h n
theorem ss_Ok {R : Nat → Int32} (h : Ok R) : ∀ n, n ≤ NN (R 1) → Ok (ss R n)
  | 0, _ => h
  | n + 1, hn => seat1_Ok (ss_Ok h n (by omega)) (by rw [ss_hd R (by decide)]; omega)
theorem pay1_hd {R : Nat → Int32} {c i : Nat} (h : i < 21) : pay1 R c i = R i := by
  unfold pay1; split
  · rfl
  · rw [hd_ost h, hd_ost h]
theorem pay1_Ok {R : Nat → Int32} {c : Nat} (h : Ok R) : Ok (pay1 R c) := by
  unfold pay1; split
  · exact h
  · exact ost_Ok (ost_Ok h (by decide) no3 no5) (by decide) no3 no5
theorem pa_hd (R : Nat → Int32) {i : Nat} (h : i < 21) : ∀ n, pa R n i = R i
  | 0 => rfl
  | n + 1 => by simp only [pa]; rw [pay1_hd h]; exact pa_hd R h n
theorem pa_Ok {R : Nat → Int32} (h : Ok R) : ∀ n, Ok (pa R n)
  | 0 => h
  | n + 1 => pay1_Ok (pa_Ok h n)
theorem u0_Ok {R : Nat → Int32} {v : Int32} (h : Ok R) : Ok (upd R 0 v) := by
  obtain ⟨h1, h2, hs, hc⟩ := h
  have e1 : upd R 0 v 1 = R 1 := rfl
  have e2 : upd R 0 v 2 = R 2 := rfl
  rw [Ok, e1, e2]
  refine ⟨h1, h2, fun s hsM => ?_, fun d hd => ⟨?_, ?_⟩⟩
  · rw [se_u0 (by decide)]; exact hs s hsM
  · rw [on_u0 (by decide)]; exact (hc d hd).1
  · rw [on_u0 (by decide)]; exact (hc d hd).2
theorem secP_Ok {R : Nat → Int32} (h : Ok R) : Ok (secP R) :=
  u0_Ok (pa_Ok (ss_Ok (wa_Ok h _) _ (by rw [wa_hd R (by decide)]; exact Nat.le_refl _)) _)
theorem secP_12 {R : Nat → Int32} : secP R 1 = R 1 ∧ secP R 2 = R 2 := by
  refine ⟨?_, ?_⟩
  · simp only [secP]; rw [show ∀ (f : Nat → Int32) v, upd f 0 v 1 = f 1 from fun _ _ => rfl, pa_hd _ (by decide), ss_hd _ (by decide), wa_hd _ (by decide)]
  · simp only [secP]; rw [show ∀ (f : Nat → Int32) v, upd f 0 v 2 = f 2 from fun _ _ => rfl, pa_hd _ (by decide), ss_hd _ (by decide), wa_hd _ (by decide)]
theorem secP_0 {R : Nat → Int32} : secP R 0 = R 0 + 1 := rfl
theorem goP_Ok {R : Nat → Int32} (h : Ok R) : ∀ n, Ok (goP n R)
  | 0 => h
  | n + 1 => secP_Ok (goP_Ok h n)
theorem goP_12 {R : Nat → Int32} : ∀ n, goP n R 1 = R 1 ∧ goP n R 2 = R 2
  | 0 => ⟨rfl, rfl⟩
  | n + 1 => by
    have ih := goP_12 (R := R) n
    simp only [goP]
    exact ⟨secP_12.1.trans ih.1, secP_12.2.trans ih.2⟩
/-! two rows that are alike as far as they live -/
def Lv (R S : Nat → Int32) : Prop := R 0 = S 0 ∧ R 1 = S 1 ∧ R 2 = S 2 ∧ (∀ s, s < NN (R 1) → ∀ k, k < 3 → se R s k = se S s k) ∧ (∀ c, c < NN (R 2) → ∀ k, k < 7 → on R c k = on S c k)
theorem Lv.rf (R : Nat → Int32) : Lv R R := ⟨rfl, rfl, rfl, fun _ _ _ _ => rfl, fun _ _ _ _ => rfl⟩
theorem Lv.sy {R S : Nat → Int32} (h : Lv R S) : Lv S R := by
  obtain ⟨h0, h1, h2, h3, h4⟩ := h
  exact ⟨h0.symm, h1.symm, h2.symm, fun s hs k hk => (h3 s (by rw [h1]; exact hs) k hk).symm, fun c hc k hk => (h4 c (by rw [h2]; exact hc) k hk).symm⟩
theorem Lv.tr {R S T : Nat → Int32} (h : Lv R S) (g : Lv S T) : Lv R T := by
  obtain ⟨h0, h1, h2, h3, h4⟩ := h
  obtain ⟨g0, g1, g2, g3, g4⟩ := g
  exact ⟨h0.trans g0, h1.trans g1, h2.trans g2, fun s hs k hk => (h3 s hs k hk).trans (g3 s (by rw [← h1]; exact hs) k hk), fun c hc k hk => (h4 c hc k hk).trans (g4 c (by rw [← h2]; exact hc) k hk)⟩
theorem Lv.Ok {R S : Nat → Int32} (h : Lv R S) (hO : Ok R) : Ok S := by
  obtain ⟨h0, h1, h2, h3, h4⟩ := h
  obtain ⟨o1, o2, o3, o4⟩ := hO
  refine ⟨by rw [← h1]; exact o1, by rw [← h2]; exact o2, fun s hs => ?_, fun c hc => ?_⟩
  · rw [← h1] at hs
    rw [← h2, ← h3 s hs 2 (by decide)]; exact o3 s hs
  · rw [← h2] at hc
    rw [← h1, ← h4 c hc 3 (by decide), ← h4 c hc 5 (by decide)]; exact o4 c hc
theorem farP_lv {R S : Nat → Int32} (h : Lv R S) {c : Nat} (hc : c < NN (R 2)) (p : Int32) : farP R c p = farP S c p := by
  unfold farP; rw [h.2.2.2.2 c hc 1 (by decide), h.2.2.2.2 c hc 0 (by decide), h.2.2.2.2 c hc 2 (by decide)]
theorem nx_lv {R S : Nat → Int32} (h : Lv R S) (p but : Int32) (hK : NN (R 2) < 2 ^ 31) : ∀ n, n ≤ NN (R 2) → nx R p but n = nx S p but n
  | 0, _ => rfl
  | n + 1, hn => by
    have ih := nx_lv h p but hK n (by omega)
    simp only [nx]
    rw [← ih]
    have e1 : mayP R but n ↔ mayP S but n := by rw [mayP, mayP, h.2.2.2.2 n (by omega) 5 (by decide), h.2.2.2.2 n (by omega) 0 (by decide)]
    have e2 : ¬ nx R p but n < 0 → (ahead R n (NN (nx R p but n)) p ↔ ahead S n (NN (nx R p but n)) p) := fun z => by
      rcases nx_rng R p but n with e | ⟨c, c1, c2⟩
      · rw [e] at z; exact absurd (by decide) z
      · rw [c2, NN_nI (by omega), ahead, ahead, farP_lv h (show n < _ by omega), farP_lv h (show c < _ by omega), h.2.2.2.2 n (by omega) 2 (by decide), h.2.2.2.2 c (by omega) 2 (by decide)]
    by_cases z : nx R p but n < 0
    · simp only [z, true_or, and_true, e1]
    · simp only [z, false_or, e1, e2 z]
theorem hs_lv {R S : Nat → Int32} (h : Lv R S) (p : Int32) : ∀ n, n ≤ NN (R 1) → hs R p n = hs S p n
  | 0, _ => rfl
  | n + 1, hn => by simp only [hs]; rw [hs_lv h p n (by omega), h.2.2.2.1 n (by omega) 0 (by decide)]
theorem brd_lv {R S : Nat → Int32} (h : Lv R S) (p but : Int32) : ∀ n, n ≤ NN (R 2) → brd R p but n = brd S p but n
  | 0, _ => rfl
  | n + 1, hn => by simp only [brd]; rw [brd_lv h p but n (by omega), h.2.2.2.2 n (by omega) 0 (by decide), h.2.2.2.2 n (by omega) 5 (by decide), h.2.2.2.2 n (by omega) 1 (by decide)]
theorem ost_lv {R S : Nat → Int32} (h : Lv R S) (hM : NN (R 1) ≤ 6) {c k : Nat} (hk : k < 7) (v : Int32) : Lv (ost R c k v) (ost S c k v) := by
  obtain ⟨h0, h1, h2, h3, h4⟩ := h
  refine ⟨by rw [hd_ost (by decide), hd_ost (by decide)]; exact h0, by rw [hd_ost (by decide), hd_ost (by decide)]; exact h1, by rw [hd_ost (by decide), hd_ost (by decide)]; exact h2, fun s hs j hj => ?_, fun d hd j hj => ?_⟩
  · rw [hd_ost (by decide)] at hs
    rw [se_ost (by omega) hj, se_ost (by omega) hj]; exact h3 s hs j hj
  · rw [hd_ost (by decide)] at hd
    rw [on_ost hk hj, on_ost hk hj, h4 d hd j hj]
theorem sst_lv {R S : Nat → Int32} (h : Lv R S) {s k : Nat} (hs6 : s < 6) (hk : k < 3) (v : Int32) : Lv (sst R s k v) (sst S s k v) := by
  obtain ⟨h0, h1, h2, h3, h4⟩ := h
  refine ⟨by rw [hd_sst (by decide), hd_sst (by decide)]; exact h0, by rw [hd_sst (by decide), hd_sst (by decide)]; exact h1, by rw [hd_sst (by decide), hd_sst (by decide)]; exact h2, fun t ht j hj => ?_, fun d hd j hj => ?_⟩
  · rw [hd_sst (by decide)] at ht
    rw [se_sst hk hj, se_sst hk hj, h3 t ht j hj]
  · rw [hd_sst (by decide)] at hd
    rw [on_sst hs6 hk, on_sst hs6 hk]; exact h4 d hd j hj
theorem fallsP_lv {R S : Nat → Int32} (h : Lv R S) (hM : NN (R 1) ≤ 6) {s : Int32} (hs : NN s < NN (R 1)) (to : Int32) : Lv (fallsP R s to) (fallsP S s to) := by
  unfold fallsP
  have h0 : Lv (sst R (NN s) 2 to) (sst S (NN s) 2 to) := sst_lv h (by omega) (by decide) to
  have m0 : NN (sst R (NN s) 2 to 1) ≤ 6 := by rw [hd_sst (by decide)]; exact hM
  split
  · exact h0
  · rw [h.2.2.2.1 _ hs 0 (by decide)]
    refine ost_lv (ost_lv (ost_lv h0 m0 (by decide) _) ?_ (by decide) _) ?_ (by decide) _
    · rw [hd_ost (by decide)]; exact m0
    · rw [hd_ost (by decide), hd_ost (by decide)]; exact m0
theorem upP_lv {R S : Nat → Int32} (h : Lv R S) (hM : NN (R 1) ≤ 6) {s : Int32} (hs : NN s < NN (R 1)) : Lv (upP R s) (upP S s) := by
  unfold upP
  rw [h.2.2.2.1 _ hs 0 (by decide), h.2.2.2.1 _ hs 2 (by decide)]
  refine ost_lv (ost_lv (ost_lv h hM (by decide) _) ?_ (by decide) _) ?_ (by decide) _
  · rw [hd_ost (by decide)]; exact hM
  · rw [hd_ost (by decide), hd_ost (by decide)]; exact hM
theorem risesP_lv {R S : Nat → Int32} (h : Lv R S) (hM : NN (R 1) ≤ 6) (hK : NN (R 2) < 2 ^ 31) {s : Int32} (hs : NN s < NN (R 1)) : Lv (risesP R s) (risesP S s) := by
  have hu := upP_lv h hM hs
  have e1 : upP R s 1 = R 1 := upP_hd (by decide)
  have e2 : upP R s 2 = R 2 := upP_hd (by decide)
  unfold risesP
  rw [h.2.2.2.1 _ hs 0 (by decide), h.2.2.2.1 _ hs 2 (by decide), ← h.2.2.1, nx_lv hu _ _ (by rw [e2]; exact hK) _ (by rw [e2]; exact Nat.le_refl _)]
  exact fallsP_lv hu (by rw [e1]; exact hM) (by rw [e1]; exact hs) _
theorem wk_lv {c : Nat} {t : Int32} : ∀ (n : Nat) {R S : Nat → Int32}, Lv R S → NN (R 1) ≤ 6 → c < NN (R 2) → Lv (wk c t n R) (wk c t n S)
  | 0, _, _, h, _, _ => h
  | n + 1, R, S, h, hM, hc => by
    have e1 : on R c 1 = on S c 1 := h.2.2.2.2 c hc 1 (by decide)
    have e2 : mayGo R c t ↔ mayGo S c t := by rw [mayGo, mayGo, e1, ← h.2.2.1, brd_lv h _ _ _ (Nat.le_refl _)]
    simp only [wk, e2]
    split
    · rw [e1]
      exact wk_lv n (ost_lv h hM (by decide) _) (by rw [hd_ost (by decide)]; exact hM) (by rw [hd_ost (by decide)]; exact hc)
    · exact h
theorem walkP_lv {R S : Nat → Int32} (h : Lv R S) (hO : Ok R) {c : Nat} (hc : c < NN (R 2)) (hg : goer R c) : Lv (walkP R c) (walkP S c) := by
  have hw := vi_lt ((hO.2.2.2 c hc).1.resolve_left hg.2)
  unfold walkP
  rw [← h.2.2.2.2 c hc 3 (by decide), ← h.2.2.2.2 c hc 0 (by decide), ← h.1, ← h.2.2.2.1 _ hw 0 (by decide)]
  exact wk_lv _ h hO.M.1 hc
theorem wa_lv {R S : Nat → Int32} (h : Lv R S) (hO : Ok R) : ∀ n, n ≤ NN (R 2) → Lv (wa R n) (wa S n)
  | 0, _ => h
  | n + 1, hn => by
    have ih := wa_lv h hO n (by omega)
    have hO2 := wa_Ok hO n
    have e2 : wa R n 2 = R 2 := wa_hd R (by decide) n
    have hc : n < NN (wa R n 2) := by rw [e2]; omega
    have eg : goer (wa R n) n ↔ goer (wa S n) n := by rw [goer, goer, ih.2.2.2.2 n hc 5 (by decide), ih.2.2.2.2 n hc 3 (by decide)]
    simp only [wa, ← eg]
    split
    · rename_i hg; exact walkP_lv ih hO2 hc hg
    · exact ih
theorem seat1_lv {R S : Nat → Int32} (h : Lv R S) (hO : Ok R) {s : Nat} (hs : s < NN (R 1)) : Lv (seat1 R s) (seat1 S s) := by
  have hM := hO.M.1
  have hK : NN (R 2) < 2 ^ 31 := by have := hO.K.1; omega
  have e2 : se R s 2 = se S s 2 := h.2.2.2.1 s hs 2 (by decide)
  have e0 : se R s 0 = se S s 0 := h.2.2.2.1 s hs 0 (by decide)
  have hN : NN (nI s) = s := NN_nI (by omega)
  unfold seat1
  rw [← e2, ← e0, ← h.2.2.1, ← nx_lv h _ _ hK _ (Nat.le_refl _)]
  split
  · exact fallsP_lv h hM (by rw [hN]; exact hs) _
  · rename_i z
    have hc := vi_lt ((hO.2.2.1 s hs).resolve_left z)
    rw [← h.2.2.2.2 _ hc 0 (by decide), ← h.2.2.2.2 _ hc 6 (by decide)]
    split
    · exact risesP_lv h hM hK (by rw [hN]; exact hs)
    · exact h
theorem ss_lv {R S : Nat → Int32} (h : Lv R S) (hO : Ok R) : ∀ n, n ≤ NN (R 1) → Lv (ss R n) (ss S n)
  | 0, _ => h
  | n + 1, hn => seat1_lv (ss_lv h hO n (by omega)) (ss_Ok hO n (by omega)) (by rw [ss_hd R (by decide)]; omega)
theorem pay1_lv {R S : Nat → Int32} (h : Lv R S) (hO : Ok R) {c : Nat} (hc : c < NN (R 2)) : Lv (pay1 R c) (pay1 S c) := by
  have hM := hO.M.1
  have e5 : on R c 5 = on S c 5 := h.2.2.2.2 c hc 5 (by decide)
  unfold pay1
  rw [← e5]
  split
  · exact h
  · rename_i z
    have hs := vi_lt ((hO.2.2.2 c hc).2.resolve_left z)
    rw [← h.2.2.2.2 c hc 6 (by decide), ← h.2.2.2.2 c hc 4 (by decide), ← h.2.2.2.1 _ hs 1 (by decide)]
    exact ost_lv (ost_lv h hM (by decide) _) (by rw [hd_ost (by decide)]; exact hM) (by decide) _
theorem pa_lv {R S : Nat → Int32} (h : Lv R S) (hO : Ok R) : ∀ n, n ≤ NN (R 2) → Lv (pa R n) (pa S n)
  | 0, _ => h
  | n + 1, hn => pay1_lv (pa_lv h hO n (by omega)) (pa_Ok hO n) (by rw [pa_hd R (by decide)]; omega)
theorem u0_lv {R S : Nat → Int32} (h : Lv R S) (v : Int32) : Lv (upd R 0 v) (upd S 0 v) := by
  obtain ⟨h0, h1, h2, h3, h4⟩ := h
  refine ⟨rfl, h1, h2, fun s hs k hk => ?_, fun c hc k hk => ?_⟩
  · rw [se_u0 (by decide), se_u0 (by decide)]; exact h3 s hs k hk
  · rw [on_u0 (by decide), on_u0 (by decide)]; exact h4 c hc k hk
theorem secP_lv {R S : Nat → Int32} (h : Lv R S) (hO : Ok R) : Lv (secP R) (secP S) := by
  unfold secP
  rw [← h.1, ← h.2.1, ← h.2.2.1]
  have a := wa_lv h hO _ (Nat.le_refl _)
  have aO := wa_Ok hO (NN (R 2))
  have b := ss_lv a aO (NN (R 1)) (by rw [wa_hd R (by decide)]; exact Nat.le_refl _)
  have bO := ss_Ok aO (NN (R 1)) (by rw [wa_hd R (by decide)]; exact Nat.le_refl _)
  exact u0_lv (pa_lv b bO _ (by rw [ss_hd _ (by decide), wa_hd R (by decide)]; exact Nat.le_refl _)) _
theorem goP_lv {R S : Nat → Int32} (h : Lv R S) (hO : Ok R) : ∀ n, Lv (goP n R) (goP n S)
  | 0 => h
  | n + 1 => secP_lv (goP_lv h hO n) (goP_Ok hO n)
