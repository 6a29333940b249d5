/-! ===== falls, rises, walks, a second: on the row of numbers ===== -/
def seatAdd (R : Nat → Int32) (p t : Int32) : Nat → Int32 := upd (sst (sst (sst R (NN (R 1)) 0 p) (NN (R 1)) 1 t) (NN (R 1)) 2 (-1)) 1 (R 1 + 1)
def oneAdd (R : Nat → Int32) (k p t wi : Int32) : Nat → Int32 := upd (ost (ost (ost (ost (ost (ost (ost R (NN (R 2)) 0 k) (NN (R 2)) 1 p) (NN (R 2)) 2 t) (NN (R 2)) 3 wi) (NN (R 2)) 4 0) (NN (R 2)) 5 (-1)) (NN (R 2)) 6 0) 2 (R 2 + 1)
/-- a seat on a place, among the first n -/
def hs (R : Nat → Int32) (p : Int32) : Nat → Bool
  | 0 => false
  | n + 1 => hs R p n || decide (se R n 0 = p)
/-- a page in the way -/
def brd (R : Nat → Int32) (p but : Int32) : Nat → Bool
  | 0 => false
  | n + 1 => brd R p but n || decide (¬ nI n = but ∧ on R n 0 = 2 ∧ on R n 5 < 0 ∧ on R n 1 = p)
def fallsP (R : Nat → Int32) (s to : Int32) : Nat → Int32 := if to < 0 then sst R (NN s) 2 to else ost (ost (ost (sst R (NN s) 2 to) (NN to) 5 s) (NN to) 6 0) (NN to) 1 (se R (NN s) 0)
def upP (R : Nat → Int32) (s : Int32) : Nat → Int32 := ost (ost (ost R (NN (se R (NN s) 2)) 5 (-1)) (NN (se R (NN s) 2)) 6 0) (NN (se R (NN s) 2)) 1 (se R (NN s) 0)
def risesP (R : Nat → Int32) (s : Int32) : Nat → Int32 := fallsP (upP R s) s (nx (upP R s) (se R (NN s) 0) (se R (NN s) 2) (NN (R 2)))
def nearer (v t : Int32) : Int32 := if v < t then v + 1 else if t < v then v - 1 else v
def stepTo (p t : Int32) : Int32 := 10 * nearer (p / 10) (t / 10) + nearer (rem32 p 10) (rem32 t 10)
abbrev mayGo (R : Nat → Int32) (c : Nat) (t : Int32) : Prop := ¬ on R c 1 = t ∧ brd R (stepTo (on R c 1) t) (nI c) (NN (R 2)) = false
def wk (c : Nat) (t : Int32) : Nat → (Nat → Int32) → (Nat → Int32)
  | 0, R => R
  | n + 1, R => if mayGo R c t then wk c t n (ost R c 1 (stepTo (on R c 1) t)) else R
/-- all that stand and will, of the first n, go -/
abbrev goer (R : Nat → Int32) (n : Nat) : Prop := on R n 5 < 0 ∧ ¬ on R n 3 < 0
def walkP (R : Nat → Int32) (c : Nat) : Nat → Int32 := wk c (se R (NN (on R c 3)) 0) (NN (goe (on R c 0) (R 0))) R
def wa (R : Nat → Int32) : Nat → (Nat → Int32)
  | 0 => R
  | n + 1 => if goer (wa R n) n then walkP (wa R n) n else wa R n
def seat1 (R : Nat → Int32) (s : Nat) : Nat → Int32 := if se R s 2 < 0 then fallsP R (nI s) (nx R (se R s 0) (-1) (NN (R 2))) else if stay (on R (NN (se R s 2)) 0) ≤ on R (NN (se R s 2)) 6 then risesP R (nI s) else R
def ss (R : Nat → Int32) : Nat → (Nat → Int32)
  | 0 => R
  | n + 1 => seat1 (ss R n) n
def pay1 (R : Nat → Int32) (c : Nat) : Nat → Int32 := if on R c 5 < 0 then R else ost (ost R c 6 (on R c 6 + 1)) c 4 (on R c 4 + se R (NN (on R c 5)) 1)
def pa (R : Nat → Int32) : Nat → (Nat → Int32)
  | 0 => R
  | n + 1 => pay1 (pa R n) n
def secP (R : Nat → Int32) : Nat → Int32 := upd (pa (ss (wa R (NN (R 2))) (NN (R 1))) (NN (R 2))) 0 (R 0 + 1)
def goP : Nat → (Nat → Int32) → (Nat → Int32)
  | 0, R => R
  | n + 1, R => secP (goP n R)
/-- what keeps every index within its row -/
def Ok (R : Nat → Int32) : Prop := ∃ M K, M ≤ 6 ∧ K ≤ 10 ∧ R 1 = nI M ∧ R 2 = nI K ∧ (∀ s, s < M → se R s 2 < 0 ∨ vp_in (se R s 2) 10) ∧ (∀ c, c < K → (on R c 3 < 0 ∨ vp_in (on R c 3) 6) ∧ (on R c 5 < 0 ∨ vp_in (on R c 5) 6))
theorem Ok.crt {R : Nat → Int32} (h : Ok R) : crtOk R := by obtain ⟨M, K, -, h2, -, h4, -⟩ := h; exact ⟨K, h2, h4⟩
theorem nx_vi (R : Nat → Int32) (p but : Int32) {n : Nat} (hn : n ≤ 10) : nx R p but n < 0 ∨ vp_in (nx R p but n) 10 := by
  rcases nx_rng R p but n with e | ⟨c, h1, h2⟩
  · rw [e]; exact Or.inl (by decide)
  · rw [h2]; exact Or.inr (vi_nI (by omega))
theorem ost_Ok {R : Nat → Int32} {c k : Nat} {v : Int32} (h : Ok R) (hk : k < 7) (h3 : k = 3 → v < 0 ∨ vp_in v 6) (h5 : k = 5 → v < 0 ∨ vp_in v 6) : Ok (ost R c k v) := by
  obtain ⟨M, K, h1, h2, e1, e2, hs, hc⟩ := h
  refine ⟨M, K, h1, h2, by rw [hd_ost (by decide)]; exact e1, by rw [hd_ost (by decide)]; exact e2, fun s hsM => ?_, fun d hd => ⟨?_, ?_⟩⟩
  · rw [se_ost (by omega) (by decide)]; exact hs s hsM
  · rw [on_ost hk (by decide)]; split
    · rename_i z; exact h3 z.2.symm
    · exact (hc d hd).1
  · rw [on_ost hk (by decide)]; split
    · rename_i z; exact h5 z.2.symm
    · exact (hc d hd).2
theorem sst_Ok {R : Nat → Int32} {s k : Nat} {v : Int32} (h : Ok R) (hs6 : s < 6) (hk : k < 3) (h2 : k = 2 → v < 0 ∨ vp_in v 10) : Ok (sst R s k v) := by
  obtain ⟨M, K, h1, h3, e1, e2, hs, hc⟩ := h
  refine ⟨M, K, h1, h3, by rw [hd_sst (by decide)]; exact e1, by rw [hd_sst (by decide)]; exact e2, fun t ht => ?_, fun d hd => ⟨?_, ?_⟩⟩
  · rw [se_sst hk (by decide)]; split
    · rename_i z; exact h2 z.2.symm
    · exact hs t ht
  · rw [on_sst hs6 hk]; exact (hc d hd).1
  · rw [on_sst hs6 hk]; exact (hc d hd).2
theorem fallsP_Ok {R : Nat → Int32} {s to : Int32} (h : Ok R) (hs : vp_in s 6) (ht : to < 0 ∨ vp_in to 10) : Ok (fallsP R s to) := by
  unfold fallsP
  have h0 : Ok (sst R (NN s) 2 to) := sst_Ok h (vi_lt hs) (by decide) (fun _ => ht)
  split
  · exact h0
  · exact ost_Ok (ost_Ok (ost_Ok h0 (by decide) (fun z => absurd z (by decide)) (fun _ => Or.inr hs)) (by decide) (fun z => absurd z (by decide)) (fun z => absurd z (by decide))) (by decide) (fun z => absurd z (by decide)) (fun z => absurd z (by decide))
theorem upP_Ok {R : Nat → Int32} {s : Int32} (h : Ok R) : Ok (upP R s) :=
  ost_Ok (ost_Ok (ost_Ok h (by decide) (fun z => absurd z (by decide)) (fun _ => Or.inl (by decide))) (by decide) (fun z => absurd z (by decide)) (fun z => absurd z (by decide))) (by decide) (fun z => absurd z (by decide)) (fun z => absurd z (by decide))
theorem upP_hd {R : Nat → Int32} {s : Int32} {i : Nat} (h : i < 21) : upP R s i = R i := by simp only [upP]; rw [hd_ost h, hd_ost h, hd_ost h]
theorem fallsP_hd {R : Nat → Int32} {s to : Int32} {i : Nat} (h : i < 3) : fallsP R s to i = R i := by
  unfold fallsP; split
  · rw [hd_sst h]
  · rw [hd_ost (by omega), hd_ost (by omega), hd_ost (by omega), hd_sst h]
theorem risesP_hd {R : Nat → Int32} {s : Int32} {i : Nat} (h : i < 3) : risesP R s i = R i := by
  unfold risesP; rw [fallsP_hd h, upP_hd (by omega)]
theorem wk_hd {c : Nat} {t : Int32} {i : Nat} (h : i < 21) : ∀ (n : Nat) (R : Nat → Int32), wk c t n R i = R i
  | 0, _ => rfl
  | n + 1, R => by
    simp only [wk]; split
    · rw [wk_hd h n, hd_ost h]
    · rfl
theorem wk_Ok {c : Nat} {t : Int32} : ∀ (n : Nat) (R : Nat → Int32), Ok R → Ok (wk c t n R)
  | 0, _, h => h
  | n + 1, R, h => by
    simp only [wk]; split
    · exact wk_Ok n _ (ost_Ok h (by decide) (fun z => absurd z (by decide)) (fun z => absurd z (by decide)))
    · exact h
theorem wk_on {c : Nat} {t : Int32} {d k : Nat} (hk : k < 7) (hk1 : k ≠ 1) : ∀ (n : Nat) (R : Nat → Int32), on (wk c t n R) d k = on R d k
  | 0, _ => rfl
  | n + 1, R => by
    simp only [wk]; split
    · rw [wk_on hk hk1 n, on_ost_ne (by decide) hk hk1]
    · rfl
theorem wk_onc {c : Nat} {t : Int32} {d k : Nat} (hk : k < 7) (hd : d ≠ c) : ∀ (n : Nat) (R : Nat → Int32), on (wk c t n R) d k = on R d k
  | 0, _ => rfl
  | n + 1, R => by
    simp only [wk]; split
    · rw [wk_onc hk hd n, on_ost_nc (by decide) hk hd]
    · rfl
theorem wa_hd (R : Nat → Int32) {i : Nat} (h : i < 21) : ∀ n, wa R n i = R i
  | 0 => rfl
  | n + 1 => by
    simp only [wa]; split
    · unfold walkP; rw [wk_hd h]; exact wa_hd R h n
    · exact wa_hd R h n
theorem wa_Ok {R : Nat → Int32} (h : Ok R) : ∀ n, Ok (wa R n)
  | 0 => h
  | n + 1 => by
    simp only [wa]; split
    · exact wk_Ok _ _ (wa_Ok h n)
    · exact wa_Ok h n
theorem risesP_Ok {R : Nat → Int32} {s : Int32} (h : Ok R) (hs : vp_in s 6) : Ok (risesP R s) := by
  obtain ⟨K, hK, eK⟩ := h.crt
  refine fallsP_Ok (upP_Ok h) hs (nx_vi _ _ _ (by rw [eK, NN_nI (by omega)]; exact hK))
theorem seat1_hd {R : Nat → Int32} {s i : Nat} (h : i < 3) : seat1 R s i = R i := by
  unfold seat1; split
  · exact fallsP_hd h
  · split
    · exact risesP_hd h
    · rfl
theorem seat1_Ok {R : Nat → Int32} {s : Nat} (h : Ok R) (hs : s < 6) : Ok (seat1 R s) := by
  obtain ⟨K, hK, eK⟩ := h.crt
  unfold seat1; split
  · exact fallsP_Ok h (vi_nI hs) (nx_vi _ _ _ (by rw [eK, NN_nI (by omega)]; exact hK))
  · split
    · exact risesP_Ok h (vi_nI hs)
    · exact h
theorem ss_hd (R : Nat → Int32) {i : Nat} (h : i < 3) : ∀ n, ss R n i = R i
  | 0 => rfl
  | n + 1 => by simp only [ss]; rw [seat1_hd h]; exact ss_hd R h n
theorem ss_Ok {R : Nat → Int32} (h : Ok R) : ∀ n, n ≤ 6 → Ok (ss R n)
  | 0, _ => h
  | n + 1, hn => seat1_Ok (ss_Ok h n (by omega)) (by omega)
theorem pay1_hd {R : Nat → Int32} {c i : Nat} (h : i < 21) : pay1 R c i = R i := by
  unfold pay1; split
  · rfl
  · rw [hd_ost h, hd_ost h]
theorem pay1_Ok {R : Nat → Int32} {c : Nat} (h : Ok R) : Ok (pay1 R c) := by
  unfold pay1; split
  · exact h
  · exact ost_Ok (ost_Ok h (by decide) (fun z => absurd z (by decide)) (fun z => absurd z (by decide))) (by decide) (fun z => absurd z (by decide)) (fun z => absurd z (by decide))
theorem pa_hd (R : Nat → Int32) {i : Nat} (h : i < 21) : ∀ n, pa R n i = R i
  | 0 => rfl
  | n + 1 => by simp only [pa]; rw [pay1_hd h]; exact pa_hd R h n
theorem pa_Ok {R : Nat → Int32} (h : Ok R) : ∀ n, Ok (pa R n)
  | 0 => h
  | n + 1 => pay1_Ok (pa_Ok h n)
theorem u0_Ok {R : Nat → Int32} {v : Int32} (h : Ok R) : Ok (upd R 0 v) := by
  obtain ⟨M, K, h1, h2, e1, e2, hs, hc⟩ := h
  refine ⟨M, K, h1, h2, e1, e2, fun s hsM => ?_, fun d hd => ⟨?_, ?_⟩⟩
  · rw [se_u0 (by decide)]; exact hs s hsM
  · rw [on_u0 (by decide)]; exact (hc d hd).1
  · rw [on_u0 (by decide)]; exact (hc d hd).2
theorem secP_Ok {R : Nat → Int32} (h : Ok R) : Ok (secP R) := by
  have h0 := h
  obtain ⟨M, K, h1, h2, e1, e2, -⟩ := h0
  exact u0_Ok (pa_Ok (ss_Ok (wa_Ok h _) _ (by rw [e1, NN_nI (by omega)]; exact h1)) _)
theorem secP_12 {R : Nat → Int32} : secP R 1 = R 1 ∧ secP R 2 = R 2 := by
  refine ⟨?_, ?_⟩
  · simp only [secP]; rw [show ∀ (f : Nat → Int32) v, upd f 0 v 1 = f 1 from fun _ _ => rfl, pa_hd _ (by decide), ss_hd _ (by decide), wa_hd _ (by decide)]
  · simp only [secP]; rw [show ∀ (f : Nat → Int32) v, upd f 0 v 2 = f 2 from fun _ _ => rfl, pa_hd _ (by decide), ss_hd _ (by decide), wa_hd _ (by decide)]
theorem secP_0 {R : Nat → Int32} : secP R 0 = R 0 + 1 := rfl
theorem goP_Ok {R : Nat → Int32} (h : Ok R) : ∀ n, Ok (goP n R)
  | 0 => h
  | n + 1 => secP_Ok (goP_Ok h n)
theorem goP_12 {R : Nat → Int32} : ∀ n, goP n R 1 = R 1 ∧ goP n R 2 = R 2
  | 0 => ⟨rfl, rfl⟩
  | n + 1 => by
    have ih := goP_12 (R := R) n
    simp only [goP]
    exact ⟨secP_12.1.trans ih.1, secP_12.2.trans ih.2⟩
