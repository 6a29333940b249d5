/-! ===== the class's tokens and the reference's ===== -/
theorem tk_1 (b : Int32) : tkC b = 1 ↔ srt b = 1 := by
  unfold tkC srt
  split
  · decide
  · split
    · decide
    · split
      · decide
      · split <;> decide
theorem tk_2 (b : Int32) : tkC b = 2 ↔ srt b = 2 := by
  unfold tkC srt
  split
  · decide
  · split
    · decide
    · split
      · decide
      · split <;> decide
theorem tk_0 (b : Int32) : tkC b = 0 ↔ srt b = 0 := by
  unfold tkC srt
  split
  · decide
  · split
    · decide
    · split
      · decide
      · split <;> decide
theorem tk_3 (b : Int32) : tkC b = 3 ↔ srt b = 3 ∧ b = 59 := by
  unfold tkC srt
  split
  · rename_i h; exact ⟨fun z => absurd z (by decide), fun z => absurd z.1 (by decide)⟩
  · split
    · rename_i h; exact ⟨fun z => absurd z (by decide), fun z => absurd z.1 (by decide)⟩
    · split
      · rename_i h; exact ⟨fun z => absurd z (by decide), fun z => absurd z.1 (by decide)⟩
      · split
        · rename_i h; exact ⟨fun _ => ⟨rfl, h⟩, fun _ => rfl⟩
        · rename_i h; exact ⟨fun z => absurd z (by decide), fun z => absurd z.2 h⟩
theorem nmb_r {B : Nat → Int32} {s : Nat} : ∀ n, (∀ i, i < n → isDg (B (s + i))) → ∃ m, m ≤ 10000 ∧ nmb B s n = nI m
  | 0, _ => ⟨0, by decide, rfl⟩
  | n + 1, hb => by
    obtain ⟨m, hm, e⟩ := nmb_r n (fun i hi => hb i (by omega))
    obtain ⟨h1, h2⟩ := hb n (by omega)
    obtain ⟨d, hd, ed⟩ := v0_le (m := 57) (Int32.le_trans (by decide) h1) h2 rfl
    rw [ed] at h1
    have d1 : 48 ≤ d := (nI_leI (a := 48) (b := d) (by decide) (by omega)).mp h1
    simp only [nmb]
    rw [e, ed]
    by_cases z : (999 : Int32) < nI m
    · rw [if_pos z]; exact ⟨10000, by decide, rfl⟩
    · rw [if_neg z]
      have z' : m ≤ 999 := (nI_leI (a := m) (b := 999) (by omega) (by decide)).mp (Int32.not_lt.mp z)
      refine ⟨10 * m + (d - 48), by omega, ?_⟩
      rw [show (10 : Int32) = nI 10 from rfl, pk_mul, show nI d = nI (d - 48) + 48 by rw [show (48 : Int32) = nI 48 from rfl, nI_add]; congr 1; omega, ← Int32.add_assoc, Int32.add_sub_cancel, nI_add]
theorem scn_ev {p : Int32 → Prop} [DecidablePred p] {B : Nat → Int32} : ∀ f j i, i < scn p B f j - j → p (B (j + i))
  | 0, j, i, h => absurd h (by simp only [scn]; omega)
  | f + 1, j, i, h => by
    simp only [scn] at h
    by_cases c : p (B j)
    · rw [if_pos c] at h
      cases i with
      | zero => exact c
      | succ i =>
        have := scn_ev (p := p) (B := B) f (j + 1) i (by omega)
        rw [show j + (i + 1) = j + 1 + i by omega]; exact this
    · rw [if_neg c] at h; omega
/-- the tape is read alike; both tokens end at e -/
def TE (B : Nat → Int32) (L : Nat) (u : MM) (t : TS) : Prop := u.1 281 = nI L ∧ L ≤ 120 ∧ bx u = B ∧ (∀ k, L ≤ k → B k = -1) ∧ ∃ e, e ≤ L ∧ u.1 284 = nI e ∧ t.en = nI e
def TR (B : Nat → Int32) (L : Nat) (u : MM) (t : TS) : Prop := u.1 281 = nI L ∧ L ≤ 120 ∧ bx u = B ∧ (∀ k, L ≤ k → B k = -1) ∧ ∃ s e, s ≤ e ∧ e ≤ L ∧ u.1 283 = nI s ∧ u.1 284 = nI e ∧ t.be = nI s ∧ t.en = nI e ∧ u.1 282 = tkC (B s) ∧ t.so = srt (B s) ∧ (srt (B s) = 2 → u.1 285 = t.va ∧ ∃ m, m ≤ 10000 ∧ t.va = nI m) ∧ (¬ srt (B s) = 2 → t.va = B s) ∧ (srt (B s) = 1 → t.wo = hsh B s (e - s) ∧ ∀ i, i < e - s → isLt (B (s + i))) ∧ (srt (B s) = 3 → s < e)
theorem TR.te {B : Nat → Int32} {L : Nat} {u : MM} {t : TS} (h : TR B L u t) : TE B L u t := by
  obtain ⟨h1, h2, h3, h4, s, e, h5, h6, h7, h8, h9, h10, -⟩ := h
  exact ⟨h1, h2, h3, h4, e, h6, h8, h10⟩
theorem srt_e1 {b : Int32} (h : srt b = 1) : ¬ b < 0 ∧ isLt b := by
  unfold srt at h
  split at h
  · cases h
  · rename_i a; split at h
    · rename_i c; exact ⟨a, c⟩
    · split at h <;> cases h
theorem srt_e2 {b : Int32} (h : srt b = 2) : ¬ b < 0 ∧ ¬ isLt b ∧ isDg b := by
  unfold srt at h
  split at h
  · cases h
  · rename_i a; split at h
    · cases h
    · rename_i c; split at h
      · rename_i d; exact ⟨a, c, d⟩
      · cases h
theorem srt_e3 {b : Int32} (h : srt b = 3) : ¬ b < 0 ∧ ¬ isLt b ∧ ¬ isDg b := by
  unfold srt at h
  split at h
  · cases h
  · rename_i a; split at h
    · cases h
    · rename_i c; split at h
      · cases h
      · rename_i d; exact ⟨a, c, d⟩
theorem adv_TR {B : Nat → Int32} {L : Nat} {u : MM} {t : TS} (hT : TX u) (h : TE B L u t) : TR B L (mX4_advance u) (adv B L t) := by
  obtain ⟨h1, h2, h3, h4, e, h5, h6, h7⟩ := h
  have hE : EX u := ⟨e, by rw [h1, NN_nI (by omega)]; exact h5, h6⟩
  obtain ⟨s, e', k1, k2, k3, k4⟩ := adv_TK hT hE
  have hL : NN (u.1 281) = L := by rw [h1, NN_nI (by omega)]
  have hN : NN (nI e) = e := NN_nI (by omega)
  have e1 : (mX4_advance u).1 281 = nI L := by rw [← h1]; exact tx_r1 _ _
  rw [e1, NN_nI (by omega)] at k2
  have c2 : (mX4_advance u).1 282 = tkC (B (tkB B L e)) := by show tkC (bx u (tkB (bx u) (NN (u.1 281)) (NN (u.1 284)))) = _; rw [h3, hL, h6, hN]
  have c3 : (mX4_advance u).1 283 = nI (tkB B L e) := by show nI (tkB (bx u) (NN (u.1 281)) (NN (u.1 284))) = _; rw [h3, hL, h6, hN]
  have c4 : (mX4_advance u).1 284 = nI (tkE B L (tkB B L e)) := by show nI (tkE (bx u) (NN (u.1 281)) (tkB (bx u) (NN (u.1 281)) (NN (u.1 284)))) = _; rw [h3, hL, h6, hN]
  have c5 : srt (B (tkB B L e)) = 2 → (mX4_advance u).1 285 = nmb B (tkB B L e) (tkE B L (tkB B L e) - tkB B L e) := fun z => by
    show (if srt (bx u (tkB (bx u) (NN (u.1 281)) (NN (u.1 284)))) = 2 then nmb (bx u) (tkB (bx u) (NN (u.1 281)) (NN (u.1 284))) (tkE (bx u) (NN (u.1 281)) (tkB (bx u) (NN (u.1 281)) (NN (u.1 284))) - tkB (bx u) (NN (u.1 281)) (NN (u.1 284))) else u.1 285) = _
    rw [h3, hL, h6, hN, if_pos z]
  have hs : tkB B L e ≤ L := by have := (scn_le (p := (· = 32)) (B := B) (L - e) e).2; unfold tkB; omega
  have a2 : (adv B L t).so = srt (B (tkB B L e)) := by show srt (B (tkB B L (NN t.en))) = _; rw [h7, hN]
  have a3 : (adv B L t).be = nI (tkB B L e) := by show nI (tkB B L (NN t.en)) = _; rw [h7, hN]
  have a4 : (adv B L t).en = nI (tkE B L (tkB B L e)) := by show nI (tkE B L (tkB B L (NN t.en))) = _; rw [h7, hN]
  have a5 : (adv B L t).va = if srt (B (tkB B L e)) = 2 then nmb B (tkB B L e) (tkE B L (tkB B L e) - tkB B L e) else B (tkB B L e) := by
    show (if srt (B (tkB B L (NN t.en))) = 2 then nmb B (tkB B L (NN t.en)) (tkE B L (tkB B L (NN t.en)) - tkB B L (NN t.en)) else B (tkB B L (NN t.en))) = _
    rw [h7, hN]
  have a6 : (adv B L t).wo = if srt (B (tkB B L e)) = 1 then hsh B (tkB B L e) (tkE B L (tkB B L e) - tkB B L e) else 0 := by
    show (if srt (B (tkB B L (NN t.en))) = 1 then hsh B (tkB B L (NN t.en)) (tkE B L (tkB B L (NN t.en)) - tkB B L (NN t.en)) else 0) = _
    rw [h7, hN]
  generalize tkB B L e = b at *
  have hbE : nI e' = nI (tkE B L b) := by rw [← k4, c4]
  have hbS : nI s = nI b := by rw [← k3, c3]
  have es : s = b := by have := congrArg NN hbS; rw [NN_nI (by omega), NN_nI (by omega)] at this; exact this
  subst es
  have tE : tkE B L s ≤ L + 1 := by
    unfold tkE
    split
    · omega
    · split
      · have := (scn_le (p := isLt) (B := B) (L - s) s).2; omega
      · split
        · have := (scn_le (p := isDg) (B := B) (L - s) s).2; omega
        · omega
  have ee : e' = tkE B L s := by have := congrArg NN hbE; rw [NN_nI (by omega), NN_nI (by omega)] at this; exact this
  subst ee
  refine ⟨e1, h2, (bx_tx _ _).trans h3, h4, s, tkE B L s, k1, k2, c3, c4, a3, a4, c2, a2, fun z => ⟨?_, ?_⟩, fun z => ?_, fun z => ⟨?_, ?_⟩, fun z => ?_⟩
  · rw [c5 z, a5, if_pos z]
  · rw [a5, if_pos z]
    refine nmb_r _ (fun i hi => ?_)
    obtain ⟨z1, z2, z3⟩ := srt_e2 z
    have : tkE B L s = scn isDg B (L - s) s := by unfold tkE; rw [if_neg z1, if_neg z2, if_pos z3]
    rw [this] at hi
    exact scn_ev _ _ _ hi
  · rw [a5, if_neg z]
  · rw [a6, if_pos z]
  · obtain ⟨z1, z2⟩ := srt_e1 z
    have : tkE B L s = scn isLt B (L - s) s := by unfold tkE; rw [if_neg z1, if_pos z2]
    rw [this]
    exact fun i hi => scn_ev _ _ _ hi
  · obtain ⟨z1, z2, z3⟩ := srt_e3 z
    have : tkE B L s = s + 1 := by unfold tkE; rw [if_neg z1, if_neg z2, if_neg z3]
    omega
theorem wd_iff {B : Nat → Int32} {L : Nat} {u : MM} {t : TS} (h : TR B L u t) {k : Nat} (hk : k < 11) : wd u k ↔ isW t (xk k) := by
  obtain ⟨h1, h2, h3, h4, s, e, h5, h6, h7, h8, h9, h10, h11, h12, -, -, h15, -⟩ := h
  rw [wd, isW, h11, h12, h7, h8, h3, NN_nI (by omega), NN_nI (by omega), tk_1]
  constructor
  · intro z
    obtain ⟨e1, e2⟩ := h15 z.1
    exact ⟨z.1, by rw [e1]; exact (word_iff hk e2).mpr z.2⟩
  · intro z
    obtain ⟨e1, e2⟩ := h15 z.1
    exact ⟨z.1, (word_iff hk e2).mp (by rw [← e1]; exact z.2)⟩
theorem num_iff {B : Nat → Int32} {L : Nat} {u : MM} {t : TS} (h : TR B L u t) (n : Int32) : numB u n ↔ t.so = 2 ∧ t.va < n := by
  obtain ⟨h1, h2, h3, h4, s, e, h5, h6, h7, h8, h9, h10, h11, h12, h13, -⟩ := h
  rw [numB, h11, h12, tk_2]
  constructor
  · intro z; exact ⟨z.1, by rw [← (h13 z.1).1]; exact z.2⟩
  · intro z; exact ⟨z.1, by rw [(h13 z.1).1]; exact z.2⟩
theorem va_eq {B : Nat → Int32} {L : Nat} {u : MM} {t : TS} (h : TR B L u t) (hs : t.so = 2) : u.1 285 = t.va ∧ ∃ m, m ≤ 10000 ∧ t.va = nI m := by
  obtain ⟨h1, h2, h3, h4, s, e, h5, h6, h7, h8, h9, h10, h11, h12, h13, -⟩ := h
  rw [h12] at hs; exact h13 hs
theorem be_eq {B : Nat → Int32} {L : Nat} {u : MM} {t : TS} (h : TR B L u t) : u.1 283 = t.be := by
  obtain ⟨h1, h2, h3, h4, s, e, h5, h6, h7, h8, h9, h10, -⟩ := h
  rw [h7, h9]
theorem knd_eq {B : Nat → Int32} {L : Nat} {u : MM} {t : TS} (h : TR B L u t) : rX4_kindNamed u = kH t := by
  unfold rX4_kindNamed kH
  rw [← xk_5, ← xk_6, ← xk_7, ← xk_8, ← xk_9, ← xk_10]
  rw [ifq (wd_iff h (show 5 < 11 by decide)), ifq (wd_iff h (show 6 < 11 by decide)), ifq (wd_iff h (show 7 < 11 by decide)), ifq (wd_iff h (show 8 < 11 by decide)), ifq (wd_iff h (show 9 < 11 by decide)), ifq (wd_iff h (show 10 < 11 by decide))]
theorem so_0' {B : Nat → Int32} {L : Nat} {u : MM} {t : TS} (h : TR B L u t) : u.1 282 = 0 ↔ t.so = 0 := by
  obtain ⟨h1, h2, h3, h4, s, e, h5, h6, h7, h8, h9, h10, h11, h12, -⟩ := h
  rw [h11, h12, tk_0]
theorem so_3' {B : Nat → Int32} {L : Nat} {u : MM} {t : TS} (h : TR B L u t) : u.1 282 = 3 ↔ t.so = 3 ∧ t.va = 59 := by
  obtain ⟨h1, h2, h3, h4, s, e, h5, h6, h7, h8, h9, h10, h11, h12, -, h14, -⟩ := h
  rw [h11, h12, tk_3]
  constructor
  · intro z; exact ⟨z.1, by rw [h14 (by rw [z.1]; decide)]; exact z.2⟩
  · intro z; exact ⟨z.1, by rw [← h14 (by rw [z.1]; decide)]; exact z.2⟩
