/-! ===== words: letters and their number ===== -/
def dg (b : Int32) : Nat := NN b - 96
def hn (B : Nat → Int32) (s : Nat) : Nat → Nat
  | 0 => 0
  | n + 1 => 27 * hn B s n + dg (B (s + n))
def hvF (l : List Int32) : Nat := l.foldl (fun a c => 27 * a + dg c) 0
theorem lt_of {b : Int32} (h : isLt b) : ∃ m, 97 ≤ m ∧ m ≤ 122 ∧ b = nI m := by
  obtain ⟨m, hm, rfl⟩ := v0_le (m := 122) (Int32.le_trans (by decide) h.1) h.2 rfl
  exact ⟨m, (nI_leI (a := 97) (b := m) (by decide) (by omega)).mp h.1, hm, rfl⟩
theorem dg_b {b : Int32} (h : isLt b) : 1 ≤ dg b ∧ dg b ≤ 26 := by
  obtain ⟨m, h1, h2, rfl⟩ := lt_of h
  rw [dg, NN_nI (by omega)]; omega
theorem dg_inj {a b : Int32} (h : isLt a) (g : isLt b) : dg a = dg b ↔ a = b := by
  constructor
  · intro e
    obtain ⟨m, h1, h2, rfl⟩ := lt_of h
    obtain ⟨n, g1, g2, rfl⟩ := lt_of g
    rw [dg, dg, NN_nI (by omega), NN_nI (by omega)] at e
    rw [show m = n by omega]
  · intro e; rw [e]
theorem mt_snoc (B : Nat → Int32) (c : Int32) : ∀ (l : List Int32) (s : Nat), mt B s (l ++ [c]) = true ↔ mt B s l = true ∧ B (s + l.length) = c
  | [], s => by simp [mt]
  | a :: l, s => by
    simp only [List.cons_append, mt, Bool.and_eq_true, decide_eq_true_eq, List.length_cons]
    rw [mt_snoc B c l (s + 1), show s + 1 + l.length = s + (l.length + 1) by omega, and_assoc]
theorem hvF_snoc (l : List Int32) (c : Int32) : hvF (l ++ [c]) = 27 * hvF l + dg c := by
  unfold hvF; rw [List.foldl_append]; rfl
theorem hn_iff {B : Nat → Int32} {s : Nat} : ∀ (m n : Nat) (l : List Int32), l.length = m → (∀ c ∈ l, isLt c) → (∀ i, i < n → isLt (B (s + i))) → (hn B s n = hvF l ↔ n = l.length ∧ mt B s l = true)
  | 0, n, l, hl, _, hb => by
    have : l = [] := List.eq_nil_of_length_eq_zero hl
    subst this
    cases n with
    | zero => exact ⟨fun _ => ⟨rfl, rfl⟩, fun _ => rfl⟩
    | succ n =>
      have := dg_b (hb n (by omega))
      constructor
      · intro e; exact absurd e (by simp only [hn]; show ¬ _ = 0; omega)
      · intro e; exact absurd e.1 (by simp)
  | m + 1, n, l, hl, hc, hb => by
    obtain rfl | ⟨l', c, rfl⟩ := List.eq_nil_or_concat l
    · cases hl
    · rw [List.concat_eq_append] at *
      have hl' : l'.length = m := by simp at hl; exact hl
      have c1 := hc c (by simp)
      have d1 := dg_b c1
      rw [hvF_snoc, mt_snoc, List.length_append, List.length_singleton]
      cases n with
      | zero =>
        constructor
        · intro e; exact absurd e (by simp only [hn]; omega)
        · intro e; exact absurd e.1 (by omega)
      | succ n =>
        have ih := hn_iff m n l' hl' (fun x hx => hc x (by simp [hx])) (fun i hi => hb i (by omega))
        have b1 := hb n (by omega)
        have d2 := dg_b b1
        simp only [hn]
        constructor
        · intro e
          have e1 : dg (B (s + n)) = dg c := by omega
          have e2 := ih.mp (by omega)
          exact ⟨by omega, e2.2, by rw [← e2.1]; exact (dg_inj b1 c1).mp e1⟩
        · intro e
          have en : n = l'.length := by omega
          have e2 := ih.mpr ⟨en, e.2.1⟩
          have e3 := e.2.2
          rw [← en] at e3
          rw [e2, e3]
theorem hn_lt {B : Nat → Int32} {s : Nat} : ∀ n, (∀ i, i < n → isLt (B (s + i))) → hn B s n < 27 ^ n
  | 0, _ => by simp [hn]
  | n + 1, hb => by
    have := hn_lt n (fun i hi => hb i (by omega))
    have := dg_b (hb n (by omega))
    simp only [hn, Nat.pow_succ]; omega
theorem hsh_hn {B : Nat → Int32} {s : Nat} : ∀ n, n ≤ 12 → (∀ i, i < n → isLt (B (s + i))) → hsh B s n = Int64.ofNat (hn B s n)
  | 0, _, _ => rfl
  | n + 1, h, hb => by
    obtain ⟨m, h1, h2, e⟩ := lt_of (hb n (by omega))
    simp only [hsh]
    rw [if_pos (by omega), hsh_hn n (by omega) (fun i hi => hb i (by omega)), hn, dg, e, NN_nI (by omega)]
    have e1 : (nI m).toInt64 = Int64.ofNat m := by
      apply Int64.toInt_inj.mp
      rw [Int32.toInt_toInt64, nI_toInt (by omega), Int64.toInt_ofNat_of_lt (by omega)]
    have e2 : Int64.ofNat m = Int64.ofNat (m - 96) + 96 := by
      rw [show (96 : Int64) = Int64.ofNat 96 from rfl, ← Int64.ofNat_add]; congr 1; omega
    rw [e1, e2, Int64.ofNat_add, Int64.ofNat_mul, ← Int64.add_assoc, Int64.add_sub_cancel]
    rfl
theorem hsh_13 {B : Nat → Int32} {s : Nat} : ∀ n, 12 < n → hsh B s n = -1
  | 0, h => absurd h (by omega)
  | n + 1, h => by simp only [hsh]; rw [if_neg (by omega)]
/-- the reference's number of the class's k-th word -/
def xk (k : Nat) : Int64 := Int64.ofNat (hvF (kb k))
theorem kb_f : ∀ k, k < 11 → (∀ c ∈ kb k, isLt c) ∧ hvF (kb k) < 27 ^ 12 ∧ (kb k).length ≤ 8 := by decide +kernel
theorem ofNat_inj {a b : Nat} (ha : a < 2 ^ 63) (hb : b < 2 ^ 63) : Int64.ofNat a = Int64.ofNat b ↔ a = b := by
  constructor
  · intro e
    have := congrArg Int64.toInt e
    rw [Int64.toInt_ofNat_of_lt ha, Int64.toInt_ofNat_of_lt hb] at this
    exact Int.ofNat.inj this
  · intro e; rw [e]
theorem word_iff {B : Nat → Int32} {s n k : Nat} (hk : k < 11) (hb : ∀ i, i < n → isLt (B (s + i))) : hsh B s n = xk k ↔ n = (kb k).length ∧ mt B s (kb k) = true := by
  obtain ⟨k1, k2, k3⟩ := kb_f k hk
  by_cases z : n ≤ 12
  · rw [hsh_hn n z hb, xk, ofNat_inj ?_ (Nat.lt_trans k2 (by decide)), hn_iff _ n (kb k) rfl k1 hb]
    exact Nat.lt_of_lt_of_le (hn_lt n hb) (Nat.le_trans (Nat.pow_le_pow_right (by decide) z) (by decide))
  · rw [hsh_13 n (by omega)]
    constructor
    · intro e
      have := congrArg Int64.toInt e
      rw [xk, Int64.toInt_ofNat_of_lt (Nat.lt_trans k2 (by decide))] at this
      exact absurd this (by show ¬ (-1 : Int) = _; omega)
    · intro e; omega
theorem xk_0 : xk 0 = 377669 := by decide +kernel
theorem xk_1 : xk 1 = 1905074 := by decide +kernel
theorem xk_2 : xk 2 = 12532058 := by decide +kernel
theorem xk_3 : xk 3 = 404749 := by decide +kernel
theorem xk_4 : xk 4 = 12253591 := by decide +kernel
theorem xk_5 : xk 5 = 37503660303 := by decide +kernel
theorem xk_6 : xk 6 = 4421 := by decide +kernel
theorem xk_7 : xk 7 = 315851 := by decide +kernel
theorem xk_8 : xk 8 = 7656243178 := by decide +kernel
theorem xk_9 : xk 9 = 2401198578 := by decide +kernel
theorem xk_10 : xk 10 = 70400 := by decide +kernel
