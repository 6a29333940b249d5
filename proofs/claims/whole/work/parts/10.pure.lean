/-! ===== the hall as a row of numbers: 0 second, 1 seats, 2 court, 3 + 3 s the seats (place, worth, holder), 21 + 7 c the court (kind, spot, toes, will, coins, seat, sat) ===== -/
def vw (u : MM) (b : Nat) : Nat → Int32 := fun i => u.1 (b + i)
def pv (u : MM) (b : Nat) (R : Nat → Int32) : MM := (fun j => if b ≤ j then R (j - b) else u.1 j, u.2)
theorem vw_pv (u : MM) (b : Nat) (R : Nat → Int32) : vw (pv u b R) b = R := by funext i; simp [vw, pv]
theorem pv_vw (u : MM) (b : Nat) : pv u b (vw u b) = u := by
  apply Prod.ext
  · funext j
    simp only [pv, vw]
    by_cases h : b ≤ j
    · rw [if_pos h, show b + (j - b) = j by omega]
    · rw [if_neg h]
  · rfl
theorem pv_pv (u : MM) (b : Nat) (R S : Nat → Int32) : pv (pv u b R) b S = pv u b S := by
  apply Prod.ext
  · funext j
    simp only [pv]
    by_cases h : b ≤ j
    · rw [if_pos h, if_pos h]
    · rw [if_neg h, if_neg h, if_neg h]
  · rfl
theorem uI_pv (u : MM) (b i : Nat) (R : Nat → Int32) (v : Int32) : uI (pv u b R) (b + i) v = pv u b (upd R i v) := by
  apply Prod.ext
  · funext j
    simp only [pv, uI, upd]
    by_cases h : b ≤ j
    · rw [if_pos h, if_pos h]
      by_cases e : j = b + i
      · rw [if_pos e, if_pos (by omega)]
      · rw [if_neg e, if_neg (by omega)]
    · rw [if_neg h, if_neg h, if_neg (by omega)]
  · rfl
theorem uI_vw (u : MM) (b i : Nat) (v : Int32) : uI u (b + i) v = pv u b (upd (vw u b) i v) := by
  have := uI_pv u b i (vw u b) v
  rw [pv_vw] at this
  exact this
theorem pv_lo (u : MM) (b : Nat) (R : Nat → Int32) {j : Nat} (h : j < b) : (pv u b R).1 j = u.1 j := by simp [pv]; omega
theorem pv_hi (u : MM) (b : Nat) (R : Nat → Int32) (i : Nat) : (pv u b R).1 (b + i) = R i := by simp [pv]
theorem pv_2 (u : MM) (b : Nat) (R : Nat → Int32) : (pv u b R).2 = u.2 := rfl
-- what one is
def lean (k t : Int32) : Int32 := if k = 1 then t + 30 else if k = 2 then 0 else if k = 4 then 2 * t else if k = 5 then t + 50 else t
def stay (k : Int32) : Int32 := if k = 1 then 20 else if k = 3 then 15 else if k = 4 then 4 else if k = 5 then 20 else 10
def rem32 (x y : Int32) : Int32 := x - x / y * y
def goe (k s : Int32) : Int32 := if k = 1 ∨ k = 5 then (if rem32 s 2 = 0 then 1 else 0) else if k = 2 then 2 else if k = 3 ∨ k = 4 then (if rem32 s 3 = 0 then 0 else 1) else 1
def dist (a b : Int32) : Int32 := 100 * ((a / 10 - b / 10) * (a / 10 - b / 10) + (rem32 a 10 - rem32 b 10) * (rem32 a 10 - rem32 b 10))
/-- the court's one c: its number k -/
abbrev on (R : Nat → Int32) (c k : Nat) : Int32 := R (21 + 7 * c + k)
abbrev se (R : Nat → Int32) (s k : Nat) : Int32 := R (3 + 3 * s + k)
def farP (R : Nat → Int32) (c : Nat) (p : Int32) : Int32 := dist (on R c 1) p - lean (on R c 0) (on R c 2)
abbrev ahead (R : Nat → Int32) (c d : Nat) (p : Int32) : Prop := farP R c p < farP R d p ∨ (farP R c p = farP R d p ∧ on R d 2 < on R c 2)
abbrev mayP (R : Nat → Int32) (but : Int32) (c : Nat) : Prop := ¬ nI c = but ∧ on R c 5 < 0 ∧ ¬ on R c 0 = 2
/-- the next for a place among the first n, but one -/
def nx (R : Nat → Int32) (p but : Int32) : Nat → Int32
  | 0 => -1
  | n + 1 => if mayP R but n ∧ (nx R p but n < 0 ∨ ahead R n (NN (nx R p but n)) p) then nI n else nx R p but n
theorem nx_rng (R : Nat → Int32) (p but : Int32) : ∀ n, nx R p but n = -1 ∨ ∃ c, c < n ∧ nx R p but n = nI c
  | 0 => Or.inl rfl
  | n + 1 => by
    simp only [nx]
    split
    · exact Or.inr ⟨n, Nat.lt_succ_self n, rfl⟩
    · rcases nx_rng R p but n with h | ⟨c, h1, h2⟩
      · exact Or.inl h
      · exact Or.inr ⟨c, by omega, h2⟩
