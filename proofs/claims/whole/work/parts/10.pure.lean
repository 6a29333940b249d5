/-! ===== the hall as a row of numbers: 0 second, 1 seats, 2 court, 3 + 3 s the seats (place, worth, holder), 21 + 7 c the court (kind, spot, toes, will, coins, seat, sat) ===== -/
def vw (u : MM) (b : Nat) : Nat → Int32 := fun i => u.1 (b + i)
def pv (u : MM) (b : Nat) (R : Nat → Int32) : MM := (fun j => if b ≤ j then R (j - b) else u.1 j, u.2)
theorem vw_pv (u : MM) (b : Nat) (R : Nat → Int32) : vw (pv u b R) b = R := by funext i; simp [vw, pv]
theorem pv_vw (u : MM) (b : Nat) : pv u b (vw u b) = u := by
  apply Prod.ext
  · funext j
    simp only [pv, vw]
    by_cases h : b ≤ j
    · rw [if_pos h, show b + (j - b) = j by omega]
    · rw [if_neg h]
  · rfl
theorem pv_pv (u : MM) (b : Nat) (R S : Nat → Int32) : pv (pv u b R) b S = pv u b S := by
  apply Prod.ext
  · funext j
    simp only [pv]
    by_cases h : b ≤ j
    · rw [if_pos h, if_pos h]
    · rw [if_neg h, if_neg h, if_neg h]
  · rfl
theorem uI_pv (u : MM) (b i : Nat) (R : Nat → Int32) (v : Int32) : uI (pv u b R) (b + i) v = pv u b (upd R i v) := by
  apply Prod.ext
  · funext j
    simp only [pv, uI, upd]
    by_cases h : b ≤ j
    · rw [if_pos h, if_pos h]
      by_cases e : j = b + i
      · rw [if_pos e, if_pos (by omega)]
      · rw [if_neg e, if_neg (by omega)]
    · rw [if_neg h, if_neg h, if_neg (by omega)]
  · rfl
theorem uI_vw (u : MM) (b i : Nat) (v : Int32) : uI u (b + i) v = pv u b (upd (vw u b) i v) := by
  have := uI_pv u b i (vw u b) v
  rw [pv_vw] at this
  exact this
theorem pv_lo (u : MM) (b : Nat) (R : Nat → Int32) {j : Nat} (h : j < b) : (pv u b R).1 j = u.1 j := by simp [pv]; omega
theorem pv_hi (u : MM) (b : Nat) (R : Nat → Int32) (i : Nat) : (pv u b R).1 (b + i) = R i := by simp [pv]
theorem pv_2 (u : MM) (b : Nat) (R : Nat → Int32) : (pv u b R).2 = u.2 := rfl
-- what one is
def lean (k t : Int32) : Int32 := if k = 1 then t + 30 else if k = 2 then 0 else if k = 4 then 2 * t else if k = 5 then t + 50 else t
def stay (k : Int32) : Int32 := if k = 1 then 20 else if k = 3 then 15 else if k = 4 then 4 else if k = 5 then 20 else 10
def rem32 (x y : Int32) : Int32 := x - x / y * y
def goe (k s : Int32) : Int32 := if k = 1 ∨ k = 5 then (if rem32 s 2 = 0 then 1 else 0) else if k = 2 then 2 else if k = 3 ∨ k = 4 then (if rem32 s 3 = 0 then 0 else 1) else 1
def dist (a b : Int32) : Int32 := 100 * ((a / 10 - b / 10) * (a / 10 - b / 10) + (rem32 a 10 - rem32 b 10) * (rem32 a 10 - rem32 b 10))
/-- the court's one c: its number k -/
def on (R : Nat → Int32) (c k : Nat) : Int32 := R (21 + 7 * c + k)
def se (R : Nat → Int32) (s k : Nat) : Int32 := R (3 + 3 * s + k)
/-- a number of one, of a seat, is set -/
def ost (R : Nat → Int32) (c k : Nat) (v : Int32) : Nat → Int32 := upd R (21 + 7 * c + k) v
def sst (R : Nat → Int32) (s k : Nat) (v : Int32) : Nat → Int32 := upd R (3 + 3 * s + k) v
theorem on_vw (u : MM) (b c k : Nat) : u.1 (b + (21 + 7 * c + k)) = on (vw u b) c k := rfl
theorem se_vw (u : MM) (b s k : Nat) : u.1 (b + (3 + 3 * s + k)) = se (vw u b) s k := rfl
theorem on_f (u : MM) (b c k : Nat) : u.1 (b + (21 + 7 * c) + k) = on (vw u b) c k := by simp only [on, vw, Nat.add_assoc]
theorem on_f0 (u : MM) (b c : Nat) : u.1 (b + (21 + 7 * c)) = on (vw u b) c 0 := rfl
theorem se_f (u : MM) (b s k : Nat) : u.1 (b + (3 + 3 * s) + k) = se (vw u b) s k := by simp only [se, vw, Nat.add_assoc]
theorem se_f0 (u : MM) (b s : Nat) : u.1 (b + (3 + 3 * s)) = se (vw u b) s 0 := rfl
theorem ost_uI (u : MM) (b c k : Nat) (v : Int32) : uI u (b + (21 + 7 * c + k)) v = pv u b (ost (vw u b) c k v) := uI_vw u b _ v
theorem sst_uI (u : MM) (b s k : Nat) (v : Int32) : uI u (b + (3 + 3 * s + k)) v = pv u b (sst (vw u b) s k v) := uI_vw u b _ v
theorem ost_pv (u : MM) (b c k : Nat) (R : Nat → Int32) (v : Int32) : uI (pv u b R) (b + (21 + 7 * c + k)) v = pv u b (ost R c k v) := uI_pv u b _ R v
theorem sst_pv (u : MM) (b s k : Nat) (R : Nat → Int32) (v : Int32) : uI (pv u b R) (b + (3 + 3 * s + k)) v = pv u b (sst R s k v) := uI_pv u b _ R v
theorem on_ost {R : Nat → Int32} {c k c' k' : Nat} {v : Int32} (h : k < 7) (h' : k' < 7) : on (ost R c k v) c' k' = if c' = c ∧ k' = k then v else on R c' k' := by
  simp only [on, ost, upd]
  by_cases e : c' = c ∧ k' = k
  · rw [if_pos (by omega), if_pos e]
  · rw [if_neg (by omega), if_neg e]
theorem on_ost_ne {R : Nat → Int32} {c k c' k' : Nat} {v : Int32} (h : k < 7) (h' : k' < 7) (hk : k' ≠ k) : on (ost R c k v) c' k' = on R c' k' := by
  rw [on_ost h h', if_neg (fun z => hk z.2)]
theorem on_ost_nc {R : Nat → Int32} {c k c' k' : Nat} {v : Int32} (h : k < 7) (h' : k' < 7) (hc : c' ≠ c) : on (ost R c k v) c' k' = on R c' k' := by
  rw [on_ost h h', if_neg (fun z => hc z.1)]
theorem on_ost_eq {R : Nat → Int32} {c k : Nat} {v : Int32} : on (ost R c k v) c k = v := by
  simp only [on, ost, upd, if_true]
theorem se_ost {R : Nat → Int32} {c k s k' : Nat} {v : Int32} (hs : s < 6) (h' : k' < 3) : se (ost R c k v) s k' = se R s k' := by
  simp only [se, ost, upd]
  rw [if_neg (by omega)]
theorem on_sst {R : Nat → Int32} {s k c k' : Nat} {v : Int32} (hs : s < 6) (h : k < 3) : on (sst R s k v) c k' = on R c k' := by
  simp only [on, sst, upd]
  rw [if_neg (by omega)]
theorem se_sst {R : Nat → Int32} {s k s' k' : Nat} {v : Int32} (h : k < 3) (h' : k' < 3) : se (sst R s k v) s' k' = if s' = s ∧ k' = k then v else se R s' k' := by
  simp only [se, sst, upd]
  by_cases e : s' = s ∧ k' = k
  · rw [if_pos (by omega), if_pos e]
  · rw [if_neg (by omega), if_neg e]
theorem hd_ost {R : Nat → Int32} {c k i : Nat} {v : Int32} (h : i < 21) : ost R c k v i = R i := by
  simp only [ost, upd]; rw [if_neg (by omega)]
theorem hd_sst {R : Nat → Int32} {s k i : Nat} {v : Int32} (h : i < 3) : sst R s k v i = R i := by
  simp only [sst, upd]; rw [if_neg (by omega)]
theorem on_u0 {R : Nat → Int32} {i c k : Nat} {v : Int32} (h : i < 3) : on (upd R i v) c k = on R c k := by
  simp only [on, upd]; rw [if_neg (by omega)]
theorem se_u0 {R : Nat → Int32} {i s k : Nat} {v : Int32} (h : i < 3) : se (upd R i v) s k = se R s k := by
  simp only [se, upd]; rw [if_neg (by omega)]
theorem ost_same {R : Nat → Int32} {c k : Nat} {v : Int32} (h : on R c k = v) : ost R c k v = R := by
  funext j; simp only [ost, upd]; split
  · rename_i e; rw [e]; exact h.symm
  · rfl
def farP (R : Nat → Int32) (c : Nat) (p : Int32) : Int32 := dist (on R c 1) p - lean (on R c 0) (on R c 2)
abbrev ahead (R : Nat → Int32) (c d : Nat) (p : Int32) : Prop := farP R c p < farP R d p ∨ (farP R c p = farP R d p ∧ on R d 2 < on R c 2)
abbrev mayP (R : Nat → Int32) (but : Int32) (c : Nat) : Prop := ¬ nI c = but ∧ on R c 5 < 0 ∧ ¬ on R c 0 = 2
/-- the next for a place among the first n, but one -/
def nx (R : Nat → Int32) (p but : Int32) : Nat → Int32
  | 0 => -1
  | n + 1 => if mayP R but n ∧ (nx R p but n < 0 ∨ ahead R n (NN (nx R p but n)) p) then nI n else nx R p but n
theorem nx_rng (R : Nat → Int32) (p but : Int32) : ∀ n, nx R p but n = -1 ∨ ∃ c, c < n ∧ nx R p but n = nI c
  | 0 => Or.inl rfl
  | n + 1 => by
    simp only [nx]
    split
    · exact Or.inr ⟨n, Nat.lt_succ_self n, rfl⟩
    · rcases nx_rng R p but n with h | ⟨c, h1, h2⟩
      · exact Or.inl h
      · exact Or.inr ⟨c, by omega, h2⟩
