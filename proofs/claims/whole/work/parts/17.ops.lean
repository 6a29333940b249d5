/-! ===== what the acts on the hall answer, and what the hall is then ===== -/
/-- beyond the hall's 91 numbers nothing changes -/
theorem ost_hi {R : Nat → Int32} {c k i : Nat} {v : Int32} (hc : c < 10) (hk : k < 7) (hi : 91 ≤ i) : ost R c k v i = R i := by
  simp only [ost, upd]; rw [if_neg (by omega)]
theorem sst_hi {R : Nat → Int32} {s k i : Nat} {v : Int32} (hs : s < 6) (hk : k < 3) (hi : 91 ≤ i) : sst R s k v i = R i := by
  simp only [sst, upd]; rw [if_neg (by omega)]
theorem fallsP_hi {R : Nat → Int32} {s to : Int32} {i : Nat} (hs : NN s < 6) (ht : to < 0 ∨ vp_in to 10) (hi : 91 ≤ i) : fallsP R s to i = R i := by
  unfold fallsP; split
  · exact sst_hi hs (by decide) hi
  · rename_i z
    have h10 := vi_lt (ht.resolve_left z)
    rw [ost_hi h10 (by decide) hi, ost_hi h10 (by decide) hi, ost_hi h10 (by decide) hi, sst_hi hs (by decide) hi]
theorem risesP_hi {R : Nat → Int32} {s : Int32} {i : Nat} (hO : Ok R) (hs : NN s < 6) (hh : vp_in (se R (NN s) 2) 10) (hi : 91 ≤ i) : risesP R s i = R i := by
  have h10 := vi_lt hh
  unfold risesP
  rw [fallsP_hi hs (nx_vi _ _ _ hO.K.1) hi]
  unfold upP
  rw [ost_hi h10 (by decide) hi, ost_hi h10 (by decide) hi, ost_hi h10 (by decide) hi]
theorem wk_hi {c : Nat} {t : Int32} {i : Nat} (hc : c < 10) (hi : 91 ≤ i) : ∀ (n : Nat) (R : Nat → Int32), wk c t n R i = R i
  | 0, _ => rfl
  | n + 1, R => by
    simp only [wk]; split
    · rw [wk_hi hc hi n, ost_hi hc (by decide) hi]
    · rfl
theorem wa_hi (R : Nat → Int32) {i : Nat} (hi : 91 ≤ i) : ∀ n, n ≤ 10 → wa R n i = R i
  | 0, _ => rfl
  | n + 1, hn => by
    simp only [wa]; split
    · unfold walkP; rw [wk_hi (by omega) hi]; exact wa_hi R hi n (by omega)
    · exact wa_hi R hi n (by omega)
theorem seat1_hi {R : Nat → Int32} {s i : Nat} (hO : Ok R) (hs : s < NN (R 1)) (hi : 91 ≤ i) : seat1 R s i = R i := by
  have hM := hO.M.1
  have hN : NN (nI s) = s := NN_nI (by omega)
  unfold seat1; split
  · exact fallsP_hi (by omega) (nx_vi _ _ _ hO.K.1) hi
  · rename_i z
    have hh := (hO.2.2.1 s hs).resolve_left z
    split
    · exact risesP_hi hO (by omega) (by rw [hN]; exact vi_mono hh hO.K.1) hi
    · rfl
theorem ss_hi {R : Nat → Int32} (hO : Ok R) {i : Nat} (hi : 91 ≤ i) : ∀ n, n ≤ NN (R 1) → ss R n i = R i
  | 0, _ => rfl
  | n + 1, hn => by
    simp only [ss]
    rw [seat1_hi (ss_Ok hO n (by omega)) (by rw [ss_hd R (by decide)]; omega) hi]
    exact ss_hi hO hi n (by omega)
theorem pa_hi (R : Nat → Int32) {i : Nat} (hi : 91 ≤ i) : ∀ n, n ≤ 10 → pa R n i = R i
  | 0, _ => rfl
  | n + 1, hn => by
    simp only [pa, pay1]; split
    · exact pa_hi R hi n (by omega)
    · rw [ost_hi (by omega) (by decide) hi, ost_hi (by omega) (by decide) hi]; exact pa_hi R hi n (by omega)
theorem secP_hi {R : Nat → Int32} (hO : Ok R) {i : Nat} (hi : 91 ≤ i) : secP R i = R i := by
  have hK := hO.K.1
  simp only [secP]
  rw [show ∀ (f : Nat → Int32) v, upd f 0 v i = f i from fun f v => by simp only [upd]; rw [if_neg (by omega)], pa_hi _ hi _ hK, ss_hi (wa_Ok hO _) hi _ (by rw [wa_hd R (by decide)]; exact Nat.le_refl _), wa_hi _ hi _ hK]
theorem goP_hi {R : Nat → Int32} (hO : Ok R) {i : Nat} (hi : 91 ≤ i) : ∀ n, goP n R i = R i
  | 0 => rfl
  | n + 1 => by simp only [goP]; rw [secP_hi (goP_Ok hO n) hi]; exact goP_hi hO hi n
-- acts
/-- a finding, or an answer and the hall then -/
abbrev OP : Type := Nat ⊕ (Int32 × (Nat → Int32))
def an (o : OP) : Int32 := match o with
  | .inl k => -1000000001 - nI k
  | .inr (a, _) => a
abbrev isSt (R : Nat → Int32) (s : Int32) : Prop := 0 ≤ s ∧ s ≤ R 1 - 1
abbrev isOn (R : Nat → Int32) (c : Int32) : Prop := 0 ≤ c ∧ c ≤ R 2 - 1
abbrev in99 (v : Int32) : Prop := 0 ≤ v ∧ v ≤ 99
abbrev late (R : Nat → Int32) (n : Int32) : Prop := 9999 < R 0 + n
abbrev wtg (R : Nat → Int32) (c : Nat) : Prop := on R c 5 < 0 ∧ ¬ on R c 0 = 2
def oSeat (R : Nat → Int32) (p t : Int32) : OP := if ¬ (in99 p ∧ in99 t) then .inl 0 else if hs R p (NN (R 1)) = true then .inl 4 else if R 1 = 6 then .inl 1 else .inr (R 1, seatAdd R p t)
def oSeatOf (R : Nat → Int32) (s k : Int32) : OP := if ¬ (isSt R s ∧ 0 ≤ k ∧ k ≤ 3) then .inl 0 else .inr (if k = 3 then nx R (se R (NN s) 0) (-1) (NN (R 2)) else se R (NN s) (NN k), R)
def oWorth (R : Nat → Int32) (s v : Int32) : OP := if ¬ (isSt R s ∧ in99 v) then .inl 0 else .inr (se R (NN s) 1, sst R (NN s) 1 v)
def oComes (R : Nat → Int32) (k p t : Int32) : OP := if ¬ ((0 ≤ k ∧ k ≤ 5) ∧ in99 p ∧ in99 t) then .inl 0 else if R 2 = 10 then .inl 1 else .inr (R 2, oneAdd R k p t (-1))
def ofK (R : Nat → Int32) (c : Nat) (k : Int32) : Int32 := if k = 7 then lean (on R c 0) (on R c 2) else if k = 8 then stay (on R c 0) else if k = 9 then goe (on R c 0) (R 0) else on R c (NN k)
def oOf (R : Nat → Int32) (c k : Int32) : OP := if ¬ (isOn R c ∧ 0 ≤ k ∧ k ≤ 9) then .inl 0 else .inr (ofK R (NN c) k, R)
abbrev setOk (R : Nat → Int32) (k v : Int32) : Prop := (if k = 3 then -1 else 0) ≤ v ∧ v ≤ (if k = 3 then R 1 - 1 else 99)
def oSet (R : Nat → Int32) (c k v : Int32) : OP := if ¬ (isOn R c ∧ (1 ≤ k ∧ k ≤ 3) ∧ setOk R k v) then .inl 0 else if k = 1 ∧ ¬ on R (NN c) 5 < 0 then .inl 4 else .inr (on R (NN c) (NN k), ost R (NN c) (NN k) v)
def oTurn (R : Nat → Int32) (c k : Int32) : OP := if ¬ (isOn R c ∧ 0 ≤ k ∧ k ≤ 5) then .inl 0 else .inr (on R (NN c) 0, ost R (NN c) 0 k)
def oAs (R : Nat → Int32) (c k : Int32) : OP := if ¬ (isOn R c ∧ 0 ≤ k ∧ k ≤ 5) then .inl 0 else if under (on R (NN c) 0) k then .inr (on R (NN c) 4, R) else .inl 2
def oFar (R : Nat → Int32) (c p : Int32) : OP := if ¬ (isOn R c ∧ in99 p) then .inl 0 else .inr (farP R (NN c) p, R)
def onSet (R : Nat → Int32) (p : Int32) : Nat → Int32
  | 0 => 0
  | n + 1 => onSet R p n ||| (if on R n 5 < 0 ∧ on R n 1 = p then 1 <<< (nI n &&& 31) else 0)
def oOn (R : Nat → Int32) (p : Int32) : OP := if ¬ in99 p then .inl 0 else .inr (onSet R p (NN (R 2)), R)
def oCough (R : Nat → Int32) (s : Int32) : OP := if ¬ isSt R s then .inl 0 else if se R (NN s) 2 < 0 then .inl 4 else .inr (se (risesP R s) (NN s) 2, risesP R s)
/-- seats held by another one -/
def chg (R S : Nat → Int32) : Nat → Int32
  | 0 => 0
  | n + 1 => chg R S n + (if se R n 2 = se S n 2 then 0 else 1)
def oSeconds (R : Nat → Int32) (n : Int32) : OP := if ¬ (1 ≤ n ∧ n ≤ 200) then .inl 0 else if late R n then .inl 4 else .inr (chg R (goP (NN n) R) (NN (R 1)), goP (NN n) R)
def sitN (R : Nat → Int32) : Nat → Int32
  | 0 => 0
  | n + 1 => sitN R n + (if on R n 5 < 0 then 0 else 1)
def emptyN (R : Nat → Int32) : Nat → Int32
  | 0 => 0
  | n + 1 => emptyN R n + (if se R n 2 < 0 then 1 else 0)
def coinN (R : Nat → Int32) : Nat → Int32
  | 0 => 0
  | n + 1 => coinN R n + on R n 4
def oNow (R : Nat → Int32) (k : Int32) : OP := if k = 0 then .inr (R 0, R) else if k = 1 then .inr (sitN R (NN (R 2)), R) else if k = 2 then .inr (emptyN R (NN (R 1)), R) else if k = 3 then .inr (coinN R (NN (R 2)), R) else .inl 0
abbrev long200 (n : Int32) : Prop := 0 ≤ n ∧ n ≤ 200
def oHolder (R : Nat → Int32) (s n : Int32) : OP := if ¬ (isSt R s ∧ long200 n) then .inl 0 else if late R n then .inl 4 else .inr (se (goP (NN n) R) (NN s) 2, R)
def oWhere (R : Nat → Int32) (c n : Int32) : OP := if ¬ (isOn R c ∧ long200 n) then .inl 0 else if late R n then .inl 4 else .inr (on (goP (NN n) R) (NN c) 1, R)
def oCoins (R : Nat → Int32) (c n : Int32) : OP := if ¬ (isOn R c ∧ long200 n) then .inl 0 else if late R n then .inl 4 else .inr (on (goP (NN n) R) (NN c) 4, R)
/-- from n seconds on, with f more to look at: when one holds a seat -/
def getN (R : Nat → Int32) (s : Nat) (c : Int32) : Nat → Nat → Nat
  | n, 0 => n
  | n, f + 1 => if se (goP n R) s 2 = c then n else getN R s c (n + 1) f
def oGets (R : Nat → Int32) (c s : Int32) : OP := if ¬ (isOn R c ∧ isSt R s) then .inl 0 else if late R 200 then .inl 4 else if 200 < getN R (NN s) c 0 201 then .inl 3 else .inr (nI (getN R (NN s) c 0 201), R)
def richN (R : Nat → Int32) : Nat → Int32
  | 0 => -1
  | n + 1 => if richN R n < 0 ∨ on R (NN (richN R n)) 4 < on R n 4 then nI n else richN R n
def oRich (R : Nat → Int32) (n : Int32) : OP := if ¬ long200 n then .inl 0 else if late R n then .inl 4 else if richN (goP (NN n) R) (NN (R 2)) < 0 then .inl 3 else .inr (richN (goP (NN n) R) (NN (R 2)), R)
def spotN (R : Nat → Int32) (c s : Nat) : Nat → Int32
  | 0 => 0
  | n + 1 => spotN R c s n + (if would R c (nI n) s then 1 else 0)
def oSpots (R : Nat → Int32) (c s : Int32) : OP := if ¬ (isOn R c ∧ isSt R s) then .inl 0 else if ¬ wtg R (NN c) then .inl 4 else .inr (spotN R (NN c) (NN s) 100, R)
def nearN (R : Nat → Int32) (c s : Nat) : Nat → Int32
  | 0 => -1
  | n + 1 => if would R c (nI n) s ∧ (nearN R c s n < 0 ∨ stepsP (on R c 1) (nI n) < stepsP (on R c 1) (nearN R c s n)) then nI n else nearN R c s n
def oNearest (R : Nat → Int32) (c s : Int32) : OP := if ¬ (isOn R c ∧ isSt R s) then .inl 0 else if ¬ wtg R (NN c) then .inl 4 else if nearN R (NN c) (NN s) 100 < 0 then .inl 3 else .inr (nearN R (NN c) (NN s) 100, R)
def oPlace (R : Nat → Int32) (c p : Int32) : OP := if ¬ (isOn R c ∧ in99 p) then .inl 0 else if wtg R (NN c) then .inr (wo R (NN c) p (NN (R 1)), R) else .inl 4
/-- best, most -/
def bestN (R : Nat → Int32) (c : Nat) : Nat → Int32 × Int32
  | 0 => (0, -1)
  | n + 1 => if (bestN R c n).2 < wo R c (nI n) (NN (R 1)) then (nI n, wo R c (nI n) (NN (R 1))) else bestN R c n
def oBest (R : Nat → Int32) (c : Int32) : OP := if ¬ isOn R c then .inl 0 else if ¬ wtg R (NN c) then .inl 4 else .inr ((bestN R (NN c) 100).1, R)
def cfN (R : Nat → Int32) (c : Int32) : Nat → Int32
  | 0 => -1
  | n + 1 => if ¬ se R n 2 < 0 ∧ se (risesP R (nI n)) n 2 = c ∧ (cfN R c n < 0 ∨ se R (NN (cfN R c n)) 1 < se R n 1) then nI n else cfN R c n
def oCoughFor (R : Nat → Int32) (c : Int32) : OP := if ¬ isOn R c then .inl 0 else if ¬ on R (NN c) 5 < 0 then .inl 4 else if cfN R c (NN (R 1)) < 0 then .inl 3 else .inr (cfN R c (NN (R 1)), R)
/-- two coughs, one behind the other, by which one holds a seat -/
abbrev tw2 (R : Nat → Int32) (c : Int32) (s a b : Nat) : Prop := ¬ se R a 2 < 0 ∧ ¬ se (risesP R (nI a)) b 2 < 0 ∧ se (risesP (risesP R (nI a)) (nI b)) s 2 = c
/-- the first code from n on, f more to look at -/
def twN (R : Nat → Int32) (c : Int32) (s : Nat) : Nat → Nat → Option Nat
  | _, 0 => none
  | n, f + 1 => if tw2 R c s (n / NN (R 1)) (n % NN (R 1)) then some n else twN R c s (n + 1) f
def oTwice (R : Nat → Int32) (c s : Int32) : OP := if ¬ (isOn R c ∧ isSt R s) then .inl 0 else match twN R c (NN s) 0 (NN (R 1) * NN (R 1)) with
  | none => .inl 3
  | some n => .inr (10 * nI (n / NN (R 1)) + nI (n % NN (R 1)), R)
def coinsW (R : Nat → Int32) (c k : Nat) (v : Int32) (n : Nat) : Int32 := on (goP n (ost R c k v)) c 4
/-- the best will, the most coins -/
def willN (R : Nat → Int32) (c m : Nat) : Nat → Int32 × Int32
  | 0 => (-1, coinsW R c 3 (-1) m)
  | n + 1 => if (willN R c m n).2 < coinsW R c 3 (nI n) m then (nI n, coinsW R c 3 (nI n) m) else willN R c m n
def oWill (R : Nat → Int32) (c n : Int32) : OP := if ¬ (isOn R c ∧ 1 ≤ n ∧ n ≤ 100) then .inl 0 else if late R n then .inl 4 else .inr ((willN R (NN c) (NN n) (NN (R 1))).1, R)
def kindN (R : Nat → Int32) (c m : Nat) : Nat → Int32 × Int32
  | 0 => (0, -1)
  | n + 1 => if (kindN R c m n).2 < coinsW R c 0 (nI n) m then (nI n, coinsW R c 0 (nI n) m) else kindN R c m n
def oKind (R : Nat → Int32) (c n : Int32) : OP := if ¬ (isOn R c ∧ 1 ≤ n ∧ n ≤ 100) then .inl 0 else if late R n then .inl 4 else .inr ((kindN R (NN c) (NN n) 6).1, R)
/-- how many seconds a seat is held by the same one, f at most; and the hall then -/
def grdN (s : Nat) (own : Int32) : Nat → (Nat → Int32) → Nat
  | 0, _ => 0
  | f + 1, R => if se (secP R) s 2 = own then grdN s own f (secP R) + 1 else 0
def grdR (s : Nat) (own : Int32) : Nat → (Nat → Int32) → (Nat → Int32)
  | 0, R => R
  | f + 1, R => if se (secP R) s 2 = own then grdR s own f (secP R) else secP R
abbrev grdOk (R : Nat → Int32) (c s : Int32) : Prop := on R (NN c) 0 = 2 ∧ on R (NN c) 5 < 0 ∧ ¬ se R (NN s) 2 < 0 ∧ ¬ late R 100
def grdB (R : Nat → Int32) (c s : Nat) : Nat → Int32 × Int32
  | 0 => (on R c 1, nI (grdN s (se R s 2) 100 (ost R c 1 (on R c 1))))
  | n + 1 => if (grdB R c s n).2 < nI (grdN s (se R s 2) 100 (ost R c 1 (nI n))) then (nI n, nI (grdN s (se R s 2) 100 (ost R c 1 (nI n)))) else grdB R c s n
def oGuard (R : Nat → Int32) (c s : Int32) : OP := if ¬ (isOn R c ∧ isSt R s) then .inl 0 else if ¬ grdOk R c s then .inl 4 else .inr ((grdB R (NN c) (NN s) 100).1, R)
