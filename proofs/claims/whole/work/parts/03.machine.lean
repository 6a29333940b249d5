/-! ===== the small machine: numbers at flat places, a fixed layout of cells, the locals as a list ===== -/
abbrev MM : Type := (Nat → Int32) × (Nat → Int64)
abbrev SD : Type := Nat ⊕ (Nat ⊕ Nat)
abbrev CD : Type := (Nat × Nat × Nat × List SD) ⊕ (Nat × Nat × (Nat ⊕ (Nat ⊕ (Nat × Nat))))
abbrev LL : Type := List (Option Value)
/-- lo, the classes' numbers, the arrays' classes, the static arrays' places and contents, the texts' places -/
abbrev WW : Type := Nat × va_G × (Nat → ClassId) × (Nat → Nat) × (Nat → Nat → Int32) × (Nat → Nat) × (Nat → Nat)
def wl (w : WW) : Nat := w.1
def wD (w : WW) : va_G := w.2.1
def wC (w : WW) : Nat → ClassId := w.2.2.1
def wA (w : WW) : Nat → Nat := w.2.2.2.1
def wV (w : WW) : Nat → Nat → Int32 := w.2.2.2.2.1
def wK (w : WW) : Nat → Nat := w.2.2.2.2.2.1
def wKV (w : WW) : Nat → Nat := w.2.2.2.2.2.2
def tysO (w : WW) : List (ClassId × FieldType) := [(wC w 0, .int), (wC w 1, .long), (wC w 2, .object "ChairDance$Seat"), (wC w 3, .object "ChairDance$One"), (wC w 4, .object "ChairDance$Sheet")]
-- the layout
def lyHall (q : Nat) : List CD :=
  [.inl (0, 91 * q, 3, [.inr (.inr (1 + 19 * q + 1)), .inr (.inr (1 + 19 * q + 8)), .inl 1, .inl 2, .inl 0]), .inr (2, 6, .inr (.inr (1 + 19 * q + 2, 1)))]
  ++ (List.range 6).map (fun s => (.inl (2, 91 * q + 3 + 3 * s, 3, [.inl 0, .inl 1, .inl 2]) : CD))
  ++ [.inr (3, 10, .inr (.inr (1 + 19 * q + 9, 1)))]
  ++ (List.range 10).map (fun c => (.inl (1, 91 * q + 21 + 7 * c, 7, [.inl 0, .inl 1, .inl 2, .inl 3, .inl 4, .inl 5, .inl 6]) : CD))
def lyX : List CD :=
  [.inl (5, 280, 1, [.inr (.inr 1), .inr (.inr 20), .inr (.inr 39), .inl 0, .inr (.inr 58), .inr (.inr 60), .inr (.inr 69)])]
  ++ lyHall 0 ++ lyHall 1 ++ lyHall 2
  ++ [.inl (4, 281, 5, [.inr (.inr 59), .inl 0, .inl 1, .inl 2, .inl 3, .inl 4]), .inr (0, 120, .inl 300), .inr (4, 4, .inr (.inr (61, 2)))]
  ++ (List.range 4).flatMap (fun s => ([.inl (3, 430 + 2 * s, 2, [.inr (.inr (62 + 2 * s)), .inl 0, .inl 1]), .inr (1, 40, .inr (.inl (40 * s)))] : List CD))
  ++ [.inr (0, 7, .inl 440)]
def lyM : List CD :=
  [.inl (6, 1000, 8, [.inr (.inr 71), .inl 0, .inr (.inr 72), .inr (.inr 73), .inr (.inr 74), .inl 1, .inl 2, .inl 3, .inl 4, .inr (.inl 450), .inl 5, .inl 6, .inr (.inr 75), .inr (.inr 76), .inr (.inr 77), .inr (.inr 78), .inr (.inr 79), .inr (.inr 80), .inl 7]),
   .inr (0, 182, .inl 1100), .inr (0, 7, .inl 1300), .inr (0, 6, .inl 1310), .inr (0, 120, .inl 1320), .inr (0, 4, .inl 1440), .inr (0, 4, .inl 1444), .inr (1, 160, .inr (.inl 200)), .inr (1, 40, .inr (.inl 400)), .inr (0, 91, .inl 1500), .inr (0, 91, .inl 1600)]
def lay : List CD := lyX ++ lyM
-- where a cell's numbers lie
def rgI : CD → Nat × Nat
  | .inl (_, b, n, _) => (b, n)
  | .inr (_, n, .inl b) => (b, n)
  | .inr (_, _, .inr _) => (0, 0)
def rgJ : CD → Nat × Nat
  | .inl (6, _, _, _) => (450, 1)
  | .inr (_, n, .inr (.inl b)) => (b, n)
  | _ => (0, 0)
def sdOk (n : Nat) : List SD → Bool
  | [] => true
  | .inl r :: t => Nat.blt r n && !(t.any fun d => match d with | .inl r' => Nat.beq r r' | _ => false) && sdOk n t
  | .inr (.inl i) :: t => Nat.beq i 450 && !(t.any fun d => match d with | .inr (.inl _) => true | _ => false) && sdOk n t
  | .inr (.inr _) :: t => sdOk n t
def cdOk : CD → Bool
  | .inl (ci, _, n, fs) => sdOk n fs && (Nat.beq ci 6 || !(fs.any fun d => match d with | .inr (.inl _) => true | _ => false))
  | .inr _ => true
def apR (p q : Nat × Nat) : Bool := Nat.ble (p.1 + p.2) q.1 || Nat.ble (q.1 + q.2) p.1 || Nat.beq p.2 0 || Nat.beq q.2 0
def apL : List (Nat × Nat) → Bool
  | [] => true
  | p :: t => t.all (fun q => apR p q) && apL t
theorem lay_len : lay.length = 81 := by decide +kernel
theorem lay_cd : lay.all cdOk = true := by decide +kernel
theorem lay_apI : apL (lay.map rgI) = true := by decide +kernel
theorem lay_apJ : apL (lay.map rgJ) = true := by decide +kernel
theorem apR_symm {p q : Nat × Nat} (h : apR p q = true) : apR q p = true := by
  simp only [apR, Bool.or_eq_true, Nat.ble_eq, Nat.beq_eq] at h ⊢
  omega
theorem apL_get : ∀ (l : List (Nat × Nat)), apL l = true → ∀ (i j : Nat) (p q : Nat × Nat), l[i]? = some p → l[j]? = some q → i ≠ j → apR p q = true
  | [], _, i, j, p, q, h, _, _ => by simp at h
  | a :: t, h, i, j, p, q, hi, hj, hne => by
    simp only [apL, Bool.and_eq_true, List.all_eq_true] at h
    cases i with
    | zero =>
      cases j with
      | zero => exact absurd rfl hne
      | succ j =>
        simp only [List.getElem?_cons_zero, Option.some.injEq] at hi
        rw [List.getElem?_cons_succ] at hj
        subst hi
        exact h.1 q (List.mem_of_getElem? hj)
    | succ i =>
      rw [List.getElem?_cons_succ] at hi
      cases j with
      | zero =>
        simp only [List.getElem?_cons_zero, Option.some.injEq] at hj
        subst hj
        exact apR_symm (h.1 p (List.mem_of_getElem? hi))
      | succ j =>
        rw [List.getElem?_cons_succ] at hj
        exact apL_get t h.2 i j p q hi hj (fun e => hne (by rw [e]))
-- what a cell holds
def sv (w : WW) (u : MM) : SD → Nat → Value
  | .inl r, b => .int (u.1 (b + r))
  | .inr (.inl i), _ => .long (u.2 i)
  | .inr (.inr t), _ => .ref (wl w + t)
def ce (w : WW) (u : MM) : CD → va_E
  | .inl (ci, b, _, fs) => .inr (ci, fs.map (fun d => sv w u d b))
  | .inr (t, n, .inl b) => .inl (wC w t, n, .inl (fun j => if j < n then u.1 (b + j) else 0))
  | .inr (t, n, .inr (.inl b)) => .inl (wC w t, n, .inr (.inl (fun j => if j < n then u.2 (b + j) else 0)))
  | .inr (t, n, .inr (.inr (a, d))) => .inl (wC w t, n, .inr (.inr (.inr (.inr (fun j => some (wl w + a + d * j))))))
def wsO (w : WW) (u : MM) : va_W := lay.mapIdx (fun k cd => (wl w + k, ce w u cd))
theorem wsO_get {w : WW} {u : MM} {k : Nat} {cd : CD} (h : lay[k]? = some cd) : (wsO w u)[k]? = some (wl w + k, ce w u cd) := by
  simp [wsO, List.getElem?_mapIdx, h]
theorem wsO_inv {w : WW} {u : MM} {k : Nat} {q : Nat × va_E} (h : (wsO w u)[k]? = some q) : ∃ cd, lay[k]? = some cd ∧ q = (wl w + k, ce w u cd) := by
  simp only [wsO, List.getElem?_mapIdx, Option.map_eq_some_iff] at h
  obtain ⟨cd, h1, h2⟩ := h
  exact ⟨cd, h1, h2.symm⟩
theorem wsO_D (w : WW) (u : MM) : va_D (fun q => wl w ≤ q) (wsO w u) := by
  refine ⟨fun i j p q hi hj he => ?_, fun k q hk => ?_⟩
  · obtain ⟨_, -, rfl⟩ := wsO_inv hi
    obtain ⟨_, -, rfl⟩ := wsO_inv hj
    simp only at he
    omega
  · obtain ⟨_, -, rfl⟩ := wsO_inv hk
    exact Nat.le_add_right _ _
def uI (u : MM) (i : Nat) (v : Int32) : MM := (upd u.1 i v, u.2)
def uJ (u : MM) (i : Nat) (v : Int64) : MM := (u.1, vp_updL u.2 i v)
theorem rg_ap {k k' : Nat} {cd cd' : CD} (h : lay[k]? = some cd) (h' : lay[k']? = some cd') (hne : k ≠ k') : apR (rgI cd) (rgI cd') = true ∧ apR (rgJ cd) (rgJ cd') = true :=
  ⟨apL_get _ lay_apI k k' _ _ (by simp [h]) (by simp [h']) hne, apL_get _ lay_apJ k k' _ _ (by simp [h]) (by simp [h']) hne⟩
theorem sd_lt : ∀ {fs : List SD} {n j r : Nat}, sdOk n fs = true → fs[j]? = some (.inl r) → r < n
  | [], _, _, _, _, h => by simp at h
  | d :: t, n, j, r, h, hj => by
    cases j with
    | zero =>
      simp only [List.getElem?_cons_zero, Option.some.injEq] at hj
      subst hj
      simp only [sdOk, Bool.and_eq_true] at h
      exact Nat.lt_of_lt_of_le (Nat.lt_succ_self r) (by simpa [Nat.blt] using h.1.1)
    | succ j =>
      rw [List.getElem?_cons_succ] at hj
      have ht : sdOk n t = true := by
        rcases d with r' | i | t'
        · simp only [sdOk, Bool.and_eq_true] at h; exact h.2
        · simp only [sdOk, Bool.and_eq_true] at h; exact h.2
        · exact h
      exact sd_lt ht hj
theorem sd_inj : ∀ {fs : List SD} {n j j' r : Nat}, sdOk n fs = true → fs[j]? = some (.inl r) → fs[j']? = some (.inl r) → j = j'
  | [], _, _, _, _, _, h, _ => by simp at h
  | d :: t, n, j, j', r, h, hj, hj' => by
    have ht : sdOk n t = true := by
      rcases d with r' | i | t'
      · simp only [sdOk, Bool.and_eq_true] at h; exact h.2
      · simp only [sdOk, Bool.and_eq_true] at h; exact h.2
      · exact h
    have key : ∀ {k : Nat}, d = .inl r → t[k]? = some (.inl r) → False := by
      intro k hd hk
      subst hd
      simp only [sdOk, Bool.and_eq_true, Bool.not_eq_true'] at h
      have h1 := h.1.2
      rw [List.any_eq_false] at h1
      exact h1 _ (List.mem_of_getElem? hk) (by simp)
    cases j with
    | zero =>
      simp only [List.getElem?_cons_zero, Option.some.injEq] at hj
      cases j' with
      | zero => rfl
      | succ j' => rw [List.getElem?_cons_succ] at hj'; exact (key hj hj').elim
    | succ j =>
      rw [List.getElem?_cons_succ] at hj
      cases j' with
      | zero =>
        simp only [List.getElem?_cons_zero, Option.some.injEq] at hj'
        exact (key hj' hj).elim
      | succ j' =>
        rw [List.getElem?_cons_succ] at hj'
        rw [sd_inj ht hj hj']
theorem sd_long : ∀ {fs : List SD} {n j i : Nat}, sdOk n fs = true → fs[j]? = some (.inr (.inl i)) → i = 450
  | [], _, _, _, _, h => by simp at h
  | d :: t, n, j, i, h, hj => by
    cases j with
    | zero =>
      simp only [List.getElem?_cons_zero, Option.some.injEq] at hj
      subst hj
      simp only [sdOk, Bool.and_eq_true, Nat.beq_eq] at h
      exact h.1.1
    | succ j =>
      rw [List.getElem?_cons_succ] at hj
      have ht : sdOk n t = true := by
        rcases d with r' | i | t'
        · simp only [sdOk, Bool.and_eq_true] at h; exact h.2
        · simp only [sdOk, Bool.and_eq_true] at h; exact h.2
        · exact h
      exact sd_long ht hj
theorem sd_long1 : ∀ {fs : List SD} {n j j' i i' : Nat}, sdOk n fs = true → fs[j]? = some (.inr (.inl i)) → fs[j']? = some (.inr (.inl i')) → j = j'
  | [], _, _, _, _, _, _, h, _ => by simp at h
  | d :: t, n, j, j', i, i', h, hj, hj' => by
    have ht : sdOk n t = true := by
      rcases d with r' | i | t'
      · simp only [sdOk, Bool.and_eq_true] at h; exact h.2
      · simp only [sdOk, Bool.and_eq_true] at h; exact h.2
      · exact h
    have key : ∀ {k a b : Nat}, d = .inr (.inl a) → t[k]? = some (.inr (.inl b)) → False := by
      intro k a b hd hk
      subst hd
      simp only [sdOk, Bool.and_eq_true, Bool.not_eq_true'] at h
      have h1 := h.1.2
      rw [List.any_eq_false] at h1
      exact h1 _ (List.mem_of_getElem? hk) (by simp)
    cases j with
    | zero =>
      simp only [List.getElem?_cons_zero, Option.some.injEq] at hj
      cases j' with
      | zero => rfl
      | succ j' => rw [List.getElem?_cons_succ] at hj'; exact (key hj hj').elim
    | succ j =>
      rw [List.getElem?_cons_succ] at hj
      cases j' with
      | zero =>
        simp only [List.getElem?_cons_zero, Option.some.injEq] at hj'
        exact (key hj' hj).elim
      | succ j' =>
        rw [List.getElem?_cons_succ] at hj'
        rw [sd_long1 ht hj hj']
theorem cd_ok {k : Nat} {cd : CD} (h : lay[k]? = some cd) : cdOk cd = true := List.all_eq_true.mp lay_cd cd (List.mem_of_getElem? h)
theorem cd_sd {k ci b n : Nat} {fs : List SD} (h : lay[k]? = some (.inl (ci, b, n, fs))) : sdOk n fs = true := by
  have := cd_ok h
  simp only [cdOk, Bool.and_eq_true] at this
  exact this.1
theorem cd_six {k ci b n j i : Nat} {fs : List SD} (h : lay[k]? = some (.inl (ci, b, n, fs))) (hj : fs[j]? = some (.inr (.inl i))) : ci = 6 := by
  have := cd_ok h
  simp only [cdOk, Bool.and_eq_true, Bool.or_eq_true, Nat.beq_eq, Bool.not_eq_true'] at this
  rcases this.2 with h1 | h1
  · exact h1
  · rw [List.any_eq_false] at h1
    exact (h1 _ (List.mem_of_getElem? hj) (by simp)).elim
/-- a number outside a cell's own may change: the cell stays -/
theorem ce_uI {w : WW} {u : MM} {k : Nat} {cd : CD} (h : lay[k]? = some cd) {i : Nat} {v : Int32} (hi : i < (rgI cd).1 ∨ (rgI cd).1 + (rgI cd).2 ≤ i ∨ (rgI cd).2 = 0) : ce w (uI u i v) cd = ce w u cd := by
  rcases cd with ⟨ci, b, n, fs⟩ | ⟨t, n, b | b | ⟨a, d⟩⟩
  · simp only [rgI] at hi
    simp only [ce]
    congr 2
    apply List.map_congr_left
    intro d hd
    obtain ⟨j, hj⟩ := List.getElem?_of_mem hd
    rcases d with r | i' | t
    · have hr := sd_lt (cd_sd h) hj
      simp only [sv, uI, upd]
      rw [if_neg (by omega)]
    · rfl
    · rfl
  · simp only [rgI] at hi
    simp only [ce, uI, upd]
    congr 4
    funext j
    by_cases hj : j < n
    · rw [if_pos hj, if_pos hj, if_neg (by omega)]
    · rw [if_neg hj, if_neg hj]
  · rfl
  · rfl
theorem ce_uJ {w : WW} {u : MM} {k : Nat} {cd : CD} (h : lay[k]? = some cd) {i : Nat} {v : Int64} (hi : i < (rgJ cd).1 ∨ (rgJ cd).1 + (rgJ cd).2 ≤ i ∨ (rgJ cd).2 = 0) : ce w (uJ u i v) cd = ce w u cd := by
  rcases cd with ⟨ci, b, n, fs⟩ | ⟨t, n, b | b | ⟨a, d⟩⟩
  · simp only [ce]
    congr 2
    apply List.map_congr_left
    intro d hd
    obtain ⟨j, hj⟩ := List.getElem?_of_mem hd
    rcases d with r | i' | t
    · rfl
    · have e1 := sd_long (cd_sd h) hj
      have e2 := cd_six h hj
      subst e1 e2
      simp only [rgJ] at hi
      simp only [sv, uJ, vp_updL]
      rw [if_neg (by omega)]
    · rfl
  · rfl
  · simp only [rgJ] at hi
    simp only [ce, uJ, vp_updL]
    congr 5
    funext j
    by_cases hj : j < n
    · rw [if_pos hj, if_pos hj, if_neg (by omega)]
    · rw [if_neg hj, if_neg hj]
  · rfl
theorem wsO_set {w : WW} {u u' : MM} {k : Nat} {cd : CD} {e : va_E} (h : lay[k]? = some cd) (he : e = ce w u' cd) (ho : ∀ k' cd', k' ≠ k → lay[k']? = some cd' → ce w u' cd' = ce w u cd') : (wsO w u).set k (wl w + k, e) = wsO w u' := by
  have hl : k < (wsO w u).length := (List.getElem?_eq_some_iff.mp (wsO_get (w := w) (u := u) h)).1
  apply List.ext_getElem?
  intro j
  by_cases hj : j = k
  · subst hj
    rw [List.getElem?_set_self hl, wsO_get h, he]
  · rw [List.getElem?_set_ne (Ne.symm hj)]
    cases hc : lay[j]? with
    | none => simp [wsO, List.getElem?_mapIdx, hc]
    | some cd' => rw [wsO_get hc, wsO_get hc, ho j cd' hj hc]
theorem wsO_putI {w : WW} {u : MM} {k ci b n j r : Nat} {fs : List SD} {v : Int32} (h : lay[k]? = some (.inl (ci, b, n, fs))) (hj : fs[j]? = some (.inl r)) :
    (wsO w u).set k (wl w + k, .inr (ci, (fs.map (fun d => sv w u d b)).set j (.int v))) = wsO w (uI u (b + r) v) := by
  have hr := sd_lt (cd_sd h) hj
  refine wsO_set h ?_ (fun k' cd' hk hc => ce_uI hc ?_)
  · simp only [ce]
    congr 2
    apply List.ext_getElem?
    intro j'
    have hl : j < fs.length := (List.getElem?_eq_some_iff.mp hj).1
    by_cases e : j' = j
    · subst e
      rw [List.getElem?_set_self (by simpa using hl), List.getElem?_map, hj]
      simp [sv, uI, upd]
    · rw [List.getElem?_set_ne (Ne.symm e), List.getElem?_map, List.getElem?_map]
      cases hd : fs[j']? with
      | none => rfl
      | some d =>
        rcases d with r' | i | t
        · have : r' ≠ r := fun q => e (sd_inj (cd_sd h) (q ▸ hd) hj)
          simp only [Option.map_some, sv, uI, upd]
          rw [if_neg (by omega)]
        · rfl
        · rfl
  · have := (rg_ap h hc (Ne.symm hk)).1
    simp only [rgI, apR, Bool.or_eq_true, Nat.ble_eq, Nat.beq_eq] at this ⊢
    omega
theorem wsO_putJ {w : WW} {u : MM} {k ci b n j i : Nat} {fs : List SD} {v : Int64} (h : lay[k]? = some (.inl (ci, b, n, fs))) (hj : fs[j]? = some (.inr (.inl i))) :
    (wsO w u).set k (wl w + k, .inr (ci, (fs.map (fun d => sv w u d b)).set j (.long v))) = wsO w (uJ u i v) := by
  have e1 := sd_long (cd_sd h) hj
  have e2 := cd_six h hj
  subst e1 e2
  refine wsO_set h ?_ (fun k' cd' hk hc => ce_uJ hc ?_)
  · simp only [ce]
    congr 2
    apply List.ext_getElem?
    intro j'
    have hl : j < fs.length := (List.getElem?_eq_some_iff.mp hj).1
    by_cases e : j' = j
    · subst e
      rw [List.getElem?_set_self (by simpa using hl), List.getElem?_map, hj]
      simp [sv, uJ, vp_updL]
    · rw [List.getElem?_set_ne (Ne.symm e), List.getElem?_map, List.getElem?_map]
      cases hd : fs[j']? with
      | none => rfl
      | some d =>
        rcases d with r' | i | t
        · rfl
        · exact (e (sd_long1 (cd_sd h) hd hj)).elim
        · rfl
  · have := (rg_ap h hc (Ne.symm hk)).2
    simp only [rgJ, apR, Bool.or_eq_true, Nat.ble_eq, Nat.beq_eq] at this ⊢
    omega
theorem wsO_stI {w : WW} {u : MM} {k t n b j : Nat} {v : Int32} (h : lay[k]? = some (.inr (t, n, .inl b))) (hj : j < n) :
    (wsO w u).set k (wl w + k, .inl (wC w t, n, .inl (upd (fun j => if j < n then u.1 (b + j) else 0) j v))) = wsO w (uI u (b + j) v) := by
  refine wsO_set h ?_ (fun k' cd' hk hc => ce_uI hc ?_)
  · simp only [ce]
    congr 4
    funext j'
    simp only [uI, upd]
    by_cases e : j' = j
    · subst e
      rw [if_pos rfl, if_pos hj, if_pos rfl]
    · rw [if_neg e]
      by_cases q : j' < n
      · rw [if_pos q, if_pos q, if_neg (by omega)]
      · rw [if_neg q, if_neg q]
  · have := (rg_ap h hc (Ne.symm hk)).1
    simp only [rgI, apR, Bool.or_eq_true, Nat.ble_eq, Nat.beq_eq] at this ⊢
    omega
theorem wsO_stJ {w : WW} {u : MM} {k t n b j : Nat} {v : Int64} (h : lay[k]? = some (.inr (t, n, .inr (.inl b)))) (hj : j < n) :
    (wsO w u).set k (wl w + k, .inl (wC w t, n, .inr (.inl (vp_updL (fun j => if j < n then u.2 (b + j) else 0) j v)))) = wsO w (uJ u (b + j) v) := by
  refine wsO_set h ?_ (fun k' cd' hk hc => ce_uJ hc ?_)
  · simp only [ce]
    congr 5
    funext j'
    simp only [uJ, vp_updL]
    by_cases e : j' = j
    · subst e
      rw [if_pos rfl, if_pos hj, if_pos rfl]
    · rw [if_neg e]
      by_cases q : j' < n
      · rw [if_pos q, if_pos q, if_neg (by omega)]
      · rw [if_neg q, if_neg q]
  · have := (rg_ap h hc (Ne.symm hk)).2
    simp only [rgJ, apR, Bool.or_eq_true, Nat.ble_eq, Nat.beq_eq] at this ⊢
    omega
