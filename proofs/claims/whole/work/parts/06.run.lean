/-! ===== a run of the small machine is a run of the machine ===== -/
theorem len1 {i : Instr} {n m : Nat} (h : lenOk i n = true) (e : lenOk i n = Nat.beq n m) : n = m := by
  rw [e] at h
  exact Nat.eq_of_beq_eq_true h
section STEP
variable {w : WW} {M : MI} {Q : Option Value → MM → Prop} {K : KT} {pc : Nat} {L : LL} {st : List Value} {u : MM}
theorem okI_spec {a ci j : Nat} (h : okI w a ci j) : ∃ k b n fs r, lay[k]? = some (.inl (ci, b, n, fs)) ∧ fs[j]? = some (.inl r) ∧ a = wl w + k ∧ ixI w a j = b + r ∧ ∀ u, (wsO w u)[k]? = some (a, .inr (ci, fs.map (fun d => sv w u d b))) := by
  obtain ⟨b, n, fs, r, h1, h2⟩ := h
  obtain ⟨k, h3, h4, -⟩ := ob_ws (u := ((fun _ => 0, fun _ => 0) : MM)) h1
  refine ⟨k, b, n, fs, r, h3, h2, h4, by simp [ixI, h1, h2], fun u => ?_⟩
  rw [wsO_get h3, h4]; rfl
theorem okJ_spec {a ci j : Nat} (h : okJ w a ci j) : ∃ k b n fs r, lay[k]? = some (.inl (ci, b, n, fs)) ∧ fs[j]? = some (.inr (.inl r)) ∧ a = wl w + k ∧ ixJ w a j = r ∧ ∀ u, (wsO w u)[k]? = some (a, .inr (ci, fs.map (fun d => sv w u d b))) := by
  obtain ⟨b, n, fs, r, h1, h2⟩ := h
  obtain ⟨k, h3, h4, -⟩ := ob_ws (u := ((fun _ => 0, fun _ => 0) : MM)) h1
  refine ⟨k, b, n, fs, r, h3, h2, h4, by simp [ixJ, h1, h2], fun u => ?_⟩
  rw [wsO_get h3, h4]; rfl
theorem okR_spec {a ci j : Nat} (h : okR w a ci j) : ∃ k b n fs r, lay[k]? = some (.inl (ci, b, n, fs)) ∧ fs[j]? = some (.inr (.inr r)) ∧ a = wl w + k ∧ rfF w a j = wl w + r ∧ ∀ u, (wsO w u)[k]? = some (a, .inr (ci, fs.map (fun d => sv w u d b))) := by
  obtain ⟨b, n, fs, r, h1, h2⟩ := h
  obtain ⟨k, h3, h4, -⟩ := ob_ws (u := ((fun _ => 0, fun _ => 0) : MM)) h1
  refine ⟨k, b, n, fs, r, h3, h2, h4, by simp [rfF, h1, h2], fun u => ?_⟩
  rw [wsO_get h3, h4]; rfl
theorem okAS_spec {a : Nat} {i : Int32} (h : okAS w a i) : ∃ k n b, lay[k]? = some (.inr (0, n, .inl b)) ∧ vp_in i n ∧ a = wl w + k ∧ ixA w a i = b + i.toNatClampNeg ∧ (∀ u : MM, rdA w u a i = u.1 (b + i.toNatClampNeg)) ∧ ∀ u : MM, (wsO w u)[k]? = some (a, .inl (wC w 0, n, .inl (fun j => if j < n then u.1 (b + j) else 0))) := by
  obtain ⟨n, b, h1, h2⟩ := h
  obtain ⟨k, h3, h4, -⟩ := ob_ws (u := ((fun _ => 0, fun _ => 0) : MM)) h1
  refine ⟨k, n, b, h3, h2, h4, by simp [ixA, h1], fun u => by simp [rdA, h1], fun u => ?_⟩
  rw [wsO_get h3, h4]; rfl
theorem okAJ_spec {a : Nat} {i : Int32} (h : okAJ w a i) : ∃ k n b, lay[k]? = some (.inr (1, n, .inr (.inl b))) ∧ vp_in i n ∧ a = wl w + k ∧ ixAJ w a i = b + i.toNatClampNeg ∧ ∀ u : MM, (wsO w u)[k]? = some (a, .inl (wC w 1, n, .inr (.inl (fun j => if j < n then u.2 (b + j) else 0)))) := by
  obtain ⟨n, b, h1, h2⟩ := h
  obtain ⟨k, h3, h4, -⟩ := ob_ws (u := ((fun _ => 0, fun _ => 0) : MM)) h1
  refine ⟨k, n, b, h3, h2, h4, by simp [ixAJ, h1], fun u => ?_⟩
  rw [wsO_get h3, h4]; rfl
theorem okAR_spec {a : Nat} {i : Int32} (h : okAR w a i) : ∃ (k t n x d : Nat), 2 ≤ t ∧ t < 5 ∧ vp_in i n ∧ rfA w a i = wl w + x + d * i.toNatClampNeg ∧ ∀ u : MM, (wsO w u)[k]? = some (a, .inl (wC w t, n, .inr (.inr (.inr (.inr (fun j => some (wl w + x + d * j))))))) := by
  obtain ⟨t, n, x, d, h1, h2, h5, h6⟩ := h
  obtain ⟨k, h3, h4, -⟩ := ob_ws (u := ((fun _ => 0, fun _ => 0) : MM)) h1
  refine ⟨k, t, n, x, d, h5, h6, h2, by simp [rfA, h1], fun u => ?_⟩
  rw [wsO_get h3, h4]; rfl
theorem in_lt {i : Int32} {n : Nat} (h : vp_in i n) : i.toNatClampNeg < n := Nat.not_le.mp fun q => h (Or.inr q)
theorem fOk_spec {own : String} {n ci j kd : Nat} (h : fOk own n ci j kd = true) : ci < 7 ∧ j < (cQ ci).2.2 ∧ Cond.fieldLink own n ((cQ ci).2.1 j).1 ((cQ ci).2.1 j).2.1 ((cQ ci).2.1 j).2.2.1 ∈ Gt ∧ (kd = 0 → cTy ci j = .int ∧ ((cQ ci).2.1 j).2.2.2 = false) ∧ (kd = 1 → cTy ci j = .long ∧ ((cQ ci).2.1 j).2.2.2 = false) ∧ (kd = 3 → cTy ci j = .boolean ∧ ((cQ ci).2.1 j).2.2.2 = false) := by
  simp only [fOk, Bool.and_eq_true, decide_eq_true_eq] at h
  obtain ⟨⟨⟨h1, h2⟩, h3⟩, h4⟩ := h
  refine ⟨by simp [Nat.blt] at h1; omega, by simp [Nat.blt] at h2; omega, h3, ?_, ?_, ?_⟩
  · rintro rfl; simpa using h4
  · rintro rfl; simpa using h4
  · rintro rfl; simpa using h4
theorem st_get {n : Nat} (hF : ∀ n ci j kd, K.1 n = some (ci, j, kd) → fOk M.2.2.2.1 n ci j kd = true) (hd : decode M.1 pc = .ok (.getfield n, 3)) (h : sGet w K n pc L st u (GG w M Q)) : GG w M Q pc L st u := by
  intro p l e s m args below meth c C H locs ls hP hS hl hL
  have C0 := C
  obtain ⟨hx, hb, hml, hown, hts, hr, hlk, hK, hRO⟩ := C
  unfold sGet at h
  split at h
  · rename_i ci j a r e1
    obtain ⟨f1, f2, f3, -⟩ := fOk_spec (hF _ _ _ _ e1)
    obtain ⟨c1, c2, -, -⟩ := cl_ok f1
    obtain ⟨h1, h2⟩ := h
    obtain ⟨k, b, n', fs, r', -, g2, g3, g4, g5⟩ := okI_spec h1
    exact va_get (D := wD w) hx hb hts c2 hown hK hP k (g5 u) c1 j f2 (hts _ f3) (fun _ z => z) (v := .int (u.1 (ixI w a j))) (by rw [List.getElem?_map, g2, g4]; rfl) hd (h2 p l e s m args below meth c C0 H locs ls hP hS hl hL)
  · rename_i ci j a r e1
    obtain ⟨f1, f2, f3, -⟩ := fOk_spec (hF _ _ _ _ e1)
    obtain ⟨c1, c2, -, -⟩ := cl_ok f1
    obtain ⟨h1, h2⟩ := h
    obtain ⟨k, b, n', fs, r', -, g2, g3, g4, g5⟩ := okJ_spec h1
    exact va_get (D := wD w) hx hb hts c2 hown hK hP k (g5 u) c1 j f2 (hts _ f3) (fun _ z => z) (v := .long (u.2 (ixJ w a j))) (by rw [List.getElem?_map, g2, g4]; rfl) hd (h2 p l e s m args below meth c C0 H locs ls hP hS hl hL)
  · rename_i ci j a r e1
    obtain ⟨f1, f2, f3, -⟩ := fOk_spec (hF _ _ _ _ e1)
    obtain ⟨c1, c2, -, -⟩ := cl_ok f1
    obtain ⟨h1, h2⟩ := h
    obtain ⟨k, b, n', fs, r', -, g2, g3, g4, g5⟩ := okR_spec h1
    exact va_get (D := wD w) hx hb hts c2 hown hK hP k (g5 u) c1 j f2 (hts _ f3) (fun _ z => z) (v := .ref (rfF w a j)) (by rw [List.getElem?_map, g2, g4]; rfl) hd (h2 p l e s m args below meth c C0 H locs ls hP hS hl hL)
  · rename_i ci j a r e1
    obtain ⟨f1, f2, f3, -⟩ := fOk_spec (hF _ _ _ _ e1)
    obtain ⟨c1, c2, -, -⟩ := cl_ok f1
    obtain ⟨h1, h2⟩ := h
    obtain ⟨k, b, n', fs, r', -, g2, g3, g4, g5⟩ := okI_spec h1
    exact va_get (D := wD w) hx hb hts c2 hown hK hP k (g5 u) c1 j f2 (hts _ f3) (fun _ z => z) (v := .int (u.1 (ixI w a j))) (by rw [List.getElem?_map, g2, g4]; rfl) hd (h2 p l e s m args below meth c C0 H locs ls hP hS hl hL)
  · exact h.elim
theorem st_put {n : Nat} (hF : ∀ n ci j kd, K.1 n = some (ci, j, kd) → fOk M.2.2.2.1 n ci j kd = true) (hd : decode M.1 pc = .ok (.putfield n, 3)) (h : sPut w K n pc L st u (GG w M Q)) : GG w M Q pc L st u := by
  intro p l e s m args below meth c C H locs ls hP hS hl hL
  have C0 := C
  obtain ⟨hx, hb, hml, hown, hts, hr, hlk, hK, hRO⟩ := C
  unfold sPut at h
  split at h
  · rename_i ci j v a r e1
    obtain ⟨f1, f2, f3, f4, -, -⟩ := fOk_spec (hF _ _ _ _ e1)
    obtain ⟨f4, f5⟩ := f4 rfl
    obtain ⟨c1, c2, c3, c4⟩ := cl_ok f1
    obtain ⟨h1, h2⟩ := h
    obtain ⟨k, b, n', fs, r', g1, g2, g3, g4, g5⟩ := okI_spec h1
    refine va_put (D := wD w) (ty := .int) hx hb hts c2 (cTy ci) c3 c4 hown hK hP (wsO_D w u) hS k (g5 u) c1 j f2 (hts _ f3) (fun _ z => z) f5 (by rw [c3 j f2, f4]) rfl rfl (by simpa using (List.getElem?_eq_some_iff.mp g2).1) hd (fun H1 locs1 hP1 _ hS1 => ?_)
    rw [g3, wsO_putI g1 g2, ← g4] at hP1
    exact h2 p l e s m args below meth c C0 H1 locs1 ls hP1 hS1 hl hL
  · rename_i ci j v a r e1
    obtain ⟨f1, f2, f3, -, f4, -⟩ := fOk_spec (hF _ _ _ _ e1)
    obtain ⟨f4, f5⟩ := f4 rfl
    obtain ⟨c1, c2, c3, c4⟩ := cl_ok f1
    obtain ⟨h1, h2⟩ := h
    obtain ⟨k, b, n', fs, r', g1, g2, g3, g4, g5⟩ := okJ_spec h1
    refine va_put (D := wD w) (ty := .long) hx hb hts c2 (cTy ci) c3 c4 hown hK hP (wsO_D w u) hS k (g5 u) c1 j f2 (hts _ f3) (fun _ z => z) f5 (by rw [c3 j f2, f4]) rfl rfl (by simpa using (List.getElem?_eq_some_iff.mp g2).1) hd (fun H1 locs1 hP1 _ hS1 => ?_)
    rw [g3, wsO_putJ g1 g2, ← g4] at hP1
    exact h2 p l e s m args below meth c C0 H1 locs1 ls hP1 hS1 hl hL
  · rename_i ci j v a r e1
    obtain ⟨f1, f2, f3, -, -, f4⟩ := fOk_spec (hF _ _ _ _ e1)
    obtain ⟨f4, f5⟩ := f4 rfl
    obtain ⟨c1, c2, c3, c4⟩ := cl_ok f1
    obtain ⟨⟨h1, h0⟩, h2⟩ := h
    obtain ⟨k, b, n', fs, r', g1, g2, g3, g4, g5⟩ := okI_spec h1
    refine va_put (D := wD w) (ty := .boolean) hx hb hts c2 (cTy ci) c3 c4 hown hK hP (wsO_D w u) hS k (g5 u) c1 j f2 (hts _ f3) (fun _ z => z) f5 (by rw [c3 j f2, f4]) (by rcases h0 with rfl | rfl <;> decide) (by rcases h0 with rfl | rfl <;> decide) (by simpa using (List.getElem?_eq_some_iff.mp g2).1) hd (fun H1 locs1 hP1 _ hS1 => ?_)
    rw [g3, wsO_putI g1 g2, ← g4] at hP1
    exact h2 p l e s m args below meth c C0 H1 locs1 ls hP1 hS1 hl hL
  · exact h.elim
theorem sh_iaload (h : stepP w M K Q .iaload [] pc L st u (GG w M Q)) : ∃ (i : Int32) (a : Nat) (r : List Value), st = .int i :: .ref a :: r := by
  rcases st with _ | ⟨x1, st⟩
  · exact False.elim h
  rcases st with _ | ⟨x2, st⟩
  · cases x1 <;> exact False.elim h
  cases x1 <;> first | exact False.elim h | (cases x2 <;> first | exact False.elim h | exact ⟨_, _, _, rfl⟩)
theorem st_iald (hd : decode M.1 pc = .ok (.iaload, 1)) (h : stepP w M K Q .iaload [] pc L st u (GG w M Q)) : GG w M Q pc L st u := by
  intro p l e s m args below meth c C H locs ls hP hS hl hL
  have C0 := C
  obtain ⟨hx, hb, hml, hown, hts, hr, hlk, hK, hRO⟩ := C
  obtain ⟨i, a, r, rfl⟩ := sh_iaload h
  · obtain ⟨h1 | ⟨t, t1, t2, t3, t4⟩, h2⟩ := h
    · obtain ⟨k, n, b, g1, g2, g3, g4, g5, g6⟩ := okAS_spec h1
      refine va_iald (D := wD w) hx hb hK hP k 0 (g6 u) rfl g2 hd ?_
      rw [if_pos (in_lt g2), ← g5 u]
      exact h2 p l e s m args below meth c C0 H locs ls hP hS hl hL
    · obtain ⟨-, a2, -, -⟩ := hRO.1 t t1
      rw [t2]
      refine va_ti hx hb a2 hS t4 (v := .int (rdA w u a i)) (by rw [rdA, t3, t2]) hd ?_
      exact h2 p l e s m args below meth c C0 H locs ls hP hS hl hL
theorem sh_iastore (h : stepP w M K Q .iastore [] pc L st u (GG w M Q)) : ∃ (v : Int32) (i : Int32) (a : Nat) (r : List Value), st = .int v :: .int i :: .ref a :: r := by
  rcases st with _ | ⟨x1, st⟩
  · exact False.elim h
  rcases st with _ | ⟨x2, st⟩
  · cases x1 <;> exact False.elim h
  rcases st with _ | ⟨x3, st⟩
  · cases x1 <;> first | exact False.elim h | (cases x2 <;> exact False.elim h)
  cases x1 <;> first | exact False.elim h | (cases x2 <;> first | exact False.elim h | (cases x3 <;> first | exact False.elim h | exact ⟨_, _, _, _, rfl⟩))
theorem st_iast (hd : decode M.1 pc = .ok (.iastore, 1)) (h : stepP w M K Q .iastore [] pc L st u (GG w M Q)) : GG w M Q pc L st u := by
  intro p l e s m args below meth c C H locs ls hP hS hl hL
  have C0 := C
  obtain ⟨hx, hb, hml, hown, hts, hr, hlk, hK, hRO⟩ := C
  obtain ⟨v, i, a, r, rfl⟩ := sh_iastore h
  · obtain ⟨h1, h2⟩ := h
    obtain ⟨k, n, b, g1, g2, g3, g4, g5, g6⟩ := okAS_spec h1
    refine va_iast (D := wD w) hx hb hK hP (wsO_D w u) hS k 0 (g6 u) rfl g2 hd (fun H1 locs1 hP1 _ hS1 => ?_)
    rw [g3, wsO_stI g1 (in_lt g2), ← g4] at hP1
    exact h2 p l e s m args below meth c C0 H1 locs1 ls hP1 hS1 hl hL
theorem sh_laload (h : stepP w M K Q .laload [] pc L st u (GG w M Q)) : ∃ (i : Int32) (a : Nat) (r : List Value), st = .int i :: .ref a :: r := by
  rcases st with _ | ⟨x1, st⟩
  · exact False.elim h
  rcases st with _ | ⟨x2, st⟩
  · cases x1 <;> exact False.elim h
  cases x1 <;> first | exact False.elim h | (cases x2 <;> first | exact False.elim h | exact ⟨_, _, _, rfl⟩)
theorem st_lald (hd : decode M.1 pc = .ok (.laload, 1)) (h : stepP w M K Q .laload [] pc L st u (GG w M Q)) : GG w M Q pc L st u := by
  intro p l e s m args below meth c C H locs ls hP hS hl hL
  have C0 := C
  obtain ⟨hx, hb, hml, hown, hts, hr, hlk, hK, hRO⟩ := C
  obtain ⟨i, a, r, rfl⟩ := sh_laload h
  · obtain ⟨h1, h2⟩ := h
    obtain ⟨k, n, b, g1, g2, g3, g4, g6⟩ := okAJ_spec h1
    refine va_lald (D := wD w) hx hb hK hP k 1 (g6 u) rfl g2 hd ?_
    rw [if_pos (in_lt g2), ← g4]
    exact h2 p l e s m args below meth c C0 H locs ls hP hS hl hL
theorem sh_lastore (h : stepP w M K Q .lastore [] pc L st u (GG w M Q)) : ∃ (v : Int64) (i : Int32) (a : Nat) (r : List Value), st = .long v :: .int i :: .ref a :: r := by
  rcases st with _ | ⟨x1, st⟩
  · exact False.elim h
  rcases st with _ | ⟨x2, st⟩
  · cases x1 <;> exact False.elim h
  rcases st with _ | ⟨x3, st⟩
  · cases x1 <;> first | exact False.elim h | (cases x2 <;> exact False.elim h)
  cases x1 <;> first | exact False.elim h | (cases x2 <;> first | exact False.elim h | (cases x3 <;> first | exact False.elim h | exact ⟨_, _, _, _, rfl⟩))
theorem st_last (hd : decode M.1 pc = .ok (.lastore, 1)) (h : stepP w M K Q .lastore [] pc L st u (GG w M Q)) : GG w M Q pc L st u := by
  intro p l e s m args below meth c C H locs ls hP hS hl hL
  have C0 := C
  obtain ⟨hx, hb, hml, hown, hts, hr, hlk, hK, hRO⟩ := C
  obtain ⟨v, i, a, r, rfl⟩ := sh_lastore h
  · obtain ⟨h1, h2⟩ := h
    obtain ⟨k, n, b, g1, g2, g3, g4, g6⟩ := okAJ_spec h1
    refine va_last (D := wD w) hx hb hK hP (wsO_D w u) hS k 1 (g6 u) rfl g2 hd (fun H1 locs1 hP1 _ hS1 => ?_)
    rw [g3, wsO_stJ g1 (in_lt g2), ← g4] at hP1
    exact h2 p l e s m args below meth c C0 H1 locs1 ls hP1 hS1 hl hL
theorem sh_aaload (h : stepP w M K Q .aaload [] pc L st u (GG w M Q)) : ∃ (i : Int32) (a : Nat) (r : List Value), st = .int i :: .ref a :: r := by
  rcases st with _ | ⟨x1, st⟩
  · exact False.elim h
  rcases st with _ | ⟨x2, st⟩
  · cases x1 <;> exact False.elim h
  cases x1 <;> first | exact False.elim h | (cases x2 <;> first | exact False.elim h | exact ⟨_, _, _, rfl⟩)
theorem st_aald (hd : decode M.1 pc = .ok (.aaload, 1)) (h : stepP w M K Q .aaload [] pc L st u (GG w M Q)) : GG w M Q pc L st u := by
  intro p l e s m args below meth c C H locs ls hP hS hl hL
  have C0 := C
  obtain ⟨hx, hb, hml, hown, hts, hr, hlk, hK, hRO⟩ := C
  obtain ⟨i, a, r, rfl⟩ := sh_aaload h
  · obtain ⟨h1, h2⟩ := h
    obtain ⟨k, t, n, x, d, g1, g2, g3, g4, g5⟩ := okAR_spec h1
    have key := h2 p l e s m args below meth c C0 H locs ls hP hS hl hL
    rw [g4] at key
    match t, g1, g2, g5 with
    | 2, _, _, g5 => exact va_aldq (D := wD w) hx hb hK hP k 2 (g5 u) rfl g3 hd key
    | 3, _, _, g5 => exact va_aldq (D := wD w) hx hb hK hP k 3 (g5 u) rfl g3 hd key
    | 4, _, _, g5 => exact va_aldq (D := wD w) hx hb hK hP k 4 (g5 u) rfl g3 hd key
end STEP
