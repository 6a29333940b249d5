/-! ===== the constructors without loops ===== -/
theorem upE_s {E : Nat → va_E} {k : Nat} {v : va_E} : upE E k v k = v := if_pos rfl
theorem upE_o {E : Nat → va_E} {k j : Nat} {v : va_E} (h : j ≠ k) : upE E k v j = E j := if_neg h
/-- the same cell -/
def Ev (a b : va_E) : Prop := ∀ (D : va_G) (q : Nat) (H : Heap), va_at D vwCl (q, a) H → va_at D vwCl (q, b) H
theorem Ev.rf (a : va_E) : Ev a a := fun _ _ _ h => h
theorem Ev.eq {a b : va_E} (h : a = b) : Ev a b := by rw [h]; exact Ev.rf b
def clE (E : Nat → va_E) (k0 : Nat) (G : Nat → va_E) : Nat → va_E := fun k => if k < k0 then E k else G (k - k0)
theorem clE_lo {E G : Nat → va_E} {k0 k : Nat} (h : k < k0) : clE E k0 G k = E k := if_pos h
theorem clE_hi {E G : Nat → va_E} {k0 i : Nat} : clE E k0 G (k0 + i) = G i := by
  unfold clE; rw [if_neg (by omega), show k0 + i - k0 = i by omega]
theorem MW.ev {w : WW} {n : Nat} {E E' : Nat → va_E} {H : Heap} (h : MW w n E H) (he : ∀ k, k < n → Ev (E k) (E' k)) : MW w n E' H := by
  refine ⟨h.1, fun k q hk => ?_⟩
  obtain ⟨h1, rfl⟩ := wsN_inv hk
  exact he k h1 _ _ _ (h.2 k _ (wsN_get h1))
theorem z_conv {w : WW} {M : MI} {X : XT} {Z : ZT} {cells slots pc : Nat} {L : LL} {st : List Value} {n : Nat} {E E' : Nat → va_E} (he : ∀ k, k < n → Ev (E k) (E' k)) (h : GZ w M X Z (MW w n E') cells slots pc L st) : GZ w M X Z (MW w n E) cells slots pc L st := by
  intro p l e s m args below meth c C x H locs ls hP hS hl2 hL
  exact h p l e s m args below meth c C x H locs ls (hP.ev he) hS hl2 hL
theorem ra_int : ∀ (U : State) (cA : ClassId), va_RA U cA (newarray.typeOf .int) → U.vm.findClass ("[" ++ (newarray.typeOf .int).toString) = some cA := fun _ _ h => h
theorem ra_long : ∀ (U : State) (cA : ClassId), va_RA U cA (newarray.typeOf .long) → U.vm.findClass ("[" ++ (newarray.typeOf .long).toString) = some cA := fun _ _ h => h
theorem gt_oi : Cond.instanceMethod objectInit ∈ Gt := by decide +kernel
theorem gt_oc : Cond.code objectInit ⟨#[0xb1]⟩ 1 none ∈ Gt := by decide +kernel
theorem gt_ai : Cond.arrayClass (newarray.typeOf .int) ∈ Gt := by decide +kernel
theorem gt_al : Cond.arrayClass (newarray.typeOf .long) ∈ Gt := by decide +kernel
abbrev iA (w : WW) (n : Nat) : va_E := .inl (wC w 0, n, .inl (fun _ => 0))
abbrev jA (w : WW) (n : Nat) : va_E := .inl (wC w 1, n, .inr (.inl (fun _ => 0)))
theorem lgr (v : Value) (r : LL) : lg (some v :: r) 0 = some v := rfl
def MiX1 : MI := (cX1_init, 1, none, RX1, { frames := 1, cells := 0, slots := 0, locals := 20 })
theorem tiX1 (w : WW) (k0 : Nat) : CI w yX1_init MiX1 k0 (k0 + 1) (.inr (1, [.int 0, .int 0, .int 0, .int 0, .int 0, .int 0, .int 0])) id := by
  refine CI_of (by decide) rfl rfl rfl (by decide) (fun E hE => ?_)
  refine z_aload (by decide +kernel : decode MiX1.1 0 = .ok (.aload_n 0, 1)) rfl ?_
  refine z_oinit (by decide +kernel) gt_oi gt_oc (by decide +kernel : decode MiX1.1 1 = .ok (.invokespecial 3, 3)) (by decide) (by decide) ?_
  exact z_ret (by decide +kernel : decode MiX1.1 4 = .ok (.return_, 1))
def MiX2 : MI := (cX2_init, 1, none, RX2, { frames := 1, cells := 0, slots := 0, locals := 20 })
theorem tiX2 (w : WW) (k0 : Nat) : CI w yX2_init MiX2 k0 (k0 + 1) (.inr (2, [.int 0, .int 0, .int 0])) id := by
  refine CI_of (by decide) rfl rfl rfl (by decide) (fun E hE => ?_)
  refine z_aload (by decide +kernel : decode MiX2.1 0 = .ok (.aload_n 0, 1)) rfl ?_
  refine z_oinit (by decide +kernel) gt_oi gt_oc (by decide +kernel : decode MiX2.1 1 = .ok (.invokespecial 1, 3)) (by decide) (by decide) ?_
  exact z_ret (by decide +kernel : decode MiX2.1 4 = .ok (.return_, 1))
def MiX3 : MI := (cX3_init, 1, none, RX3, { frames := 1, cells := 1, slots := 40, locals := 20 })
def eX3 (w : WW) (k0 : Nat) : Nat → va_E
  | 0 => .inr (3, [.ref (wl w + (k0 + 1)), .int 0, .int 0])
  | _ => jA w 40
theorem tiX3 (w : WW) (k0 : Nat) : CI w yX3_init MiX3 k0 (k0 + 2) (.inr (3, [.null, .int 0, .int 0])) (fun E => clE E k0 (eX3 w k0)) := by
  refine CI_of (by decide) rfl rfl rfl (by decide) (fun E hE => ?_)
  refine z_aload (by decide +kernel : decode MiX3.1 0 = .ok (.aload_n 0, 1)) rfl ?_
  refine z_oinit (by decide +kernel) gt_oi gt_oc (by decide +kernel : decode MiX3.1 1 = .ok (.invokespecial 3, 3)) (by decide) (by decide) ?_
  refine z_aload (by decide +kernel : decode MiX3.1 4 = .ok (.aload_n 0, 1)) rfl ?_
  refine z_bipush (by decide +kernel : decode MiX3.1 5 = .ok (.bipush 40, 2)) ?_
  refine z_newa (t := 1) (N := 40) (a0 := (40, .inr (.inl (fun _ => 0)))) (by decide +kernel : decode MiX3.1 7 = .ok (.newarray .long, 2)) rfl ra_long gt_al (by decide) (by decide) (by decide) rfl (by decide) (by decide) ?_
  refine z_putF (ci := 3) (j := 0) (k0 := k0) (by decide) (by omega) ((upE_o (by omega)).trans hE) (by decide) (by decide +kernel : decode MiX3.1 9 = .ok (.putfield 9, 3)) (by decide +kernel) rfl rfl rfl rfl rfl (by simp) (fun _ _ _ h => h.1) ?_
  refine z_conv (E' := clE E k0 (eX3 w k0)) (fun k hk => Ev.eq ?_) (z_ret (by decide +kernel : decode MiX3.1 12 = .ok (.return_, 1)))
  by_cases hlt : k < k0
  · rw [clE_lo hlt]
    simp (disch := omega) only [upE_o]
  · obtain ⟨i, rfl⟩ : ∃ i, k = k0 + i := ⟨k - k0, by omega⟩
    rw [clE_hi]
    have hi : i = 0 ∨ i = 1 := by omega
    rcases hi with rfl | rfl
    all_goals (try rw [Nat.add_zero])
    all_goals (repeat first | exact upE_s | rw [upE_o (by omega)])
def MiX4 : MI := (cX4_init, 1, none, RX4, { frames := 1, cells := 1, slots := 120, locals := 20 })
def eX4 (w : WW) (k0 : Nat) : Nat → va_E
  | 0 => .inr (4, [.ref (wl w + (k0 + 1)), .int 0, .int 0, .int 0, .int 0, .int 0])
  | _ => iA w 120
theorem tiX4 (w : WW) (k0 : Nat) : CI w yX4_init MiX4 k0 (k0 + 2) (.inr (4, [.null, .int 0, .int 0, .int 0, .int 0, .int 0])) (fun E => clE E k0 (eX4 w k0)) := by
  refine CI_of (by decide) rfl rfl rfl (by decide) (fun E hE => ?_)
  refine z_aload (by decide +kernel : decode MiX4.1 0 = .ok (.aload_n 0, 1)) rfl ?_
  refine z_oinit (by decide +kernel) gt_oi gt_oc (by decide +kernel : decode MiX4.1 1 = .ok (.invokespecial 3, 3)) (by decide) (by decide) ?_
  refine z_aload (by decide +kernel : decode MiX4.1 4 = .ok (.aload_n 0, 1)) rfl ?_
  refine z_bipush (by decide +kernel : decode MiX4.1 5 = .ok (.bipush 120, 2)) ?_
  refine z_newa (t := 0) (N := 120) (a0 := (120, .inl (fun _ => 0))) (by decide +kernel : decode MiX4.1 7 = .ok (.newarray .int, 2)) rfl ra_int gt_ai (by decide) (by decide) (by decide) rfl (by decide) (by decide) ?_
  refine z_putF (ci := 4) (j := 0) (k0 := k0) (by decide) (by omega) ((upE_o (by omega)).trans hE) (by decide) (by decide +kernel : decode MiX4.1 9 = .ok (.putfield 9, 3)) (by decide +kernel) rfl rfl rfl rfl rfl (by simp) (fun _ _ _ h => h.1) ?_
  refine z_conv (E' := clE E k0 (eX4 w k0)) (fun k hk => Ev.eq ?_) (z_ret (by decide +kernel : decode MiX4.1 12 = .ok (.return_, 1)))
  by_cases hlt : k < k0
  · rw [clE_lo hlt]
    simp (disch := omega) only [upE_o]
  · obtain ⟨i, rfl⟩ : ∃ i, k = k0 + i := ⟨k - k0, by omega⟩
    rw [clE_hi]
    have hi : i = 0 ∨ i = 1 := by omega
    rcases hi with rfl | rfl
    all_goals (try rw [Nat.add_zero])
    all_goals (repeat first | exact upE_s | rw [upE_o (by omega)])
def MiX6 : MI := (cX6_init, 1, none, RX6, { frames := 1, cells := 10, slots := 705, locals := 20 })
def eX6 (w : WW) (k0 : Nat) : Nat → va_E
  | 0 => .inr (6, [.ref (wl w + (k0 + 1)), .int 0, .ref (wl w + (k0 + 2)), .ref (wl w + (k0 + 3)), .ref (wl w + (k0 + 4)), .int 0, .int 0, .int 0, .int 0, .long 0, .int 0, .int 0, .ref (wl w + (k0 + 5)), .ref (wl w + (k0 + 6)), .ref (wl w + (k0 + 7)), .ref (wl w + (k0 + 8)), .ref (wl w + (k0 + 9)), .ref (wl w + (k0 + 10)), .int 0])
  | 1 => iA w 182
  | 2 => iA w 7
  | 3 => iA w 6
  | 4 => iA w 120
  | 5 => iA w 4
  | 6 => iA w 4
  | 7 => jA w 160
  | 8 => jA w 40
  | 9 => iA w 91
  | _ => iA w 91
theorem tiX6 (w : WW) (k0 : Nat) : CI w yX6_init MiX6 k0 (k0 + 11) (.inr (6, [.null, .int 0, .null, .null, .null, .int 0, .int 0, .int 0, .int 0, .long 0, .int 0, .int 0, .null, .null, .null, .null, .null, .null, .int 0])) (fun E => clE E k0 (eX6 w k0)) := by
  refine CI_of (by decide) rfl rfl rfl (by decide) (fun E hE => ?_)
  refine z_aload (by decide +kernel : decode MiX6.1 0 = .ok (.aload_n 0, 1)) rfl ?_
  refine z_oinit (by decide +kernel) gt_oi gt_oc (by decide +kernel : decode MiX6.1 1 = .ok (.invokespecial 1, 3)) (by decide) (by decide) ?_
  refine z_aload (by decide +kernel : decode MiX6.1 4 = .ok (.aload_n 0, 1)) rfl ?_
  refine z_sipush (by decide +kernel : decode MiX6.1 5 = .ok (.sipush 182, 3)) ?_
  refine z_newa (t := 0) (N := 182) (a0 := (182, .inl (fun _ => 0))) (by decide +kernel : decode MiX6.1 8 = .ok (.newarray .int, 2)) rfl ra_int gt_ai (by decide) (by decide) (by decide) rfl (by decide) (by decide) ?_
  refine z_putF (ci := 6) (j := 0) (k0 := k0) (by decide) (by omega) ((upE_o (by omega)).trans hE) (by decide) (by decide +kernel : decode MiX6.1 10 = .ok (.putfield 7, 3)) (by decide +kernel) rfl rfl rfl rfl rfl (by simp) (fun _ _ _ h => h.1) ?_
  refine z_aload (by decide +kernel : decode MiX6.1 13 = .ok (.aload_n 0, 1)) rfl ?_
  refine z_bipush (by decide +kernel : decode MiX6.1 14 = .ok (.bipush 7, 2)) ?_
  refine z_newa (t := 0) (N := 7) (a0 := (7, .inl (fun _ => 0))) (by decide +kernel : decode MiX6.1 16 = .ok (.newarray .int, 2)) rfl ra_int gt_ai (by decide) (by decide) (by decide) rfl (by decide) (by decide) ?_
  refine z_putF (ci := 6) (j := 2) (k0 := k0) (by decide) (by omega) ((upE_o (by omega)).trans upE_s) (by decide) (by decide +kernel : decode MiX6.1 18 = .ok (.putfield 13, 3)) (by decide +kernel) rfl rfl rfl rfl rfl (by simp) (fun _ _ _ h => h.1) ?_
  refine z_aload (by decide +kernel : decode MiX6.1 21 = .ok (.aload_n 0, 1)) rfl ?_
  refine z_bipush (by decide +kernel : decode MiX6.1 22 = .ok (.bipush 6, 2)) ?_
  refine z_newa (t := 0) (N := 6) (a0 := (6, .inl (fun _ => 0))) (by decide +kernel : decode MiX6.1 24 = .ok (.newarray .int, 2)) rfl ra_int gt_ai (by decide) (by decide) (by decide) rfl (by decide) (by decide) ?_
  refine z_putF (ci := 6) (j := 3) (k0 := k0) (by decide) (by omega) ((upE_o (by omega)).trans upE_s) (by decide) (by decide +kernel : decode MiX6.1 26 = .ok (.putfield 16, 3)) (by decide +kernel) rfl rfl rfl rfl rfl (by simp) (fun _ _ _ h => h.1) ?_
  refine z_aload (by decide +kernel : decode MiX6.1 29 = .ok (.aload_n 0, 1)) rfl ?_
  refine z_bipush (by decide +kernel : decode MiX6.1 30 = .ok (.bipush 120, 2)) ?_
  refine z_newa (t := 0) (N := 120) (a0 := (120, .inl (fun _ => 0))) (by decide +kernel : decode MiX6.1 32 = .ok (.newarray .int, 2)) rfl ra_int gt_ai (by decide) (by decide) (by decide) rfl (by decide) (by decide) ?_
  refine z_putF (ci := 6) (j := 4) (k0 := k0) (by decide) (by omega) ((upE_o (by omega)).trans upE_s) (by decide) (by decide +kernel : decode MiX6.1 34 = .ok (.putfield 19, 3)) (by decide +kernel) rfl rfl rfl rfl rfl (by simp) (fun _ _ _ h => h.1) ?_
  refine z_aload (by decide +kernel : decode MiX6.1 37 = .ok (.aload_n 0, 1)) rfl ?_
  refine z_iconst (by decide +kernel : decode MiX6.1 38 = .ok (.iconst 4, 1)) ?_
  refine z_newa (t := 0) (N := 4) (a0 := (4, .inl (fun _ => 0))) (by decide +kernel : decode MiX6.1 39 = .ok (.newarray .int, 2)) rfl ra_int gt_ai (by decide) (by decide) (by decide) rfl (by decide) (by decide) ?_
  refine z_putF (ci := 6) (j := 12) (k0 := k0) (by decide) (by omega) ((upE_o (by omega)).trans upE_s) (by decide) (by decide +kernel : decode MiX6.1 41 = .ok (.putfield 22, 3)) (by decide +kernel) rfl rfl rfl rfl rfl (by simp) (fun _ _ _ h => h.1) ?_
  refine z_aload (by decide +kernel : decode MiX6.1 44 = .ok (.aload_n 0, 1)) rfl ?_
  refine z_iconst (by decide +kernel : decode MiX6.1 45 = .ok (.iconst 4, 1)) ?_
  refine z_newa (t := 0) (N := 4) (a0 := (4, .inl (fun _ => 0))) (by decide +kernel : decode MiX6.1 46 = .ok (.newarray .int, 2)) rfl ra_int gt_ai (by decide) (by decide) (by decide) rfl (by decide) (by decide) ?_
  refine z_putF (ci := 6) (j := 13) (k0 := k0) (by decide) (by omega) ((upE_o (by omega)).trans upE_s) (by decide) (by decide +kernel : decode MiX6.1 48 = .ok (.putfield 25, 3)) (by decide +kernel) rfl rfl rfl rfl rfl (by simp) (fun _ _ _ h => h.1) ?_
  refine z_aload (by decide +kernel : decode MiX6.1 51 = .ok (.aload_n 0, 1)) rfl ?_
  refine z_sipush (by decide +kernel : decode MiX6.1 52 = .ok (.sipush 160, 3)) ?_
  refine z_newa (t := 1) (N := 160) (a0 := (160, .inr (.inl (fun _ => 0)))) (by decide +kernel : decode MiX6.1 55 = .ok (.newarray .long, 2)) rfl ra_long gt_al (by decide) (by decide) (by decide) rfl (by decide) (by decide) ?_
  refine z_putF (ci := 6) (j := 14) (k0 := k0) (by decide) (by omega) ((upE_o (by omega)).trans upE_s) (by decide) (by decide +kernel : decode MiX6.1 57 = .ok (.putfield 28, 3)) (by decide +kernel) rfl rfl rfl rfl rfl (by simp) (fun _ _ _ h => h.1) ?_
  refine z_aload (by decide +kernel : decode MiX6.1 60 = .ok (.aload_n 0, 1)) rfl ?_
  refine z_bipush (by decide +kernel : decode MiX6.1 61 = .ok (.bipush 40, 2)) ?_
  refine z_newa (t := 1) (N := 40) (a0 := (40, .inr (.inl (fun _ => 0)))) (by decide +kernel : decode MiX6.1 63 = .ok (.newarray .long, 2)) rfl ra_long gt_al (by decide) (by decide) (by decide) rfl (by decide) (by decide) ?_
  refine z_putF (ci := 6) (j := 15) (k0 := k0) (by decide) (by omega) ((upE_o (by omega)).trans upE_s) (by decide) (by decide +kernel : decode MiX6.1 65 = .ok (.putfield 32, 3)) (by decide +kernel) rfl rfl rfl rfl rfl (by simp) (fun _ _ _ h => h.1) ?_
  refine z_aload (by decide +kernel : decode MiX6.1 68 = .ok (.aload_n 0, 1)) rfl ?_
  refine z_bipush (by decide +kernel : decode MiX6.1 69 = .ok (.bipush 91, 2)) ?_
  refine z_newa (t := 0) (N := 91) (a0 := (91, .inl (fun _ => 0))) (by decide +kernel : decode MiX6.1 71 = .ok (.newarray .int, 2)) rfl ra_int gt_ai (by decide) (by decide) (by decide) rfl (by decide) (by decide) ?_
  refine z_putF (ci := 6) (j := 16) (k0 := k0) (by decide) (by omega) ((upE_o (by omega)).trans upE_s) (by decide) (by decide +kernel : decode MiX6.1 73 = .ok (.putfield 35, 3)) (by decide +kernel) rfl rfl rfl rfl rfl (by simp) (fun _ _ _ h => h.1) ?_
  refine z_aload (by decide +kernel : decode MiX6.1 76 = .ok (.aload_n 0, 1)) rfl ?_
  refine z_bipush (by decide +kernel : decode MiX6.1 77 = .ok (.bipush 91, 2)) ?_
  refine z_newa (t := 0) (N := 91) (a0 := (91, .inl (fun _ => 0))) (by decide +kernel : decode MiX6.1 79 = .ok (.newarray .int, 2)) rfl ra_int gt_ai (by decide) (by decide) (by decide) rfl (by decide) (by decide) ?_
  refine z_putF (ci := 6) (j := 17) (k0 := k0) (by decide) (by omega) ((upE_o (by omega)).trans upE_s) (by decide) (by decide +kernel : decode MiX6.1 81 = .ok (.putfield 38, 3)) (by decide +kernel) rfl rfl rfl rfl rfl (by simp) (fun _ _ _ h => h.1) ?_
  refine z_conv (E' := clE E k0 (eX6 w k0)) (fun k hk => Ev.eq ?_) (z_ret (by decide +kernel : decode MiX6.1 84 = .ok (.return_, 1)))
  by_cases hlt : k < k0
  · rw [clE_lo hlt]
    simp (disch := omega) only [upE_o]
  · obtain ⟨i, rfl⟩ : ∃ i, k = k0 + i := ⟨k - k0, by omega⟩
    rw [clE_hi]
    have hi : i = 0 ∨ i = 1 ∨ i = 2 ∨ i = 3 ∨ i = 4 ∨ i = 5 ∨ i = 6 ∨ i = 7 ∨ i = 8 ∨ i = 9 ∨ i = 10 := by omega
    rcases hi with rfl | rfl | rfl | rfl | rfl | rfl | rfl | rfl | rfl | rfl | rfl
    all_goals (try rw [Nat.add_zero])
    all_goals (repeat first | exact upE_s | rw [upE_o (by omega)])
