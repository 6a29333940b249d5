/-! ===== the hall's constructor ===== -/
/-- an array at ka, and the first i of its N cells behind it -/
def oE (w : WW) (E1 : Nat → va_E) (ka t N : Nat) (o : va_E) (i : Nat) : Nat → va_E := fun k => if k = ka then .inl (wC w t, N, .inr (.inr (.inr (.inr (fun j => if j < i then some (wl w + (ka + 1) + 1 * j) else none))))) else if ka < k ∧ k ≤ ka + i then o else E1 k
theorem oE_a {w : WW} {E1 : Nat → va_E} {ka t N i : Nat} {o : va_E} : oE w E1 ka t N o i ka = .inl (wC w t, N, .inr (.inr (.inr (.inr (fun j => if j < i then some (wl w + (ka + 1) + 1 * j) else none))))) := if_pos rfl
theorem oE_lo {w : WW} {E1 : Nat → va_E} {ka t N i k : Nat} {o : va_E} (h : k < ka) : oE w E1 ka t N o i k = E1 k := by
  unfold oE; rw [if_neg (by omega), if_neg (by omega)]
theorem oE_in {w : WW} {E1 : Nat → va_E} {ka t N i k : Nat} {o : va_E} (h : ka < k) (h2 : k ≤ ka + i) : oE w E1 ka t N o i k = o := by
  unfold oE; rw [if_neg (by omega), if_pos ⟨h, h2⟩]
theorem oE_0 {w : WW} {E1 : Nat → va_E} {ka t N : Nat} {o : va_E} (k : Nat) : upE E1 ka (.inl (wC w t, N, .inr (.inr (.inr (.inr (fun _ => none)))))) k = oE w E1 ka t N o 0 k := by
  by_cases h : k = ka
  · subst h; rw [upE_s, oE_a]
    have : (fun _ : Nat => (none : Option Nat)) = fun j => if j < 0 then some (wl w + (k + 1) + 1 * j) else none := by
      funext j; rw [if_neg (Nat.not_lt_zero j)]
    rw [this]
  · rw [upE_o h]; unfold oE; rw [if_neg h, if_neg (by omega)]
theorem oE_s {w : WW} {E1 : Nat → va_E} {ka t N i : Nat} {o : va_E} (k : Nat) : upE (upE (oE w E1 ka t N o i) (ka + 1 + i) o) ka (.inl (wC w t, N, .inr (.inr (.inr (.inr (va_up (fun j => if j < i then some (wl w + (ka + 1) + 1 * j) else none) i (some (wl w + (ka + 1 + i))))))))) k = oE w E1 ka t N o (i + 1) k := by
  by_cases h : k = ka
  · subst h; rw [upE_s, oE_a]
    have : va_up (fun j => if j < i then some (wl w + (k + 1) + 1 * j) else none) i (some (wl w + (k + 1 + i))) = fun j => if j < i + 1 then some (wl w + (k + 1) + 1 * j) else none := by
      funext j
      simp only [va_up]
      by_cases e : j = i
      · subst e; rw [if_pos rfl, if_pos (by omega)]; congr 1; omega
      · rw [if_neg e]
        by_cases e2 : j < i
        · rw [if_pos e2, if_pos (by omega)]
        · rw [if_neg e2, if_neg (by omega)]
    rw [this]
  · rw [upE_o h]
    by_cases h2 : k = ka + 1 + i
    · subst h2; rw [upE_s, oE_in (by omega) (by omega)]
    · rw [upE_o h2]; unfold oE; rw [if_neg h, if_neg h]
      by_cases h3 : ka < k ∧ k ≤ ka + i
      · rw [if_pos h3, if_pos (by omega)]
      · rw [if_neg h3, if_neg (by omega)]
/-- an array of references whose places are all taken -/
theorem Ev_q {cA : ClassId} {N : Nat} {f g : Nat → Option Nat} (h : ∀ j, j < N → f j = g j) : Ev (.inl (cA, N, .inr (.inr (.inr (.inr f))))) (.inl (cA, N, .inr (.inr (.inr (.inr g))))) := by
  intro D q H hq
  have hq : H[q]? = some (vp_cell cA (N, .inr (.inr (.inr (.inr f))))) := hq
  show H[q]? = some (vp_cell cA (N, .inr (.inr (.inr (.inr g)))))
  rw [hq, vp_cell_q, vp_cell_q]
  have e : (fun j : Fin N => va_rf (f j.1)) = fun j : Fin N => va_rf (g j.1) := funext (fun j => by rw [h j.1 j.2])
  unfold arrV
  exact congrArg (fun F : Fin N → Value => some ({ cls := cA, slots := Array.ofFn F, vm := .none } : Cell)) e
abbrev seat0 : va_E := .inr (2, [.int 0, .int 0, .int 0])
abbrev one0 : va_E := .inr (1, [.int 0, .int 0, .int 0, .int 0, .int 0, .int 0, .int 0])
def MiX0 : MI := (cX0_init, 2, none, RX0, { frames := 2, cells := 18, slots := 104, locals := 40 })
theorem gtI_X2 : ∀ x ∈ [Cond.instanceMethod yX2_init, .initialized yX2_init.cls, .code yX2_init MiX2.1 MiX2.2.1 MiX2.2.2.1], x ∈ Gt := by decide +kernel
theorem gtI_X1 : ∀ x ∈ [Cond.instanceMethod yX1_init, .initialized yX1_init.cls, .code yX1_init MiX1.1 MiX1.2.1 MiX1.2.2.1], x ∈ Gt := by decide +kernel
theorem lX0_seats {w : WW} {k0 : Nat} {E1 : Nat → va_E} {Z : ZT} {fs : List Value} (hE : E1 k0 = .inr (0, fs)) (hf : fs[0]? = some (.ref (wl w + (k0 + 1))))
    (hQ : GZ w MiX0 XI Z (MW w (k0 + 1 + 1 + 6) (oE w E1 (k0 + 1) 2 6 seat0 6)) (1 + 6) (6 + 3 * 6) 40 [some (.ref (wl w + k0)), some (.int (nI 6))] []) :
    ∀ (m i : Nat), i + m = 6 → GZ w MiX0 XI Z (MW w (k0 + 1 + 1 + i) (oE w E1 (k0 + 1) 2 6 seat0 i)) (1 + i) (6 + 3 * i) 15 [some (.ref (wl w + k0)), some (.int (nI i))] [] := by
  intro m
  induction m with
  | zero =>
    intro i hi
    have e : i = 6 := by omega
    subst e
    refine z_iload (by decide +kernel : decode MiX0.1 15 = .ok (.iload_n 1, 1)) rfl ?_
    refine z_bipush (by decide +kernel : decode MiX0.1 16 = .ok (.bipush 6, 2)) ?_
    exact z_icmp_ge (by decide +kernel : decode MiX0.1 18 = .ok (.if_icmp .ge 22, 3)) (t := 40) (by decide) (fun _ => hQ) (fun z => absurd (by decide) z)
  | succ m ih =>
    intro i hi
    have hN : (nI i).toNatClampNeg = i := NN_nI (by omega)
    have hlt : ¬ nI i ≥ (Int8.ofInt 6).toInt32 := nI_ge (a := i) (b := 6) (by omega) (by decide)
    have hci : (cX2_init, 1) = (cX2_init, 1) := rfl
    refine z_iload (by decide +kernel : decode MiX0.1 15 = .ok (.iload_n 1, 1)) rfl ?_
    refine z_bipush (by decide +kernel : decode MiX0.1 16 = .ok (.bipush 6, 2)) ?_
    refine z_icmp_ge (by decide +kernel : decode MiX0.1 18 = .ok (.if_icmp .ge 22, 3)) (t := 40) (by decide) (fun z => absurd z hlt) (fun _ => ?_)
    refine z_aload (by decide +kernel : decode MiX0.1 21 = .ok (.aload_n 0, 1)) rfl ?_
    refine z_getf (ci := 0) (j := 0) (k0 := k0) (fs := fs) (by decide) (by omega) ((oE_lo (by omega)).trans hE) (by decide) (by decide +kernel : decode MiX0.1 22 = .ok (.getfield 11, 3)) (by decide +kernel) hf ?_
    refine z_iload (by decide +kernel : decode MiX0.1 25 = .ok (.iload_n 1, 1)) rfl ?_
    refine z_new (ci := 2) (fs := [.int 0, .int 0, .int 0]) (by decide) (by decide +kernel : decode MiX0.1 26 = .ok (.new 9, 3)) (by decide +kernel) (by decide +kernel) (by decide +kernel) (by decide) (by show 1 + i + 1 ≤ 18; omega) (by show 6 + 3 * i + 3 ≤ 104; omega) ?_
    refine z_dup rfl (by decide +kernel : decode MiX0.1 29 = .ok (.dup, 1)) ?_
    refine z_initN (idx := 17) (host := "ChairDance") (tiX2 w (k0 + 1 + 1 + i)) upE_s rfl rfl (fun U h => h.2.1) gtI_X2 (by decide +kernel) (by decide) (by decide) (by show 1 + i + 1 + 0 ≤ 18; omega) (by show 6 + 3 * i + 3 + 0 ≤ 104; omega) (Nat.le_of_ble_eq_true rfl) (by decide +kernel : decode MiX0.1 30 = .ok (.invokespecial 17, 3)) ?_
    refine z_ast (ci := 2) (t := 2) (k0 := k0 + 1) (k1 := k0 + 1 + 1 + i) (by decide) (by omega) (by omega) ((upE_o (by omega)).trans oE_a) upE_s rfl (vi_nI (by omega)) (by decide +kernel : decode MiX0.1 33 = .ok (.aastore, 1)) ?_
    refine z_iinc (by decide +kernel : decode MiX0.1 34 = .ok (.iinc 1 1, 3)) rfl ?_
    refine z_goto (by decide +kernel : decode MiX0.1 37 = .ok (.goto (-22), 3)) (t := 15) (by decide) ?_
    rw [hN]
    refine z_conv (fun k _ => Ev.eq (oE_s k)) ?_
    have := ih (i + 1) (by omega)
    rw [show nI (i + 1) = nI i + Int32.ofInt 1 from (nI_1 i).symm] at this
    exact this
theorem lX0_ones {w : WW} {k0 : Nat} {E1 : Nat → va_E} {Z : ZT} {fs : List Value} (hE : E1 k0 = .inr (0, fs)) (hf : fs[1]? = some (.ref (wl w + (k0 + 8))))
    (hQ : GZ w MiX0 XI Z (MW w (k0 + 8 + 1 + 10) (oE w E1 (k0 + 8) 3 10 one0 10)) (8 + 10) (34 + 7 * 10) 76 [some (.ref (wl w + k0)), some (.int (nI 10))] []) :
    ∀ (m i : Nat), i + m = 10 → GZ w MiX0 XI Z (MW w (k0 + 8 + 1 + i) (oE w E1 (k0 + 8) 3 10 one0 i)) (8 + i) (34 + 7 * i) 51 [some (.ref (wl w + k0)), some (.int (nI i))] [] := by
  intro m
  induction m with
  | zero =>
    intro i hi
    have e : i = 10 := by omega
    subst e
    refine z_iload (by decide +kernel : decode MiX0.1 51 = .ok (.iload_n 1, 1)) rfl ?_
    refine z_bipush (by decide +kernel : decode MiX0.1 52 = .ok (.bipush 10, 2)) ?_
    exact z_icmp_ge (by decide +kernel : decode MiX0.1 54 = .ok (.if_icmp .ge 22, 3)) (t := 76) (by decide) (fun _ => hQ) (fun z => absurd (by decide) z)
  | succ m ih =>
    intro i hi
    have hN : (nI i).toNatClampNeg = i := NN_nI (by omega)
    have hlt : ¬ nI i ≥ (Int8.ofInt 10).toInt32 := nI_ge (a := i) (b := 10) (by omega) (by decide)
    have hci : (cX1_init, 1) = (cX1_init, 1) := rfl
    refine z_iload (by decide +kernel : decode MiX0.1 51 = .ok (.iload_n 1, 1)) rfl ?_
    refine z_bipush (by decide +kernel : decode MiX0.1 52 = .ok (.bipush 10, 2)) ?_
    refine z_icmp_ge (by decide +kernel : decode MiX0.1 54 = .ok (.if_icmp .ge 22, 3)) (t := 76) (by decide) (fun z => absurd z hlt) (fun _ => ?_)
    refine z_aload (by decide +kernel : decode MiX0.1 57 = .ok (.aload_n 0, 1)) rfl ?_
    refine z_getf (ci := 0) (j := 1) (k0 := k0) (fs := fs) (by decide) (by omega) ((oE_lo (by omega)).trans hE) (by decide) (by decide +kernel : decode MiX0.1 58 = .ok (.getfield 20, 3)) (by decide +kernel) hf ?_
    refine z_iload (by decide +kernel : decode MiX0.1 61 = .ok (.iload_n 1, 1)) rfl ?_
    refine z_new (ci := 1) (fs := [.int 0, .int 0, .int 0, .int 0, .int 0, .int 0, .int 0]) (by decide) (by decide +kernel : decode MiX0.1 62 = .ok (.new 18, 3)) (by decide +kernel) (by decide +kernel) (by decide +kernel) (by decide) (by show 8 + i + 1 ≤ 18; omega) (by show 34 + 7 * i + 7 ≤ 104; omega) ?_
    refine z_dup rfl (by decide +kernel : decode MiX0.1 65 = .ok (.dup, 1)) ?_
    refine z_initN (idx := 24) (host := "ChairDance") (tiX1 w (k0 + 8 + 1 + i)) upE_s rfl rfl (fun U h => h.2.2.1) gtI_X1 (by decide +kernel) (by decide) (by decide) (by show 8 + i + 1 + 0 ≤ 18; omega) (by show 34 + 7 * i + 7 + 0 ≤ 104; omega) (Nat.le_of_ble_eq_true rfl) (by decide +kernel : decode MiX0.1 66 = .ok (.invokespecial 24, 3)) ?_
    refine z_ast (ci := 1) (t := 3) (k0 := k0 + 8) (k1 := k0 + 8 + 1 + i) (by decide) (by omega) (by omega) ((upE_o (by omega)).trans oE_a) upE_s rfl (vi_nI (by omega)) (by decide +kernel : decode MiX0.1 69 = .ok (.aastore, 1)) ?_
    refine z_iinc (by decide +kernel : decode MiX0.1 70 = .ok (.iinc 1 1, 3)) rfl ?_
    refine z_goto (by decide +kernel : decode MiX0.1 73 = .ok (.goto (-22), 3)) (t := 51) (by decide) ?_
    rw [hN]
    refine z_conv (fun k _ => Ev.eq (oE_s k)) ?_
    have := ih (i + 1) (by omega)
    rw [show nI (i + 1) = nI i + Int32.ofInt 1 from (nI_1 i).symm] at this
    exact this
/-- a hall's 19 cells -/
def eX0 (w : WW) (k0 : Nat) : Nat → va_E := fun i => if i = 0 then .inr (0, [.ref (wl w + (k0 + 1)), .ref (wl w + (k0 + 8)), .int 0, .int 0, .int 0]) else if i = 1 then .inl (wC w 2, 6, .inr (.inr (.inr (.inr (fun j => some (wl w + (k0 + 1 + 1) + 1 * j)))))) else if i < 8 then seat0 else if i = 8 then .inl (wC w 3, 10, .inr (.inr (.inr (.inr (fun j => some (wl w + (k0 + 8 + 1) + 1 * j)))))) else one0
theorem tiX0 (w : WW) (k0 : Nat) : CI w yX0_init MiX0 k0 (k0 + 19) (.inr (0, [.null, .null, .int 0, .int 0, .int 0])) (fun E => clE E k0 (eX0 w k0)) := by
  refine CI_of (by decide) rfl rfl rfl (by decide) (fun E hE => ?_)
  refine z_aload (by decide +kernel : decode MiX0.1 0 = .ok (.aload_n 0, 1)) rfl ?_
  refine z_oinit (by decide +kernel) gt_oi gt_oc (by decide +kernel : decode MiX0.1 1 = .ok (.invokespecial 3, 3)) (by decide) (by decide) ?_
  refine z_aload (by decide +kernel : decode MiX0.1 4 = .ok (.aload_n 0, 1)) rfl ?_
  refine z_bipush (by decide +kernel : decode MiX0.1 5 = .ok (.bipush 6, 2)) ?_
  refine z_anew (t := 2) (N := 6) (C0 := "ChairDance$Seat") (by decide +kernel : decode MiX0.1 7 = .ok (.anewarray 9, 3)) (by decide +kernel) (fun U h => h.1.1) rfl (by decide) (by decide) (by decide) (by decide) (by decide) ?_
  refine z_putF (ci := 0) (j := 0) (k0 := k0) (by decide) (by omega) ((upE_o (by omega)).trans hE) (by decide) (by decide +kernel : decode MiX0.1 10 = .ok (.putfield 11, 3)) (by decide +kernel) rfl rfl rfl rfl rfl (by simp) (fun _ _ _ h => h.1) ?_
  refine z_iconst (by decide +kernel : decode MiX0.1 13 = .ok (.iconst 0, 1)) ?_
  refine z_istore (by decide +kernel : decode MiX0.1 14 = .ok (.istore_n 1, 1)) (Nat.le_of_ble_eq_true rfl) ?_
  refine z_conv (E' := oE w (upE E k0 (.inr (0, [.ref (wl w + (k0 + 1)), .null, .int 0, .int 0, .int 0]))) (k0 + 1) 2 6 seat0 0) (fun k _ => Ev.eq ?_) ?_
  · rw [← oE_0]
    by_cases h : k = k0
    · subst h; rw [upE_s, upE_o (by omega), upE_s]; rfl
    · rw [upE_o h]
      by_cases h2 : k = k0 + 1
      · subst h2; rw [upE_s, upE_s]
      · rw [upE_o h2, upE_o h2, upE_o h]
  refine lX0_seats (fs := [.ref (wl w + (k0 + 1)), .null, .int 0, .int 0, .int 0]) upE_s rfl ?_ 6 0 rfl
  refine z_aload (by decide +kernel : decode MiX0.1 40 = .ok (.aload_n 0, 1)) rfl ?_
  refine z_bipush (by decide +kernel : decode MiX0.1 41 = .ok (.bipush 10, 2)) ?_
  refine z_anew (t := 3) (N := 10) (C0 := "ChairDance$One") (by decide +kernel : decode MiX0.1 43 = .ok (.anewarray 18, 3)) (by decide +kernel) (fun U h => h.1.2.1) rfl (by decide) (by decide) (by decide) (by decide) (by decide) ?_
  refine z_putF (ci := 0) (j := 1) (k0 := k0) (by decide) (by omega) ((upE_o (by omega)).trans ((oE_lo (by omega)).trans upE_s)) (by decide) (by decide +kernel : decode MiX0.1 46 = .ok (.putfield 20, 3)) (by decide +kernel) rfl rfl rfl rfl rfl (by simp) (fun _ _ _ h => h.1) ?_
  refine z_iconst (by decide +kernel : decode MiX0.1 49 = .ok (.iconst 0, 1)) ?_
  refine z_istore (by decide +kernel : decode MiX0.1 50 = .ok (.istore_n 1, 1)) (Nat.le_of_ble_eq_true rfl) ?_
  refine z_conv (E' := oE w (upE (oE w (upE E k0 (.inr (0, [.ref (wl w + (k0 + 1)), .null, .int 0, .int 0, .int 0]))) (k0 + 1) 2 6 seat0 6) k0 (.inr (0, [.ref (wl w + (k0 + 1)), .ref (wl w + (k0 + 8)), .int 0, .int 0, .int 0]))) (k0 + 8) 3 10 one0 0) (fun k _ => Ev.eq ?_) ?_
  · rw [← oE_0]
    by_cases h : k = k0
    · subst h; rw [upE_s, upE_o (by omega), upE_s]; rfl
    · rw [upE_o h]
      by_cases h2 : k = k0 + 8
      · subst h2; rw [upE_s]; exact upE_s.symm
      · rw [upE_o h2]; exact ((upE_o h2).trans (upE_o h)).symm
  refine lX0_ones (fs := [.ref (wl w + (k0 + 1)), .ref (wl w + (k0 + 8)), .int 0, .int 0, .int 0]) upE_s rfl ?_ 10 0 rfl
  refine z_conv (E' := clE E k0 (eX0 w k0)) (fun k hk => ?_) (z_ret (by decide +kernel : decode MiX0.1 76 = .ok (.return_, 1)))
  by_cases hlt : k < k0
  · rw [clE_lo hlt, oE_lo (by omega), upE_o (by omega), oE_lo (by omega), upE_o (by omega)]; exact Ev.rf _
  · obtain ⟨i, rfl⟩ : ∃ i, k = k0 + i := ⟨k - k0, by omega⟩
    rw [clE_hi]
    unfold eX0
    by_cases h0 : i = 0
    · subst h0; rw [if_pos rfl]; exact Ev.eq ((oE_lo (by omega)).trans upE_s)
    · rw [if_neg h0]
      by_cases h1 : i = 1
      · subst h1; rw [if_pos rfl, oE_lo (by omega), upE_o (by omega), oE_a]
        exact Ev_q (fun j hj => if_pos hj)
      · rw [if_neg h1]
        by_cases h8 : i < 8
        · rw [if_pos h8, oE_lo (by omega), upE_o (by omega), oE_in (by omega) (by omega)]; exact Ev.rf _
        · rw [if_neg h8]
          by_cases h9 : i = 8
          · subst h9; rw [if_pos rfl, oE_a]
            exact Ev_q (fun j hj => if_pos hj)
          · rw [if_neg h9, oE_in (by omega) (by omega)]; exact Ev.rf _
