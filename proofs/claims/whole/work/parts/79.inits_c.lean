/-! ===== the class's own constructor ===== -/
def MiX5 : MI := (cX5_init, 2, none, RX5, { frames := 3, cells := 69, slots := 636, locals := 61 })
/-- the class's cells but the first -/
def eXr (w : WW) (k : Nat) : va_E := if k < 20 then eX0 w 1 (k - 1) else if k < 39 then eX0 w 20 (k - 20) else if k < 58 then eX0 w 39 (k - 39) else if k < 60 then eX4 w 58 (k - 58) else if k = 60 then .inl (wC w 4, 4, .inr (.inr (.inr (.inr (fun j => some (wl w + 61 + 2 * j)))))) else if k < 69 then eX3 w (61 + 2 * ((k - 61) / 2)) ((k - 61) % 2) else iA w 7
def xE (w : WW) (fs : List Value) : Nat → va_E := fun k => if k = 0 then .inr (5, fs) else eXr w k
theorem xE_0 {w : WW} {fs : List Value} : xE w fs 0 = .inr (5, fs) := rfl
theorem xE_p {w : WW} {fs : List Value} {k : Nat} (h : k ≠ 0) : xE w fs k = eXr w k := if_neg h
theorem stg {w : WW} {a n : Nat} {fs fs' : List Value} {G : Nat → va_E} {o : va_E} (ha : 0 < a) (hG : ∀ i, a + i < n → G i = eXr w (a + i)) : ∀ k, k < n → upE (clE (upE (xE w fs) a o) a G) 0 (.inr (5, fs')) k = xE w fs' k := by
  intro k hk
  by_cases h : k = 0
  · subst h; rw [upE_s]; rfl
  · rw [upE_o h, xE_p h]
    by_cases h2 : k < a
    · rw [clE_lo h2, upE_o (by omega), xE_p h]
    · obtain ⟨i, rfl⟩ : ∃ i, k = a + i := ⟨k - a, by omega⟩
      rw [clE_hi]; exact hG i hk
/-- the sheets' array while it is filled -/
def sE (w : WW) (fs : List Value) (i : Nat) : Nat → va_E := upE (xE w fs) 60 (.inl (wC w 4, 4, .inr (.inr (.inr (.inr (fun j => if j < i then some (wl w + 61 + 2 * j) else none))))))
theorem sE_s {w : WW} {fs : List Value} {i : Nat} {o : va_E} (hi : i < 4) : ∀ k, k < 61 + 2 * i + 2 → upE (clE (upE (sE w fs i) (61 + 2 * i) o) (61 + 2 * i) (eX3 w (61 + 2 * i))) 60 (.inl (wC w 4, 4, .inr (.inr (.inr (.inr (va_up (fun j => if j < i then some (wl w + 61 + 2 * j) else none) i (some (wl w + (61 + 2 * i))))))))) k = sE w fs (i + 1) k := by
  intro k hk
  by_cases h : k = 60
  · subst h
    unfold sE
    rw [upE_s, upE_s]
    have : va_up (fun j => if j < i then some (wl w + 61 + 2 * j) else none) i (some (wl w + (61 + 2 * i))) = fun j => if j < i + 1 then some (wl w + 61 + 2 * j) else none := by
      funext j
      simp only [va_up]
      by_cases e : j = i
      · subst e; rw [if_pos rfl, if_pos (by omega), Nat.add_assoc]
      · rw [if_neg e]
        by_cases e2 : j < i
        · rw [if_pos e2, if_pos (by omega)]
        · rw [if_neg e2, if_neg (by omega)]
    rw [this]
  · rw [upE_o h]
    unfold sE
    rw [upE_o h]
    by_cases h2 : k < 61 + 2 * i
    · rw [clE_lo h2, upE_o (by omega), upE_o h]
    · obtain ⟨d, rfl⟩ : ∃ d, k = 61 + 2 * i + d := ⟨k - (61 + 2 * i), by omega⟩
      rw [clE_hi, xE_p (by omega)]
      unfold eXr
      rw [if_neg (by omega), if_neg (by omega), if_neg (by omega), if_neg (by omega), if_neg (by omega), if_pos (by omega), show (61 + 2 * i + d - 61) / 2 = i by omega, show (61 + 2 * i + d - 61) % 2 = d by omega]
theorem gtI_X0 : ∀ x ∈ [Cond.methodLink RX5 9 yX0_init, .instanceMethod yX0_init, .initialized yX0_init.cls, .code yX0_init MiX0.1 MiX0.2.1 MiX0.2.2.1], x ∈ Gt := by decide +kernel
theorem gtI_X4 : ∀ x ∈ [Cond.instanceMethod yX4_init, .initialized yX4_init.cls, .code yX4_init MiX4.1 MiX4.2.1 MiX4.2.2.1], x ∈ Gt := by decide +kernel
theorem gtI_X3 : ∀ x ∈ [Cond.instanceMethod yX3_init, .initialized yX3_init.cls, .code yX3_init MiX3.1 MiX3.2.1 MiX3.2.2.1], x ∈ Gt := by decide +kernel
theorem lX5_sheets {w : WW} {Z : ZT} (hQ : GZ w MiX5 XI Z (MW w 69 (sE w [.ref (wl w + 1), .ref (wl w + 20), .ref (wl w + 39), .int 0, .ref (wl w + 58), .ref (wl w + 60), .null] 4)) (60 + 2 * 4) (457 + 43 * 4) 87 [some (.ref (wl w + 0)), some (.int (nI 4))] []) :
    ∀ (m i : Nat), i + m = 4 → GZ w MiX5 XI Z (MW w (61 + 2 * i) (sE w [.ref (wl w + 1), .ref (wl w + 20), .ref (wl w + 39), .int 0, .ref (wl w + 58), .ref (wl w + 60), .null] i)) (60 + 2 * i) (457 + 43 * i) 63 [some (.ref (wl w + 0)), some (.int (nI i))] [] := by
  intro m
  induction m with
  | zero =>
    intro i hi
    have e : i = 4 := by omega
    subst e
    refine z_iload (by decide +kernel : decode MiX5.1 63 = .ok (.iload_n 1, 1)) rfl ?_
    refine z_iconst (by decide +kernel : decode MiX5.1 64 = .ok (.iconst 4, 1)) ?_
    exact z_icmp_ge (by decide +kernel : decode MiX5.1 65 = .ok (.if_icmp .ge 22, 3)) (t := 87) (by decide) (fun _ => hQ) (fun z => absurd (by decide) z)
  | succ m ih =>
    intro i hi
    have hN : (nI i).toNatClampNeg = i := NN_nI (by omega)
    have hlt : ¬ nI i ≥ Int32.ofInt 4 := nI_ge (a := i) (b := 4) (by omega) (by decide)
    refine z_iload (by decide +kernel : decode MiX5.1 63 = .ok (.iload_n 1, 1)) rfl ?_
    refine z_iconst (by decide +kernel : decode MiX5.1 64 = .ok (.iconst 4, 1)) ?_
    refine z_icmp_ge (by decide +kernel : decode MiX5.1 65 = .ok (.if_icmp .ge 22, 3)) (t := 87) (by decide) (fun z => absurd z hlt) (fun _ => ?_)
    refine z_aload (by decide +kernel : decode MiX5.1 68 = .ok (.aload_n 0, 1)) rfl ?_
    refine z_getf (ci := 5) (j := 5) (k0 := 0) (fs := [.ref (wl w + 1), .ref (wl w + 20), .ref (wl w + 39), .int 0, .ref (wl w + 58), .ref (wl w + 60), .null]) (v := .ref (wl w + 60)) (by decide) (by omega) (upE_o (by decide)) (by decide) (by decide +kernel : decode MiX5.1 69 = .ok (.getfield 35, 3)) (by decide +kernel) rfl ?_
    refine z_iload (by decide +kernel : decode MiX5.1 72 = .ok (.iload_n 1, 1)) rfl ?_
    refine z_new (ci := 3) (fs := [.null, .int 0, .int 0]) (by decide) (by decide +kernel : decode MiX5.1 73 = .ok (.new 33, 3)) (by decide +kernel) (by decide +kernel) (by decide +kernel) (by decide) (by show 60 + 2 * i + 1 ≤ 69; omega) (by show 457 + 43 * i + 3 ≤ 636; omega) ?_
    refine z_dup rfl (by decide +kernel : decode MiX5.1 76 = .ok (.dup, 1)) ?_
    refine z_initN (idx := 39) (host := "ChairDance") (tiX3 w (61 + 2 * i)) upE_s rfl rfl (fun U h => h.2.2.2.2) gtI_X3 (by decide +kernel) (by decide) (by decide) (by show 60 + 2 * i + 1 + 1 ≤ 69; omega) (by show 457 + 43 * i + 3 + 40 ≤ 636; omega) (Nat.le_of_ble_eq_true rfl) (by decide +kernel : decode MiX5.1 77 = .ok (.invokespecial 39, 3)) ?_
    refine z_ast (ci := 3) (t := 4) (k0 := 60) (k1 := 61 + 2 * i) (by decide) (by omega) (by omega) ((clE_lo (by omega)).trans ((upE_o (by omega)).trans upE_s)) (show _ = eX3 w (61 + 2 * i) 0 from clE_hi (i := 0)) rfl (vi_nI (by omega)) (by decide +kernel : decode MiX5.1 80 = .ok (.aastore, 1)) ?_
    refine z_iinc (by decide +kernel : decode MiX5.1 81 = .ok (.iinc 1 1, 3)) rfl ?_
    refine z_goto (by decide +kernel : decode MiX5.1 84 = .ok (.goto (-21), 3)) (t := 63) (by decide) ?_
    rw [hN]
    refine z_conv (fun k hk => Ev.eq (sE_s (by omega) k hk)) ?_
    have := ih (i + 1) (by omega)
    rw [show nI (i + 1) = nI i + Int32.ofInt 1 from (nI_1 i).symm, show 61 + 2 * (i + 1) = 61 + 2 * i + 2 by omega, show 60 + 2 * (i + 1) = 60 + 2 * i + 1 + 1 by omega, show 457 + 43 * (i + 1) = 457 + 43 * i + 3 + 40 by omega] at this
    exact this
theorem tiX5 (w : WW) : CI w yX5_init MiX5 0 70 (.inr (5, [.null, .null, .null, .int 0, .null, .null, .null])) (fun _ => xE w [.ref (wl w + 1), .ref (wl w + 20), .ref (wl w + 39), .int 0, .ref (wl w + 58), .ref (wl w + 60), .ref (wl w + 69)]) := by
  refine CI_of (by decide) rfl rfl rfl (by decide) (fun E hE => ?_)
  refine z_conv (E' := xE w [.null, .null, .null, .int 0, .null, .null, .null]) (fun k hk => Ev.eq ?_) ?_
  · have : k = 0 := by omega
    subst this; exact hE
  refine z_aload (by decide +kernel : decode MiX5.1 0 = .ok (.aload_n 0, 1)) rfl ?_
  refine z_oinit (by decide +kernel) gt_oi gt_oc (by decide +kernel : decode MiX5.1 1 = .ok (.invokespecial 1, 3)) (by decide) (by decide) ?_
  refine z_aload (by decide +kernel : decode MiX5.1 4 = .ok (.aload_n 0, 1)) rfl ?_
  refine z_new (ci := 0) (fs := [.null, .null, .int 0, .int 0, .int 0]) (by decide) (by decide +kernel : decode MiX5.1 5 = .ok (.new 7, 3)) (by decide +kernel) (by decide +kernel) (by decide +kernel) (by decide) (by decide) (by decide) ?_
  refine z_dup rfl (by decide +kernel : decode MiX5.1 8 = .ok (.dup, 1)) ?_
  refine z_init (idx := 9) (tiX0 w 1) upE_s rfl rfl gtI_X0 (by decide +kernel) (by decide) (by decide) (by decide) (by decide) (Nat.le_of_ble_eq_true rfl) (by decide +kernel : decode MiX5.1 9 = .ok (.invokespecial 9, 3)) ?_
  refine z_putF (ci := 5) (j := 0) (k0 := 0) (fs := [.null, .null, .null, .int 0, .null, .null, .null]) (by decide) (by decide) ((clE_lo (by decide)).trans ((upE_o (by decide)).trans xE_0)) (by decide) (by decide +kernel : decode MiX5.1 12 = .ok (.putfield 10, 3)) (by decide +kernel) rfl rfl rfl rfl rfl (by simp) (fun _ _ _ h => h.1) ?_
  refine z_conv (E' := xE w [.ref (wl w + 1), .null, .null, .int 0, .null, .null, .null]) (fun k hk => Ev.eq (stg (by decide) (fun i hi => ?_) k hk)) ?_
  · unfold eXr
    rw [if_pos (by omega), show 1 + i - 1 = i by omega]
  refine z_aload (by decide +kernel : decode MiX5.1 15 = .ok (.aload_n 0, 1)) rfl ?_
  refine z_new (ci := 0) (fs := [.null, .null, .int 0, .int 0, .int 0]) (by decide) (by decide +kernel : decode MiX5.1 16 = .ok (.new 7, 3)) (by decide +kernel) (by decide +kernel) (by decide +kernel) (by decide) (by decide) (by decide) ?_
  refine z_dup rfl (by decide +kernel : decode MiX5.1 19 = .ok (.dup, 1)) ?_
  refine z_init (idx := 9) (tiX0 w 20) upE_s rfl rfl gtI_X0 (by decide +kernel) (by decide) (by decide) (by decide) (by decide) (Nat.le_of_ble_eq_true rfl) (by decide +kernel : decode MiX5.1 20 = .ok (.invokespecial 9, 3)) ?_
  refine z_putF (ci := 5) (j := 1) (k0 := 0) (fs := [.ref (wl w + 1), .null, .null, .int 0, .null, .null, .null]) (by decide) (by decide) ((clE_lo (by decide)).trans ((upE_o (by decide)).trans xE_0)) (by decide) (by decide +kernel : decode MiX5.1 23 = .ok (.putfield 16, 3)) (by decide +kernel) rfl rfl rfl rfl rfl (by simp) (fun _ _ _ h => h.1) ?_
  refine z_conv (E' := xE w [.ref (wl w + 1), .ref (wl w + 20), .null, .int 0, .null, .null, .null]) (fun k hk => Ev.eq (stg (by decide) (fun i hi => ?_) k hk)) ?_
  · unfold eXr
    rw [if_neg (by omega), if_pos (by omega), show 20 + i - 20 = i by omega]
  refine z_aload (by decide +kernel : decode MiX5.1 26 = .ok (.aload_n 0, 1)) rfl ?_
  refine z_new (ci := 0) (fs := [.null, .null, .int 0, .int 0, .int 0]) (by decide) (by decide +kernel : decode MiX5.1 27 = .ok (.new 7, 3)) (by decide +kernel) (by decide +kernel) (by decide +kernel) (by decide) (by decide) (by decide) ?_
  refine z_dup rfl (by decide +kernel : decode MiX5.1 30 = .ok (.dup, 1)) ?_
  refine z_init (idx := 9) (tiX0 w 39) upE_s rfl rfl gtI_X0 (by decide +kernel) (by decide) (by decide) (by decide) (by decide) (Nat.le_of_ble_eq_true rfl) (by decide +kernel : decode MiX5.1 31 = .ok (.invokespecial 9, 3)) ?_
  refine z_putF (ci := 5) (j := 2) (k0 := 0) (fs := [.ref (wl w + 1), .ref (wl w + 20), .null, .int 0, .null, .null, .null]) (by decide) (by decide) ((clE_lo (by decide)).trans ((upE_o (by decide)).trans xE_0)) (by decide) (by decide +kernel : decode MiX5.1 34 = .ok (.putfield 19, 3)) (by decide +kernel) rfl rfl rfl rfl rfl (by simp) (fun _ _ _ h => h.1) ?_
  refine z_conv (E' := xE w [.ref (wl w + 1), .ref (wl w + 20), .ref (wl w + 39), .int 0, .null, .null, .null]) (fun k hk => Ev.eq (stg (by decide) (fun i hi => ?_) k hk)) ?_
  · unfold eXr
    rw [if_neg (by omega), if_neg (by omega), if_pos (by omega), show 39 + i - 39 = i by omega]
  refine z_aload (by decide +kernel : decode MiX5.1 37 = .ok (.aload_n 0, 1)) rfl ?_
  refine z_iconst (by decide +kernel : decode MiX5.1 38 = .ok (.iconst 0, 1)) ?_
  refine z_put (ci := 5) (j := 3) (k0 := 0) (fs := [.ref (wl w + 1), .ref (wl w + 20), .ref (wl w + 39), .int 0, .null, .null, .null]) (by decide) (by decide) xE_0 (by decide) (by decide +kernel : decode MiX5.1 39 = .ok (.putfield 22, 3)) (by decide +kernel) rfl rfl rfl rfl (by simp) ?_
  refine z_conv (E' := xE w [.ref (wl w + 1), .ref (wl w + 20), .ref (wl w + 39), .int 0, .null, .null, .null]) (fun k hk => Ev.eq ?_) ?_
  · by_cases h : k = 0
    · subst h; rw [upE_s]; rfl
    · rw [upE_o h]
  refine z_aload (by decide +kernel : decode MiX5.1 42 = .ok (.aload_n 0, 1)) rfl ?_
  refine z_new (ci := 4) (fs := [.null, .int 0, .int 0, .int 0, .int 0, .int 0]) (by decide) (by decide +kernel : decode MiX5.1 43 = .ok (.new 26, 3)) (by decide +kernel) (by decide +kernel) (by decide +kernel) (by decide) (by decide) (by decide) ?_
  refine z_dup rfl (by decide +kernel : decode MiX5.1 46 = .ok (.dup, 1)) ?_
  refine z_initN (idx := 28) (host := "ChairDance") (tiX4 w 58) upE_s rfl rfl (fun U h => h.2.2.2.1) gtI_X4 (by decide +kernel) (by decide) (by decide) (by decide) (by decide) (Nat.le_of_ble_eq_true rfl) (by decide +kernel : decode MiX5.1 47 = .ok (.invokespecial 28, 3)) ?_
  refine z_putF (ci := 5) (j := 4) (k0 := 0) (fs := [.ref (wl w + 1), .ref (wl w + 20), .ref (wl w + 39), .int 0, .null, .null, .null]) (by decide) (by decide) ((clE_lo (by decide)).trans ((upE_o (by decide)).trans xE_0)) (by decide) (by decide +kernel : decode MiX5.1 50 = .ok (.putfield 29, 3)) (by decide +kernel) rfl rfl rfl rfl rfl (by simp) (fun _ _ _ h => h.1) ?_
  refine z_conv (E' := xE w [.ref (wl w + 1), .ref (wl w + 20), .ref (wl w + 39), .int 0, .ref (wl w + 58), .null, .null]) (fun k hk => Ev.eq (stg (by decide) (fun i hi => ?_) k hk)) ?_
  · unfold eXr
    rw [if_neg (by omega), if_neg (by omega), if_neg (by omega), if_pos (by omega), show 58 + i - 58 = i by omega]
  refine z_aload (by decide +kernel : decode MiX5.1 53 = .ok (.aload_n 0, 1)) rfl ?_
  refine z_iconst (by decide +kernel : decode MiX5.1 54 = .ok (.iconst 4, 1)) ?_
  refine z_anew (t := 4) (N := 4) (C0 := "ChairDance$Sheet") (by decide +kernel : decode MiX5.1 55 = .ok (.anewarray 33, 3)) (by decide +kernel) (fun U h => h.1.2.2) rfl (by decide) (by decide) (by decide) (by decide) (by decide) ?_
  refine z_putF (ci := 5) (j := 5) (k0 := 0) (fs := [.ref (wl w + 1), .ref (wl w + 20), .ref (wl w + 39), .int 0, .ref (wl w + 58), .null, .null]) (by decide) (by decide) ((upE_o (by decide)).trans xE_0) (by decide) (by decide +kernel : decode MiX5.1 58 = .ok (.putfield 35, 3)) (by decide +kernel) rfl rfl rfl rfl rfl (by simp) (fun _ _ _ h => h.1) ?_
  refine z_iconst (by decide +kernel : decode MiX5.1 61 = .ok (.iconst 0, 1)) ?_
  refine z_istore (by decide +kernel : decode MiX5.1 62 = .ok (.istore_n 1, 1)) (Nat.le_of_ble_eq_true rfl) ?_
  refine z_conv (E' := sE w [.ref (wl w + 1), .ref (wl w + 20), .ref (wl w + 39), .int 0, .ref (wl w + 58), .ref (wl w + 60), .null] 0) (fun k hk => Ev.eq ?_) ?_
  · unfold sE
    by_cases h : k = 0
    · subst h; rw [upE_s, upE_o (by decide)]; rfl
    · rw [upE_o h]
      by_cases h2 : k = 60
      · subst h2; rw [upE_s, upE_s]
        have : (fun _ : Nat => (none : Option Nat)) = fun j => if j < 0 then some (wl w + 61 + 2 * j) else none := by
          funext j; rw [if_neg (Nat.not_lt_zero j)]
        rw [this]
      · rw [upE_o h2, upE_o h2, xE_p h, xE_p h]
  refine lX5_sheets ?_ 4 0 rfl
  refine z_aload (by decide +kernel : decode MiX5.1 87 = .ok (.aload_n 0, 1)) rfl ?_
  refine z_bipush (by decide +kernel : decode MiX5.1 88 = .ok (.bipush 7, 2)) ?_
  refine z_newa (t := 0) (N := 7) (a0 := (7, .inl (fun _ => 0))) (by decide +kernel : decode MiX5.1 90 = .ok (.newarray .int, 2)) rfl ra_int gt_ai (by decide) (by decide) (by decide) rfl (by decide) (by decide) ?_
  refine z_putF (ci := 5) (j := 6) (k0 := 0) (fs := [.ref (wl w + 1), .ref (wl w + 20), .ref (wl w + 39), .int 0, .ref (wl w + 58), .ref (wl w + 60), .null]) (by decide) (by decide) ((upE_o (by decide)).trans (upE_o (by decide))) (by decide) (by decide +kernel : decode MiX5.1 92 = .ok (.putfield 40, 3)) (by decide +kernel) rfl rfl rfl rfl rfl (by simp) (fun _ _ _ h => h.1) ?_
  refine z_conv (E' := xE w [.ref (wl w + 1), .ref (wl w + 20), .ref (wl w + 39), .int 0, .ref (wl w + 58), .ref (wl w + 60), .ref (wl w + 69)]) (fun k hk => ?_) (z_ret (by decide +kernel : decode MiX5.1 95 = .ok (.return_, 1)))
  by_cases h : k = 0
  · subst h; rw [upE_s]; exact Ev.rf _
  · rw [upE_o h, xE_p h]
    by_cases h2 : k = 69
    · subst h2; rw [upE_s]; exact Ev.rf _
    · rw [upE_o h2]
      unfold sE
      by_cases h3 : k = 60
      · subst h3; rw [upE_s]
        exact Ev_q (fun j hj => if_pos hj)
      · rw [upE_o h3, xE_p h]; exact Ev.rf _
