/-! ===== the law's head: both objects are made ===== -/
theorem gtL_X5 : ∀ x ∈ [Cond.methodLink ML.2.2.2.1 9 yX5_init, .instanceMethod yX5_init, .initialized yX5_init.cls, .code yX5_init MiX5.1 MiX5.2.1 MiX5.2.2.1], x ∈ Gt := by decide +kernel
theorem gtL_X6 : ∀ x ∈ [Cond.methodLink ML.2.2.2.1 12 yX6_init, .instanceMethod yX6_init, .initialized yX6_init.cls, .code yX6_init MiX6.1 MiX6.2.1 MiX6.2.2.1], x ∈ Gt := by decide +kernel
theorem law_head {w : WW} {b n : Nat} {xs : Nat → Int32} {o : va_E} (hw : wOk w) (hn : n ≤ 3072) : GZ w ML (XL w b n xs) (ZL b) (MW w 0 (fun _ => o)) 0 0 0 [some (.ref b), none, none, none] [] := by
  refine z_new (ci := 5) (n := 0) (fs := [.null, .null, .null, .int 0, .null, .null, .null]) (by decide) dL_0 (by decide +kernel) (by decide +kernel) (by decide +kernel) (by decide) (by decide) (by decide) ?_
  refine z_dup rfl dL_3 ?_
  refine z_init (idx := 9) (k0 := 0) (tiX5 w) upE_s rfl rfl gtL_X5 (by decide +kernel) (by decide) (by decide) (by decide) (by decide) (Nat.le_of_ble_eq_true rfl) dL_4 ?_
  refine z_astore (i := 1) dL_7 (Nat.le_of_ble_eq_true rfl) ?_
  refine z_new (ci := 6) (n := 70) (fs := [.null, .int 0, .null, .null, .null, .int 0, .int 0, .int 0, .int 0, .long 0, .int 0, .int 0, .null, .null, .null, .null, .null, .null, .int 0]) (by decide) dL_8 (by decide +kernel) (by decide +kernel) (by decide +kernel) (by decide) (by decide) (by decide) ?_
  refine z_dup rfl dL_11 ?_
  refine z_init (idx := 12) (k0 := 70) (tiX6 w 70) upE_s rfl rfl gtL_X6 (by decide +kernel) (by decide) (by decide) (by decide) (by decide) (Nat.le_of_ble_eq_true rfl) dL_12 ?_
  refine z_astore (i := 2) dL_15 (Nat.le_of_ble_eq_true rfl) ?_
  refine z_iconst dL_16 ?_
  refine z_istore (i := 3) dL_17 (Nat.le_of_ble_eq_true rfl) ?_
  refine z_toP (P' := WO w u0z) (fun H h => world_z (o := .inr (6, [.null, .int 0, .null, .null, .null, .int 0, .int 0, .int 0, .int 0, .long 0, .int 0, .int 0, .null, .null, .null, .null, .null, .null, .int 0])) h) ?_
  exact law_loop hw hn (by decide) (by decide) (n + 1) 0 (Nat.zero_le n) (by omega) u0z zero_Rl
