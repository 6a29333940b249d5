/-! ===== the law's cases ===== -/
theorem law_40 {w : WW} {b n cells slots i : Nat} {xs : Nat → Int32} (hw : wOk w) (hn : n ≤ 3072) (hi : i + 6 ≤ n) (hcs : cells ≤ 600000) (hss : slots ≤ 7302250) {u : MM} (hu : Rl u u) (kk : ∀ v, Rl v v → GZ w ML (XL w b n xs) (ZL b) (WO w v) cells slots 1466 (LLw w b i) []) : GZ w ML (XL w b n xs) (ZL b) (WO w u) cells slots 1443 (LLw w b i) [] := by
  obtain ⟨h5, h6, he, hr⟩ := two (p5 := pX5_status (xs (i + 1))) (p6 := pX6_status (xs (i + 1))) (r5 := rX5_status (xs (i + 1))) (r6 := rX6_status (xs (i + 1))) (m5 := mX5_status (xs (i + 1))) (m6 := mX6_status (xs (i + 1))) (fun u v h => go_status (xs (i + 1)) h) hu
  refine z_aload (i := 1) (a := xA w) dL_1443 rfl ?_
  refine z_arg (j := 1) dL_1444 dL_1445 dL_1446 dL_1447 dL_1448 rfl (by decide) hi hn ?_
  refine z_call1 (M := ML) (idx := 181) (ci := 5) (k := 1) (st := []) (ctX5_status w) (by decide +kernel) (by decide +kernel) (by decide) (by decide) rfl (prX5_status w) (fun s a m h => h.2.2.2.2.2.2) hcs hss dL_1449 (as := [.ref (xA w), .int (xs (i + 1))]) (u1 := (mX5_status (xs (i + 1)) u)) (v := .int (rX5_status (xs (i + 1)) u)) (Nat.le_of_ble_eq_true rfl) ⟨rfl, h5⟩ rfl ?_
  refine z_aload (i := 2) (a := mA w) dL_1452 rfl ?_
  refine z_arg (j := 1) dL_1453 dL_1454 dL_1455 dL_1456 dL_1457 rfl (by decide) hi hn ?_
  refine z_call1 (M := ML) (idx := 184) (ci := 6) (k := 1) (st := [.int (rX5_status (xs (i + 1)) u)]) (ctX6_status w) (by decide +kernel) (by decide +kernel) (by decide) (by decide) rfl (prX6_status w) (fun s a m h => h.2.2.2.2.2.2) hcs hss dL_1458 (as := [.ref (mA w), .int (xs (i + 1))]) (u1 := (mX6_status (xs (i + 1)) (mX5_status (xs (i + 1)) u))) (v := .int (rX6_status (xs (i + 1)) (mX5_status (xs (i + 1)) u))) (Nat.le_of_ble_eq_true rfl) ⟨rfl, h6⟩ rfl ?_
  refine z_icmp_eq dL_1461 (t := 1466) (by decide) he ?_
  exact kk _ hr
