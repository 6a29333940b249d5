/-! ===== the law's cases ===== -/
theorem law_8 {w : WW} {b n cells slots i : Nat} {xs : Nat → Int32} (hw : wOk w) (hn : n ≤ 3072) (hi : i + 6 ≤ n) (hcs : cells ≤ 600000) (hss : slots ≤ 7302250) {u : MM} (hu : Rl u u) (kk : ∀ v, Rl v v → GZ w ML (XL w b n xs) (ZL b) (WO w v) cells slots 1466 (LLw w b i) []) : GZ w ML (XL w b n xs) (ZL b) (WO w u) cells slots 496 (LLw w b i) [] := by
  obtain ⟨h5, h6, he, hr⟩ := two (p5 := pX5_far (xs (i + 1)) (xs (i + 2))) (p6 := pX6_far (xs (i + 1)) (xs (i + 2))) (r5 := rX5_far (xs (i + 1)) (xs (i + 2))) (r6 := rX6_far (xs (i + 1)) (xs (i + 2))) (m5 := mX5_far (xs (i + 1)) (xs (i + 2))) (m6 := mX6_far (xs (i + 1)) (xs (i + 2))) (fun u v h => go_far (xs (i + 1)) (xs (i + 2)) h) hu
  refine z_aload (i := 1) (a := xA w) dL_496 rfl ?_
  refine z_arg (j := 1) dL_497 dL_498 dL_499 dL_500 dL_501 rfl (by decide) hi hn ?_
  refine z_arg (j := 2) dL_502 dL_503 dL_504 dL_505 dL_506 rfl (by decide) hi hn ?_
  refine z_call1 (M := ML) (idx := 47) (ci := 5) (k := 2) (st := []) (ctX5_far w) (by decide +kernel) (by decide +kernel) (by decide) (by decide) rfl (prX5_far w) (fun s a m h => h.2.2.2.2.2.2) hcs hss dL_507 (as := [.ref (xA w), .int (xs (i + 1)), .int (xs (i + 2))]) (u1 := (mX5_far (xs (i + 1)) (xs (i + 2)) u)) (v := .int (rX5_far (xs (i + 1)) (xs (i + 2)) u)) (Nat.le_of_ble_eq_true rfl) ⟨rfl, hw, h5⟩ rfl ?_
  refine z_aload (i := 2) (a := mA w) dL_510 rfl ?_
  refine z_arg (j := 1) dL_511 dL_512 dL_513 dL_514 dL_515 rfl (by decide) hi hn ?_
  refine z_arg (j := 2) dL_516 dL_517 dL_518 dL_519 dL_520 rfl (by decide) hi hn ?_
  refine z_call1 (M := ML) (idx := 50) (ci := 6) (k := 2) (st := [.int (rX5_far (xs (i + 1)) (xs (i + 2)) u)]) (ctX6_far w) (by decide +kernel) (by decide +kernel) (by decide) (by decide) rfl (prX6_far w) (fun s a m h => h.2.2.2.2.2.2) hcs hss dL_521 (as := [.ref (mA w), .int (xs (i + 1)), .int (xs (i + 2))]) (u1 := (mX6_far (xs (i + 1)) (xs (i + 2)) (mX5_far (xs (i + 1)) (xs (i + 2)) u))) (v := .int (rX6_far (xs (i + 1)) (xs (i + 2)) (mX5_far (xs (i + 1)) (xs (i + 2)) u))) (Nat.le_of_ble_eq_true rfl) ⟨rfl, h6⟩ rfl ?_
  refine z_icmp_eq dL_524 (t := 1466) (by decide) he ?_
  exact kk _ hr
theorem law_9 {w : WW} {b n cells slots i : Nat} {xs : Nat → Int32} (hw : wOk w) (hn : n ≤ 3072) (hi : i + 6 ≤ n) (hcs : cells ≤ 600000) (hss : slots ≤ 7302250) {u : MM} (hu : Rl u u) (kk : ∀ v, Rl v v → GZ w ML (XL w b n xs) (ZL b) (WO w v) cells slots 1466 (LLw w b i) []) : GZ w ML (XL w b n xs) (ZL b) (WO w u) cells slots 529 (LLw w b i) [] := by
  obtain ⟨h5, h6, he, hr⟩ := two (p5 := pX5_on (xs (i + 1))) (p6 := pX6_on (xs (i + 1))) (r5 := rX5_on (xs (i + 1))) (r6 := rX6_on (xs (i + 1))) (m5 := mX5_on (xs (i + 1))) (m6 := mX6_on (xs (i + 1))) (fun u v h => go_on (xs (i + 1)) h) hu
  refine z_aload (i := 1) (a := xA w) dL_529 rfl ?_
  refine z_arg (j := 1) dL_530 dL_531 dL_532 dL_533 dL_534 rfl (by decide) hi hn ?_
  refine z_call1 (M := ML) (idx := 51) (ci := 5) (k := 1) (st := []) (ctX5_on w) (by decide +kernel) (by decide +kernel) (by decide) (by decide) rfl (prX5_on w) (fun s a m h => h.2.2.2.2.2.2) hcs hss dL_535 (as := [.ref (xA w), .int (xs (i + 1))]) (u1 := (mX5_on (xs (i + 1)) u)) (v := .int (rX5_on (xs (i + 1)) u)) (Nat.le_of_ble_eq_true rfl) ⟨rfl, h5⟩ rfl ?_
  refine z_aload (i := 2) (a := mA w) dL_538 rfl ?_
  refine z_arg (j := 1) dL_539 dL_540 dL_541 dL_542 dL_543 rfl (by decide) hi hn ?_
  refine z_call1 (M := ML) (idx := 55) (ci := 6) (k := 1) (st := [.int (rX5_on (xs (i + 1)) u)]) (ctX6_on w) (by decide +kernel) (by decide +kernel) (by decide) (by decide) rfl (prX6_on w) (fun s a m h => h.2.2.2.2.2.2) hcs hss dL_544 (as := [.ref (mA w), .int (xs (i + 1))]) (u1 := (mX6_on (xs (i + 1)) (mX5_on (xs (i + 1)) u))) (v := .int (rX6_on (xs (i + 1)) (mX5_on (xs (i + 1)) u))) (Nat.le_of_ble_eq_true rfl) ⟨rfl, h6⟩ rfl ?_
  refine z_icmp_eq dL_547 (t := 1466) (by decide) he ?_
  exact kk _ hr
theorem law_10 {w : WW} {b n cells slots i : Nat} {xs : Nat → Int32} (hw : wOk w) (hn : n ≤ 3072) (hi : i + 6 ≤ n) (hcs : cells ≤ 600000) (hss : slots ≤ 7302250) {u : MM} (hu : Rl u u) (kk : ∀ v, Rl v v → GZ w ML (XL w b n xs) (ZL b) (WO w v) cells slots 1466 (LLw w b i) []) : GZ w ML (XL w b n xs) (ZL b) (WO w u) cells slots 552 (LLw w b i) [] := by
  obtain ⟨h5, h6, he, hr⟩ := two (p5 := pX5_cough (xs (i + 1))) (p6 := pX6_cough (xs (i + 1))) (r5 := rX5_cough (xs (i + 1))) (r6 := rX6_cough (xs (i + 1))) (m5 := mX5_cough (xs (i + 1))) (m6 := mX6_cough (xs (i + 1))) (fun u v h => go_cough (xs (i + 1)) h) hu
  refine z_aload (i := 1) (a := xA w) dL_552 rfl ?_
  refine z_arg (j := 1) dL_553 dL_554 dL_555 dL_556 dL_557 rfl (by decide) hi hn ?_
  refine z_call1 (M := ML) (idx := 56) (ci := 5) (k := 1) (st := []) (ctX5_cough w) (by decide +kernel) (by decide +kernel) (by decide) (by decide) rfl (prX5_cough w) (fun s a m h => h.2.2.2.2.2.2) hcs hss dL_558 (as := [.ref (xA w), .int (xs (i + 1))]) (u1 := (mX5_cough (xs (i + 1)) u)) (v := .int (rX5_cough (xs (i + 1)) u)) (Nat.le_of_ble_eq_true rfl) ⟨rfl, hw, h5⟩ rfl ?_
  refine z_aload (i := 2) (a := mA w) dL_561 rfl ?_
  refine z_arg (j := 1) dL_562 dL_563 dL_564 dL_565 dL_566 rfl (by decide) hi hn ?_
  refine z_call1 (M := ML) (idx := 59) (ci := 6) (k := 1) (st := [.int (rX5_cough (xs (i + 1)) u)]) (ctX6_cough w) (by decide +kernel) (by decide +kernel) (by decide) (by decide) rfl (prX6_cough w) (fun s a m h => h.2.2.2.2.2.2) hcs hss dL_567 (as := [.ref (mA w), .int (xs (i + 1))]) (u1 := (mX6_cough (xs (i + 1)) (mX5_cough (xs (i + 1)) u))) (v := .int (rX6_cough (xs (i + 1)) (mX5_cough (xs (i + 1)) u))) (Nat.le_of_ble_eq_true rfl) ⟨rfl, h6⟩ rfl ?_
  refine z_icmp_eq dL_570 (t := 1466) (by decide) he ?_
  exact kk _ hr
theorem law_11 {w : WW} {b n cells slots i : Nat} {xs : Nat → Int32} (hw : wOk w) (hn : n ≤ 3072) (hi : i + 6 ≤ n) (hcs : cells ≤ 600000) (hss : slots ≤ 7302250) {u : MM} (hu : Rl u u) (kk : ∀ v, Rl v v → GZ w ML (XL w b n xs) (ZL b) (WO w v) cells slots 1466 (LLw w b i) []) : GZ w ML (XL w b n xs) (ZL b) (WO w u) cells slots 575 (LLw w b i) [] := by
  obtain ⟨h5, h6, he, hr⟩ := two (p5 := pX5_seconds (xs (i + 1))) (p6 := pX6_seconds (xs (i + 1))) (r5 := rX5_seconds (xs (i + 1))) (r6 := rX6_seconds (xs (i + 1))) (m5 := mX5_seconds (xs (i + 1))) (m6 := mX6_seconds (xs (i + 1))) (fun u v h => go_seconds (xs (i + 1)) h) hu
  refine z_aload (i := 1) (a := xA w) dL_575 rfl ?_
  refine z_arg (j := 1) dL_576 dL_577 dL_578 dL_579 dL_580 rfl (by decide) hi hn ?_
  refine z_call1 (M := ML) (idx := 60) (ci := 5) (k := 1) (st := []) (ctX5_seconds w) (by decide +kernel) (by decide +kernel) (by decide) (by decide) rfl (prX5_seconds w) (fun s a m h => h.2.2.2.2.2.2) hcs hss dL_581 (as := [.ref (xA w), .int (xs (i + 1))]) (u1 := (mX5_seconds (xs (i + 1)) u)) (v := .int (rX5_seconds (xs (i + 1)) u)) (Nat.le_of_ble_eq_true rfl) ⟨rfl, hw, h5⟩ rfl ?_
  refine z_aload (i := 2) (a := mA w) dL_584 rfl ?_
  refine z_arg (j := 1) dL_585 dL_586 dL_587 dL_588 dL_589 rfl (by decide) hi hn ?_
  refine z_call1 (M := ML) (idx := 63) (ci := 6) (k := 1) (st := [.int (rX5_seconds (xs (i + 1)) u)]) (ctX6_seconds w) (by decide +kernel) (by decide +kernel) (by decide) (by decide) rfl (prX6_seconds w) (fun s a m h => h.2.2.2.2.2.2) hcs hss dL_590 (as := [.ref (mA w), .int (xs (i + 1))]) (u1 := (mX6_seconds (xs (i + 1)) (mX5_seconds (xs (i + 1)) u))) (v := .int (rX6_seconds (xs (i + 1)) (mX5_seconds (xs (i + 1)) u))) (Nat.le_of_ble_eq_true rfl) ⟨rfl, h6⟩ rfl ?_
  refine z_icmp_eq dL_593 (t := 1466) (by decide) he ?_
  exact kk _ hr
theorem law_12 {w : WW} {b n cells slots i : Nat} {xs : Nat → Int32} (hw : wOk w) (hn : n ≤ 3072) (hi : i + 6 ≤ n) (hcs : cells ≤ 600000) (hss : slots ≤ 7302250) {u : MM} (hu : Rl u u) (kk : ∀ v, Rl v v → GZ w ML (XL w b n xs) (ZL b) (WO w v) cells slots 1466 (LLw w b i) []) : GZ w ML (XL w b n xs) (ZL b) (WO w u) cells slots 598 (LLw w b i) [] := by
  obtain ⟨h5, h6, he, hr⟩ := two (p5 := pX5_now (xs (i + 1))) (p6 := pX6_now (xs (i + 1))) (r5 := rX5_now (xs (i + 1))) (r6 := rX6_now (xs (i + 1))) (m5 := mX5_now (xs (i + 1))) (m6 := mX6_now (xs (i + 1))) (fun u v h => go_now (xs (i + 1)) h) hu
  refine z_aload (i := 1) (a := xA w) dL_598 rfl ?_
  refine z_arg (j := 1) dL_599 dL_600 dL_601 dL_602 dL_603 rfl (by decide) hi hn ?_
  refine z_call1 (M := ML) (idx := 64) (ci := 5) (k := 1) (st := []) (ctX5_now w) (by decide +kernel) (by decide +kernel) (by decide) (by decide) rfl (prX5_now w) (fun s a m h => h.2.2.2.2.2.2) hcs hss dL_604 (as := [.ref (xA w), .int (xs (i + 1))]) (u1 := (mX5_now (xs (i + 1)) u)) (v := .int (rX5_now (xs (i + 1)) u)) (Nat.le_of_ble_eq_true rfl) ⟨rfl, h5⟩ rfl ?_
  refine z_aload (i := 2) (a := mA w) dL_607 rfl ?_
  refine z_arg (j := 1) dL_608 dL_609 dL_610 dL_611 dL_612 rfl (by decide) hi hn ?_
  refine z_call1 (M := ML) (idx := 67) (ci := 6) (k := 1) (st := [.int (rX5_now (xs (i + 1)) u)]) (ctX6_now w) (by decide +kernel) (by decide +kernel) (by decide) (by decide) rfl (prX6_now w) (fun s a m h => h.2.2.2.2.2.2) hcs hss dL_613 (as := [.ref (mA w), .int (xs (i + 1))]) (u1 := (mX6_now (xs (i + 1)) (mX5_now (xs (i + 1)) u))) (v := .int (rX6_now (xs (i + 1)) (mX5_now (xs (i + 1)) u))) (Nat.le_of_ble_eq_true rfl) ⟨rfl, h6⟩ rfl ?_
  refine z_icmp_eq dL_616 (t := 1466) (by decide) he ?_
  exact kk _ hr
theorem law_13 {w : WW} {b n cells slots i : Nat} {xs : Nat → Int32} (hw : wOk w) (hn : n ≤ 3072) (hi : i + 6 ≤ n) (hcs : cells ≤ 600000) (hss : slots ≤ 7302250) {u : MM} (hu : Rl u u) (kk : ∀ v, Rl v v → GZ w ML (XL w b n xs) (ZL b) (WO w v) cells slots 1466 (LLw w b i) []) : GZ w ML (XL w b n xs) (ZL b) (WO w u) cells slots 621 (LLw w b i) [] := by
  obtain ⟨h5, h6, he, hr⟩ := two (p5 := pX5_holder (xs (i + 1)) (xs (i + 2))) (p6 := pX6_holder (xs (i + 1)) (xs (i + 2))) (r5 := rX5_holder (xs (i + 1)) (xs (i + 2))) (r6 := rX6_holder (xs (i + 1)) (xs (i + 2))) (m5 := mX5_holder (xs (i + 1)) (xs (i + 2))) (m6 := mX6_holder (xs (i + 1)) (xs (i + 2))) (fun u v h => go_holder (xs (i + 1)) (xs (i + 2)) h) hu
  refine z_aload (i := 1) (a := xA w) dL_621 rfl ?_
  refine z_arg (j := 1) dL_622 dL_623 dL_624 dL_625 dL_626 rfl (by decide) hi hn ?_
  refine z_arg (j := 2) dL_627 dL_628 dL_629 dL_630 dL_631 rfl (by decide) hi hn ?_
  refine z_call1 (M := ML) (idx := 68) (ci := 5) (k := 2) (st := []) (ctX5_holder w) (by decide +kernel) (by decide +kernel) (by decide) (by decide) rfl (prX5_holder w) (fun s a m h => h.2.2.2.2.2.2) hcs hss dL_632 (as := [.ref (xA w), .int (xs (i + 1)), .int (xs (i + 2))]) (u1 := (mX5_holder (xs (i + 1)) (xs (i + 2)) u)) (v := .int (rX5_holder (xs (i + 1)) (xs (i + 2)) u)) (Nat.le_of_ble_eq_true rfl) ⟨rfl, hw, h5⟩ rfl ?_
  refine z_aload (i := 2) (a := mA w) dL_635 rfl ?_
  refine z_arg (j := 1) dL_636 dL_637 dL_638 dL_639 dL_640 rfl (by decide) hi hn ?_
  refine z_arg (j := 2) dL_641 dL_642 dL_643 dL_644 dL_645 rfl (by decide) hi hn ?_
  refine z_call1 (M := ML) (idx := 71) (ci := 6) (k := 2) (st := [.int (rX5_holder (xs (i + 1)) (xs (i + 2)) u)]) (ctX6_holder w) (by decide +kernel) (by decide +kernel) (by decide) (by decide) rfl (prX6_holder w) (fun s a m h => h.2.2.2.2.2.2) hcs hss dL_646 (as := [.ref (mA w), .int (xs (i + 1)), .int (xs (i + 2))]) (u1 := (mX6_holder (xs (i + 1)) (xs (i + 2)) (mX5_holder (xs (i + 1)) (xs (i + 2)) u))) (v := .int (rX6_holder (xs (i + 1)) (xs (i + 2)) (mX5_holder (xs (i + 1)) (xs (i + 2)) u))) (Nat.le_of_ble_eq_true rfl) ⟨rfl, h6⟩ rfl ?_
  refine z_icmp_eq dL_649 (t := 1466) (by decide) he ?_
  exact kk _ hr
theorem law_14 {w : WW} {b n cells slots i : Nat} {xs : Nat → Int32} (hw : wOk w) (hn : n ≤ 3072) (hi : i + 6 ≤ n) (hcs : cells ≤ 600000) (hss : slots ≤ 7302250) {u : MM} (hu : Rl u u) (kk : ∀ v, Rl v v → GZ w ML (XL w b n xs) (ZL b) (WO w v) cells slots 1466 (LLw w b i) []) : GZ w ML (XL w b n xs) (ZL b) (WO w u) cells slots 654 (LLw w b i) [] := by
  obtain ⟨h5, h6, he, hr⟩ := two (p5 := pX5_where (xs (i + 1)) (xs (i + 2))) (p6 := pX6_where (xs (i + 1)) (xs (i + 2))) (r5 := rX5_where (xs (i + 1)) (xs (i + 2))) (r6 := rX6_where (xs (i + 1)) (xs (i + 2))) (m5 := mX5_where (xs (i + 1)) (xs (i + 2))) (m6 := mX6_where (xs (i + 1)) (xs (i + 2))) (fun u v h => go_where (xs (i + 1)) (xs (i + 2)) h) hu
  refine z_aload (i := 1) (a := xA w) dL_654 rfl ?_
  refine z_arg (j := 1) dL_655 dL_656 dL_657 dL_658 dL_659 rfl (by decide) hi hn ?_
  refine z_arg (j := 2) dL_660 dL_661 dL_662 dL_663 dL_664 rfl (by decide) hi hn ?_
  refine z_call1 (M := ML) (idx := 72) (ci := 5) (k := 2) (st := []) (ctX5_where w) (by decide +kernel) (by decide +kernel) (by decide) (by decide) rfl (prX5_where w) (fun s a m h => h.2.2.2.2.2.2) hcs hss dL_665 (as := [.ref (xA w), .int (xs (i + 1)), .int (xs (i + 2))]) (u1 := (mX5_where (xs (i + 1)) (xs (i + 2)) u)) (v := .int (rX5_where (xs (i + 1)) (xs (i + 2)) u)) (Nat.le_of_ble_eq_true rfl) ⟨rfl, hw, h5⟩ rfl ?_
  refine z_aload (i := 2) (a := mA w) dL_668 rfl ?_
  refine z_arg (j := 1) dL_669 dL_670 dL_671 dL_672 dL_673 rfl (by decide) hi hn ?_
  refine z_arg (j := 2) dL_674 dL_675 dL_676 dL_677 dL_678 rfl (by decide) hi hn ?_
  refine z_call1 (M := ML) (idx := 75) (ci := 6) (k := 2) (st := [.int (rX5_where (xs (i + 1)) (xs (i + 2)) u)]) (ctX6_where w) (by decide +kernel) (by decide +kernel) (by decide) (by decide) rfl (prX6_where w) (fun s a m h => h.2.2.2.2.2.2) hcs hss dL_679 (as := [.ref (mA w), .int (xs (i + 1)), .int (xs (i + 2))]) (u1 := (mX6_where (xs (i + 1)) (xs (i + 2)) (mX5_where (xs (i + 1)) (xs (i + 2)) u))) (v := .int (rX6_where (xs (i + 1)) (xs (i + 2)) (mX5_where (xs (i + 1)) (xs (i + 2)) u))) (Nat.le_of_ble_eq_true rfl) ⟨rfl, h6⟩ rfl ?_
  refine z_icmp_eq dL_682 (t := 1466) (by decide) he ?_
  exact kk _ hr
theorem law_15 {w : WW} {b n cells slots i : Nat} {xs : Nat → Int32} (hw : wOk w) (hn : n ≤ 3072) (hi : i + 6 ≤ n) (hcs : cells ≤ 600000) (hss : slots ≤ 7302250) {u : MM} (hu : Rl u u) (kk : ∀ v, Rl v v → GZ w ML (XL w b n xs) (ZL b) (WO w v) cells slots 1466 (LLw w b i) []) : GZ w ML (XL w b n xs) (ZL b) (WO w u) cells slots 687 (LLw w b i) [] := by
  obtain ⟨h5, h6, he, hr⟩ := two (p5 := pX5_coins (xs (i + 1)) (xs (i + 2))) (p6 := pX6_coins (xs (i + 1)) (xs (i + 2))) (r5 := rX5_coins (xs (i + 1)) (xs (i + 2))) (r6 := rX6_coins (xs (i + 1)) (xs (i + 2))) (m5 := mX5_coins (xs (i + 1)) (xs (i + 2))) (m6 := mX6_coins (xs (i + 1)) (xs (i + 2))) (fun u v h => go_coins (xs (i + 1)) (xs (i + 2)) h) hu
  refine z_aload (i := 1) (a := xA w) dL_687 rfl ?_
  refine z_arg (j := 1) dL_688 dL_689 dL_690 dL_691 dL_692 rfl (by decide) hi hn ?_
  refine z_arg (j := 2) dL_693 dL_694 dL_695 dL_696 dL_697 rfl (by decide) hi hn ?_
  refine z_call1 (M := ML) (idx := 76) (ci := 5) (k := 2) (st := []) (ctX5_coins w) (by decide +kernel) (by decide +kernel) (by decide) (by decide) rfl (prX5_coins w) (fun s a m h => h.2.2.2.2.2.2) hcs hss dL_698 (as := [.ref (xA w), .int (xs (i + 1)), .int (xs (i + 2))]) (u1 := (mX5_coins (xs (i + 1)) (xs (i + 2)) u)) (v := .int (rX5_coins (xs (i + 1)) (xs (i + 2)) u)) (Nat.le_of_ble_eq_true rfl) ⟨rfl, hw, h5⟩ rfl ?_
  refine z_aload (i := 2) (a := mA w) dL_701 rfl ?_
  refine z_arg (j := 1) dL_702 dL_703 dL_704 dL_705 dL_706 rfl (by decide) hi hn ?_
  refine z_arg (j := 2) dL_707 dL_708 dL_709 dL_710 dL_711 rfl (by decide) hi hn ?_
  refine z_call1 (M := ML) (idx := 79) (ci := 6) (k := 2) (st := [.int (rX5_coins (xs (i + 1)) (xs (i + 2)) u)]) (ctX6_coins w) (by decide +kernel) (by decide +kernel) (by decide) (by decide) rfl (prX6_coins w) (fun s a m h => h.2.2.2.2.2.2) hcs hss dL_712 (as := [.ref (mA w), .int (xs (i + 1)), .int (xs (i + 2))]) (u1 := (mX6_coins (xs (i + 1)) (xs (i + 2)) (mX5_coins (xs (i + 1)) (xs (i + 2)) u))) (v := .int (rX6_coins (xs (i + 1)) (xs (i + 2)) (mX5_coins (xs (i + 1)) (xs (i + 2)) u))) (Nat.le_of_ble_eq_true rfl) ⟨rfl, h6⟩ rfl ?_
  refine z_icmp_eq dL_715 (t := 1466) (by decide) he ?_
  exact kk _ hr
