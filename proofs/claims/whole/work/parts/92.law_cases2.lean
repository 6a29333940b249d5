/-! ===== the law's cases ===== -/
theorem law_16 {w : WW} {b n cells slots i : Nat} {xs : Nat → Int32} (hw : wOk w) (hn : n ≤ 3072) (hi : i + 6 ≤ n) (hcs : cells ≤ 600000) (hss : slots ≤ 7302250) {u : MM} (hu : Rl u u) (kk : ∀ v, Rl v v → GZ w ML (XL w b n xs) (ZL b) (WO w v) cells slots 1466 (LLw w b i) []) : GZ w ML (XL w b n xs) (ZL b) (WO w u) cells slots 720 (LLw w b i) [] := by
  obtain ⟨h5, h6, he, hr⟩ := two (p5 := pX5_gets (xs (i + 1)) (xs (i + 2))) (p6 := pX6_gets (xs (i + 1)) (xs (i + 2))) (r5 := rX5_gets (xs (i + 1)) (xs (i + 2))) (r6 := rX6_gets (xs (i + 1)) (xs (i + 2))) (m5 := mX5_gets (xs (i + 1)) (xs (i + 2))) (m6 := mX6_gets (xs (i + 1)) (xs (i + 2))) (fun u v h => go_gets (xs (i + 1)) (xs (i + 2)) h) hu
  refine z_aload (i := 1) (a := xA w) dL_720 rfl ?_
  refine z_arg (j := 1) dL_721 dL_722 dL_723 dL_724 dL_725 rfl (by decide) hi hn ?_
  refine z_arg (j := 2) dL_726 dL_727 dL_728 dL_729 dL_730 rfl (by decide) hi hn ?_
  refine z_call1 (M := ML) (idx := 80) (ci := 5) (k := 2) (st := []) (ctX5_gets w) (by decide +kernel) (by decide +kernel) (by decide) (by decide) rfl (prX5_gets w) (fun s a m h => h.2.2.2.2.2.2) hcs hss dL_731 (as := [.ref (xA w), .int (xs (i + 1)), .int (xs (i + 2))]) (u1 := (mX5_gets (xs (i + 1)) (xs (i + 2)) u)) (v := .int (rX5_gets (xs (i + 1)) (xs (i + 2)) u)) (Nat.le_of_ble_eq_true rfl) ⟨rfl, hw, h5⟩ rfl ?_
  refine z_aload (i := 2) (a := mA w) dL_734 rfl ?_
  refine z_arg (j := 1) dL_735 dL_736 dL_737 dL_738 dL_739 rfl (by decide) hi hn ?_
  refine z_arg (j := 2) dL_740 dL_741 dL_742 dL_743 dL_744 rfl (by decide) hi hn ?_
  refine z_call1 (M := ML) (idx := 83) (ci := 6) (k := 2) (st := [.int (rX5_gets (xs (i + 1)) (xs (i + 2)) u)]) (ctX6_gets w) (by decide +kernel) (by decide +kernel) (by decide) (by decide) rfl (prX6_gets w) (fun s a m h => h.2.2.2.2.2.2) hcs hss dL_745 (as := [.ref (mA w), .int (xs (i + 1)), .int (xs (i + 2))]) (u1 := (mX6_gets (xs (i + 1)) (xs (i + 2)) (mX5_gets (xs (i + 1)) (xs (i + 2)) u))) (v := .int (rX6_gets (xs (i + 1)) (xs (i + 2)) (mX5_gets (xs (i + 1)) (xs (i + 2)) u))) (Nat.le_of_ble_eq_true rfl) ⟨rfl, h6⟩ rfl ?_
  refine z_icmp_eq dL_748 (t := 1466) (by decide) he ?_
  exact kk _ hr
theorem law_17 {w : WW} {b n cells slots i : Nat} {xs : Nat → Int32} (hw : wOk w) (hn : n ≤ 3072) (hi : i + 6 ≤ n) (hcs : cells ≤ 600000) (hss : slots ≤ 7302250) {u : MM} (hu : Rl u u) (kk : ∀ v, Rl v v → GZ w ML (XL w b n xs) (ZL b) (WO w v) cells slots 1466 (LLw w b i) []) : GZ w ML (XL w b n xs) (ZL b) (WO w u) cells slots 753 (LLw w b i) [] := by
  obtain ⟨h5, h6, he, hr⟩ := two (p5 := pX5_rich (xs (i + 1))) (p6 := pX6_rich (xs (i + 1))) (r5 := rX5_rich (xs (i + 1))) (r6 := rX6_rich (xs (i + 1))) (m5 := mX5_rich (xs (i + 1))) (m6 := mX6_rich (xs (i + 1))) (fun u v h => go_rich (xs (i + 1)) h) hu
  refine z_aload (i := 1) (a := xA w) dL_753 rfl ?_
  refine z_arg (j := 1) dL_754 dL_755 dL_756 dL_757 dL_758 rfl (by decide) hi hn ?_
  refine z_call1 (M := ML) (idx := 84) (ci := 5) (k := 1) (st := []) (ctX5_rich w) (by decide +kernel) (by decide +kernel) (by decide) (by decide) rfl (prX5_rich w) (fun s a m h => h.2.2.2.2.2.2) hcs hss dL_759 (as := [.ref (xA w), .int (xs (i + 1))]) (u1 := (mX5_rich (xs (i + 1)) u)) (v := .int (rX5_rich (xs (i + 1)) u)) (Nat.le_of_ble_eq_true rfl) ⟨rfl, hw, h5⟩ rfl ?_
  refine z_aload (i := 2) (a := mA w) dL_762 rfl ?_
  refine z_arg (j := 1) dL_763 dL_764 dL_765 dL_766 dL_767 rfl (by decide) hi hn ?_
  refine z_call1 (M := ML) (idx := 87) (ci := 6) (k := 1) (st := [.int (rX5_rich (xs (i + 1)) u)]) (ctX6_rich w) (by decide +kernel) (by decide +kernel) (by decide) (by decide) rfl (prX6_rich w) (fun s a m h => h.2.2.2.2.2.2) hcs hss dL_768 (as := [.ref (mA w), .int (xs (i + 1))]) (u1 := (mX6_rich (xs (i + 1)) (mX5_rich (xs (i + 1)) u))) (v := .int (rX6_rich (xs (i + 1)) (mX5_rich (xs (i + 1)) u))) (Nat.le_of_ble_eq_true rfl) ⟨rfl, h6⟩ rfl ?_
  refine z_icmp_eq dL_771 (t := 1466) (by decide) he ?_
  exact kk _ hr
theorem law_18 {w : WW} {b n cells slots i : Nat} {xs : Nat → Int32} (hw : wOk w) (hn : n ≤ 3072) (hi : i + 6 ≤ n) (hcs : cells ≤ 600000) (hss : slots ≤ 7302250) {u : MM} (hu : Rl u u) (kk : ∀ v, Rl v v → GZ w ML (XL w b n xs) (ZL b) (WO w v) cells slots 1466 (LLw w b i) []) : GZ w ML (XL w b n xs) (ZL b) (WO w u) cells slots 776 (LLw w b i) [] := by
  obtain ⟨h5, h6, he, hr⟩ := two (p5 := pX5_spots (xs (i + 1)) (xs (i + 2))) (p6 := pX6_spots (xs (i + 1)) (xs (i + 2))) (r5 := rX5_spots (xs (i + 1)) (xs (i + 2))) (r6 := rX6_spots (xs (i + 1)) (xs (i + 2))) (m5 := mX5_spots (xs (i + 1)) (xs (i + 2))) (m6 := mX6_spots (xs (i + 1)) (xs (i + 2))) (fun u v h => go_spots (xs (i + 1)) (xs (i + 2)) h) hu
  refine z_aload (i := 1) (a := xA w) dL_776 rfl ?_
  refine z_arg (j := 1) dL_777 dL_778 dL_779 dL_780 dL_781 rfl (by decide) hi hn ?_
  refine z_arg (j := 2) dL_782 dL_783 dL_784 dL_785 dL_786 rfl (by decide) hi hn ?_
  refine z_call1 (M := ML) (idx := 88) (ci := 5) (k := 2) (st := []) (ctX5_spots w) (by decide +kernel) (by decide +kernel) (by decide) (by decide) rfl (prX5_spots w) (fun s a m h => h.2.2.2.2.2.2) hcs hss dL_787 (as := [.ref (xA w), .int (xs (i + 1)), .int (xs (i + 2))]) (u1 := (mX5_spots (xs (i + 1)) (xs (i + 2)) u)) (v := .int (rX5_spots (xs (i + 1)) (xs (i + 2)) u)) (Nat.le_of_ble_eq_true rfl) ⟨rfl, hw, h5⟩ rfl ?_
  refine z_aload (i := 2) (a := mA w) dL_790 rfl ?_
  refine z_arg (j := 1) dL_791 dL_792 dL_793 dL_794 dL_795 rfl (by decide) hi hn ?_
  refine z_arg (j := 2) dL_796 dL_797 dL_798 dL_799 dL_800 rfl (by decide) hi hn ?_
  refine z_call1 (M := ML) (idx := 91) (ci := 6) (k := 2) (st := [.int (rX5_spots (xs (i + 1)) (xs (i + 2)) u)]) (ctX6_spots w) (by decide +kernel) (by decide +kernel) (by decide) (by decide) rfl (prX6_spots w) (fun s a m h => h.2.2.2.2.2.2) hcs hss dL_801 (as := [.ref (mA w), .int (xs (i + 1)), .int (xs (i + 2))]) (u1 := (mX6_spots (xs (i + 1)) (xs (i + 2)) (mX5_spots (xs (i + 1)) (xs (i + 2)) u))) (v := .int (rX6_spots (xs (i + 1)) (xs (i + 2)) (mX5_spots (xs (i + 1)) (xs (i + 2)) u))) (Nat.le_of_ble_eq_true rfl) ⟨rfl, h6⟩ rfl ?_
  refine z_icmp_eq dL_804 (t := 1466) (by decide) he ?_
  exact kk _ hr
theorem law_19 {w : WW} {b n cells slots i : Nat} {xs : Nat → Int32} (hw : wOk w) (hn : n ≤ 3072) (hi : i + 6 ≤ n) (hcs : cells ≤ 600000) (hss : slots ≤ 7302250) {u : MM} (hu : Rl u u) (kk : ∀ v, Rl v v → GZ w ML (XL w b n xs) (ZL b) (WO w v) cells slots 1466 (LLw w b i) []) : GZ w ML (XL w b n xs) (ZL b) (WO w u) cells slots 809 (LLw w b i) [] := by
  obtain ⟨h5, h6, he, hr⟩ := two (p5 := pX5_nearest (xs (i + 1)) (xs (i + 2))) (p6 := pX6_nearest (xs (i + 1)) (xs (i + 2))) (r5 := rX5_nearest (xs (i + 1)) (xs (i + 2))) (r6 := rX6_nearest (xs (i + 1)) (xs (i + 2))) (m5 := mX5_nearest (xs (i + 1)) (xs (i + 2))) (m6 := mX6_nearest (xs (i + 1)) (xs (i + 2))) (fun u v h => go_nearest (xs (i + 1)) (xs (i + 2)) h) hu
  refine z_aload (i := 1) (a := xA w) dL_809 rfl ?_
  refine z_arg (j := 1) dL_810 dL_811 dL_812 dL_813 dL_814 rfl (by decide) hi hn ?_
  refine z_arg (j := 2) dL_815 dL_816 dL_817 dL_818 dL_819 rfl (by decide) hi hn ?_
  refine z_call1 (M := ML) (idx := 92) (ci := 5) (k := 2) (st := []) (ctX5_nearest w) (by decide +kernel) (by decide +kernel) (by decide) (by decide) rfl (prX5_nearest w) (fun s a m h => h.2.2.2.2.2.2) hcs hss dL_820 (as := [.ref (xA w), .int (xs (i + 1)), .int (xs (i + 2))]) (u1 := (mX5_nearest (xs (i + 1)) (xs (i + 2)) u)) (v := .int (rX5_nearest (xs (i + 1)) (xs (i + 2)) u)) (Nat.le_of_ble_eq_true rfl) ⟨rfl, hw, h5⟩ rfl ?_
  refine z_aload (i := 2) (a := mA w) dL_823 rfl ?_
  refine z_arg (j := 1) dL_824 dL_825 dL_826 dL_827 dL_828 rfl (by decide) hi hn ?_
  refine z_arg (j := 2) dL_829 dL_830 dL_831 dL_832 dL_833 rfl (by decide) hi hn ?_
  refine z_call1 (M := ML) (idx := 95) (ci := 6) (k := 2) (st := [.int (rX5_nearest (xs (i + 1)) (xs (i + 2)) u)]) (ctX6_nearest w) (by decide +kernel) (by decide +kernel) (by decide) (by decide) rfl (prX6_nearest w) (fun s a m h => h.2.2.2.2.2.2) hcs hss dL_834 (as := [.ref (mA w), .int (xs (i + 1)), .int (xs (i + 2))]) (u1 := (mX6_nearest (xs (i + 1)) (xs (i + 2)) (mX5_nearest (xs (i + 1)) (xs (i + 2)) u))) (v := .int (rX6_nearest (xs (i + 1)) (xs (i + 2)) (mX5_nearest (xs (i + 1)) (xs (i + 2)) u))) (Nat.le_of_ble_eq_true rfl) ⟨rfl, h6⟩ rfl ?_
  refine z_icmp_eq dL_837 (t := 1466) (by decide) he ?_
  exact kk _ hr
theorem law_20 {w : WW} {b n cells slots i : Nat} {xs : Nat → Int32} (hw : wOk w) (hn : n ≤ 3072) (hi : i + 6 ≤ n) (hcs : cells ≤ 600000) (hss : slots ≤ 7302250) {u : MM} (hu : Rl u u) (kk : ∀ v, Rl v v → GZ w ML (XL w b n xs) (ZL b) (WO w v) cells slots 1466 (LLw w b i) []) : GZ w ML (XL w b n xs) (ZL b) (WO w u) cells slots 842 (LLw w b i) [] := by
  obtain ⟨h5, h6, he, hr⟩ := two (p5 := pX5_place (xs (i + 1)) (xs (i + 2))) (p6 := pX6_place (xs (i + 1)) (xs (i + 2))) (r5 := rX5_place (xs (i + 1)) (xs (i + 2))) (r6 := rX6_place (xs (i + 1)) (xs (i + 2))) (m5 := mX5_place (xs (i + 1)) (xs (i + 2))) (m6 := mX6_place (xs (i + 1)) (xs (i + 2))) (fun u v h => go_place (xs (i + 1)) (xs (i + 2)) h) hu
  refine z_aload (i := 1) (a := xA w) dL_842 rfl ?_
  refine z_arg (j := 1) dL_843 dL_844 dL_845 dL_846 dL_847 rfl (by decide) hi hn ?_
  refine z_arg (j := 2) dL_848 dL_849 dL_850 dL_851 dL_852 rfl (by decide) hi hn ?_
  refine z_call1 (M := ML) (idx := 96) (ci := 5) (k := 2) (st := []) (ctX5_place w) (by decide +kernel) (by decide +kernel) (by decide) (by decide) rfl (prX5_place w) (fun s a m h => h.2.2.2.2.2.2) hcs hss dL_853 (as := [.ref (xA w), .int (xs (i + 1)), .int (xs (i + 2))]) (u1 := (mX5_place (xs (i + 1)) (xs (i + 2)) u)) (v := .int (rX5_place (xs (i + 1)) (xs (i + 2)) u)) (Nat.le_of_ble_eq_true rfl) ⟨rfl, hw, h5⟩ rfl ?_
  refine z_aload (i := 2) (a := mA w) dL_856 rfl ?_
  refine z_arg (j := 1) dL_857 dL_858 dL_859 dL_860 dL_861 rfl (by decide) hi hn ?_
  refine z_arg (j := 2) dL_862 dL_863 dL_864 dL_865 dL_866 rfl (by decide) hi hn ?_
  refine z_call1 (M := ML) (idx := 99) (ci := 6) (k := 2) (st := [.int (rX5_place (xs (i + 1)) (xs (i + 2)) u)]) (ctX6_place w) (by decide +kernel) (by decide +kernel) (by decide) (by decide) rfl (prX6_place w) (fun s a m h => h.2.2.2.2.2.2) hcs hss dL_867 (as := [.ref (mA w), .int (xs (i + 1)), .int (xs (i + 2))]) (u1 := (mX6_place (xs (i + 1)) (xs (i + 2)) (mX5_place (xs (i + 1)) (xs (i + 2)) u))) (v := .int (rX6_place (xs (i + 1)) (xs (i + 2)) (mX5_place (xs (i + 1)) (xs (i + 2)) u))) (Nat.le_of_ble_eq_true rfl) ⟨rfl, h6⟩ rfl ?_
  refine z_icmp_eq dL_870 (t := 1466) (by decide) he ?_
  exact kk _ hr
theorem law_21 {w : WW} {b n cells slots i : Nat} {xs : Nat → Int32} (hw : wOk w) (hn : n ≤ 3072) (hi : i + 6 ≤ n) (hcs : cells ≤ 600000) (hss : slots ≤ 7302250) {u : MM} (hu : Rl u u) (kk : ∀ v, Rl v v → GZ w ML (XL w b n xs) (ZL b) (WO w v) cells slots 1466 (LLw w b i) []) : GZ w ML (XL w b n xs) (ZL b) (WO w u) cells slots 875 (LLw w b i) [] := by
  obtain ⟨h5, h6, he, hr⟩ := two (p5 := pX5_best (xs (i + 1))) (p6 := pX6_best (xs (i + 1))) (r5 := rX5_best (xs (i + 1))) (r6 := rX6_best (xs (i + 1))) (m5 := mX5_best (xs (i + 1))) (m6 := mX6_best (xs (i + 1))) (fun u v h => go_best (xs (i + 1)) h) hu
  refine z_aload (i := 1) (a := xA w) dL_875 rfl ?_
  refine z_arg (j := 1) dL_876 dL_877 dL_878 dL_879 dL_880 rfl (by decide) hi hn ?_
  refine z_call1 (M := ML) (idx := 100) (ci := 5) (k := 1) (st := []) (ctX5_best w) (by decide +kernel) (by decide +kernel) (by decide) (by decide) rfl (prX5_best w) (fun s a m h => h.2.2.2.2.2.2) hcs hss dL_881 (as := [.ref (xA w), .int (xs (i + 1))]) (u1 := (mX5_best (xs (i + 1)) u)) (v := .int (rX5_best (xs (i + 1)) u)) (Nat.le_of_ble_eq_true rfl) ⟨rfl, hw, h5⟩ rfl ?_
  refine z_aload (i := 2) (a := mA w) dL_884 rfl ?_
  refine z_arg (j := 1) dL_885 dL_886 dL_887 dL_888 dL_889 rfl (by decide) hi hn ?_
  refine z_call1 (M := ML) (idx := 103) (ci := 6) (k := 1) (st := [.int (rX5_best (xs (i + 1)) u)]) (ctX6_best w) (by decide +kernel) (by decide +kernel) (by decide) (by decide) rfl (prX6_best w) (fun s a m h => h.2.2.2.2.2.2) hcs hss dL_890 (as := [.ref (mA w), .int (xs (i + 1))]) (u1 := (mX6_best (xs (i + 1)) (mX5_best (xs (i + 1)) u))) (v := .int (rX6_best (xs (i + 1)) (mX5_best (xs (i + 1)) u))) (Nat.le_of_ble_eq_true rfl) ⟨rfl, h6⟩ rfl ?_
  refine z_icmp_eq dL_893 (t := 1466) (by decide) he ?_
  exact kk _ hr
theorem law_22 {w : WW} {b n cells slots i : Nat} {xs : Nat → Int32} (hw : wOk w) (hn : n ≤ 3072) (hi : i + 6 ≤ n) (hcs : cells ≤ 600000) (hss : slots ≤ 7302250) {u : MM} (hu : Rl u u) (kk : ∀ v, Rl v v → GZ w ML (XL w b n xs) (ZL b) (WO w v) cells slots 1466 (LLw w b i) []) : GZ w ML (XL w b n xs) (ZL b) (WO w u) cells slots 898 (LLw w b i) [] := by
  obtain ⟨h5, h6, he, hr⟩ := two (p5 := pX5_coughFor (xs (i + 1))) (p6 := pX6_coughFor (xs (i + 1))) (r5 := rX5_coughFor (xs (i + 1))) (r6 := rX6_coughFor (xs (i + 1))) (m5 := mX5_coughFor (xs (i + 1))) (m6 := mX6_coughFor (xs (i + 1))) (fun u v h => go_coughFor (xs (i + 1)) h) hu
  refine z_aload (i := 1) (a := xA w) dL_898 rfl ?_
  refine z_arg (j := 1) dL_899 dL_900 dL_901 dL_902 dL_903 rfl (by decide) hi hn ?_
  refine z_call1 (M := ML) (idx := 104) (ci := 5) (k := 1) (st := []) (ctX5_coughFor w) (by decide +kernel) (by decide +kernel) (by decide) (by decide) rfl (prX5_coughFor w) (fun s a m h => h.2.2.2.2.2.2) hcs hss dL_904 (as := [.ref (xA w), .int (xs (i + 1))]) (u1 := (mX5_coughFor (xs (i + 1)) u)) (v := .int (rX5_coughFor (xs (i + 1)) u)) (Nat.le_of_ble_eq_true rfl) ⟨rfl, hw, h5⟩ rfl ?_
  refine z_aload (i := 2) (a := mA w) dL_907 rfl ?_
  refine z_arg (j := 1) dL_908 dL_909 dL_910 dL_911 dL_912 rfl (by decide) hi hn ?_
  refine z_call1 (M := ML) (idx := 107) (ci := 6) (k := 1) (st := [.int (rX5_coughFor (xs (i + 1)) u)]) (ctX6_coughFor w) (by decide +kernel) (by decide +kernel) (by decide) (by decide) rfl (prX6_coughFor w) (fun s a m h => h.2.2.2.2.2.2) hcs hss dL_913 (as := [.ref (mA w), .int (xs (i + 1))]) (u1 := (mX6_coughFor (xs (i + 1)) (mX5_coughFor (xs (i + 1)) u))) (v := .int (rX6_coughFor (xs (i + 1)) (mX5_coughFor (xs (i + 1)) u))) (Nat.le_of_ble_eq_true rfl) ⟨rfl, h6⟩ rfl ?_
  refine z_icmp_eq dL_916 (t := 1466) (by decide) he ?_
  exact kk _ hr
theorem law_23 {w : WW} {b n cells slots i : Nat} {xs : Nat → Int32} (hw : wOk w) (hn : n ≤ 3072) (hi : i + 6 ≤ n) (hcs : cells ≤ 600000) (hss : slots ≤ 7302250) {u : MM} (hu : Rl u u) (kk : ∀ v, Rl v v → GZ w ML (XL w b n xs) (ZL b) (WO w v) cells slots 1466 (LLw w b i) []) : GZ w ML (XL w b n xs) (ZL b) (WO w u) cells slots 921 (LLw w b i) [] := by
  obtain ⟨h5, h6, he, hr⟩ := two (p5 := pX5_twice (xs (i + 1)) (xs (i + 2))) (p6 := pX6_twice (xs (i + 1)) (xs (i + 2))) (r5 := rX5_twice (xs (i + 1)) (xs (i + 2))) (r6 := rX6_twice (xs (i + 1)) (xs (i + 2))) (m5 := mX5_twice (xs (i + 1)) (xs (i + 2))) (m6 := mX6_twice (xs (i + 1)) (xs (i + 2))) (fun u v h => go_twice (xs (i + 1)) (xs (i + 2)) h) hu
  refine z_aload (i := 1) (a := xA w) dL_921 rfl ?_
  refine z_arg (j := 1) dL_922 dL_923 dL_924 dL_925 dL_926 rfl (by decide) hi hn ?_
  refine z_arg (j := 2) dL_927 dL_928 dL_929 dL_930 dL_931 rfl (by decide) hi hn ?_
  refine z_call1 (M := ML) (idx := 108) (ci := 5) (k := 2) (st := []) (ctX5_twice w) (by decide +kernel) (by decide +kernel) (by decide) (by decide) rfl (prX5_twice w) (fun s a m h => h.2.2.2.2.2.2) hcs hss dL_932 (as := [.ref (xA w), .int (xs (i + 1)), .int (xs (i + 2))]) (u1 := (mX5_twice (xs (i + 1)) (xs (i + 2)) u)) (v := .int (rX5_twice (xs (i + 1)) (xs (i + 2)) u)) (Nat.le_of_ble_eq_true rfl) ⟨rfl, hw, h5⟩ rfl ?_
  refine z_aload (i := 2) (a := mA w) dL_935 rfl ?_
  refine z_arg (j := 1) dL_936 dL_937 dL_938 dL_939 dL_940 rfl (by decide) hi hn ?_
  refine z_arg (j := 2) dL_941 dL_942 dL_943 dL_944 dL_945 rfl (by decide) hi hn ?_
  refine z_call1 (M := ML) (idx := 111) (ci := 6) (k := 2) (st := [.int (rX5_twice (xs (i + 1)) (xs (i + 2)) u)]) (ctX6_twice w) (by decide +kernel) (by decide +kernel) (by decide) (by decide) rfl (prX6_twice w) (fun s a m h => h.2.2.2.2.2.2) hcs hss dL_946 (as := [.ref (mA w), .int (xs (i + 1)), .int (xs (i + 2))]) (u1 := (mX6_twice (xs (i + 1)) (xs (i + 2)) (mX5_twice (xs (i + 1)) (xs (i + 2)) u))) (v := .int (rX6_twice (xs (i + 1)) (xs (i + 2)) (mX5_twice (xs (i + 1)) (xs (i + 2)) u))) (Nat.le_of_ble_eq_true rfl) ⟨rfl, h6⟩ rfl ?_
  refine z_icmp_eq dL_949 (t := 1466) (by decide) he ?_
  exact kk _ hr
