/-! ===== the law's cases ===== -/
theorem law_24 {w : WW} {b n cells slots i : Nat} {xs : Nat → Int32} (hw : wOk w) (hn : n ≤ 3072) (hi : i + 6 ≤ n) (hcs : cells ≤ 600000) (hss : slots ≤ 7302250) {u : MM} (hu : Rl u u) (kk : ∀ v, Rl v v → GZ w ML (XL w b n xs) (ZL b) (WO w v) cells slots 1466 (LLw w b i) []) : GZ w ML (XL w b n xs) (ZL b) (WO w u) cells slots 954 (LLw w b i) [] := by
  obtain ⟨h5, h6, he, hr⟩ := two (p5 := pX5_will (xs (i + 1)) (xs (i + 2))) (p6 := pX6_will (xs (i + 1)) (xs (i + 2))) (r5 := rX5_will (xs (i + 1)) (xs (i + 2))) (r6 := rX6_will (xs (i + 1)) (xs (i + 2))) (m5 := mX5_will (xs (i + 1)) (xs (i + 2))) (m6 := mX6_will (xs (i + 1)) (xs (i + 2))) (fun u v h => go_will (xs (i + 1)) (xs (i + 2)) h) hu
  refine z_aload (i := 1) (a := xA w) dL_954 rfl ?_
  refine z_arg (j := 1) dL_955 dL_956 dL_957 dL_958 dL_959 rfl (by decide) hi hn ?_
  refine z_arg (j := 2) dL_960 dL_961 dL_962 dL_963 dL_964 rfl (by decide) hi hn ?_
  refine z_call1 (M := ML) (idx := 112) (ci := 5) (k := 2) (st := []) (ctX5_will w) (by decide +kernel) (by decide +kernel) (by decide) (by decide) rfl (prX5_will w) (fun s a m h => h.2.2.2.2.2.2) hcs hss dL_965 (as := [.ref (xA w), .int (xs (i + 1)), .int (xs (i + 2))]) (u1 := (mX5_will (xs (i + 1)) (xs (i + 2)) u)) (v := .int (rX5_will (xs (i + 1)) (xs (i + 2)) u)) (Nat.le_of_ble_eq_true rfl) ⟨rfl, hw, h5⟩ rfl ?_
  refine z_aload (i := 2) (a := mA w) dL_968 rfl ?_
  refine z_arg (j := 1) dL_969 dL_970 dL_971 dL_972 dL_973 rfl (by decide) hi hn ?_
  refine z_arg (j := 2) dL_974 dL_975 dL_976 dL_977 dL_978 rfl (by decide) hi hn ?_
  refine z_call1 (M := ML) (idx := 115) (ci := 6) (k := 2) (st := [.int (rX5_will (xs (i + 1)) (xs (i + 2)) u)]) (ctX6_will w) (by decide +kernel) (by decide +kernel) (by decide) (by decide) rfl (prX6_will w) (fun s a m h => h.2.2.2.2.2.2) hcs hss dL_979 (as := [.ref (mA w), .int (xs (i + 1)), .int (xs (i + 2))]) (u1 := (mX6_will (xs (i + 1)) (xs (i + 2)) (mX5_will (xs (i + 1)) (xs (i + 2)) u))) (v := .int (rX6_will (xs (i + 1)) (xs (i + 2)) (mX5_will (xs (i + 1)) (xs (i + 2)) u))) (Nat.le_of_ble_eq_true rfl) ⟨rfl, h6⟩ rfl ?_
  refine z_icmp_eq dL_982 (t := 1466) (by decide) he ?_
  exact kk _ hr
theorem law_25 {w : WW} {b n cells slots i : Nat} {xs : Nat → Int32} (hw : wOk w) (hn : n ≤ 3072) (hi : i + 6 ≤ n) (hcs : cells ≤ 600000) (hss : slots ≤ 7302250) {u : MM} (hu : Rl u u) (kk : ∀ v, Rl v v → GZ w ML (XL w b n xs) (ZL b) (WO w v) cells slots 1466 (LLw w b i) []) : GZ w ML (XL w b n xs) (ZL b) (WO w u) cells slots 987 (LLw w b i) [] := by
  obtain ⟨h5, h6, he, hr⟩ := two (p5 := pX5_kind (xs (i + 1)) (xs (i + 2))) (p6 := pX6_kind (xs (i + 1)) (xs (i + 2))) (r5 := rX5_kind (xs (i + 1)) (xs (i + 2))) (r6 := rX6_kind (xs (i + 1)) (xs (i + 2))) (m5 := mX5_kind (xs (i + 1)) (xs (i + 2))) (m6 := mX6_kind (xs (i + 1)) (xs (i + 2))) (fun u v h => go_kind (xs (i + 1)) (xs (i + 2)) h) hu
  refine z_aload (i := 1) (a := xA w) dL_987 rfl ?_
  refine z_arg (j := 1) dL_988 dL_989 dL_990 dL_991 dL_992 rfl (by decide) hi hn ?_
  refine z_arg (j := 2) dL_993 dL_994 dL_995 dL_996 dL_997 rfl (by decide) hi hn ?_
  refine z_call1 (M := ML) (idx := 116) (ci := 5) (k := 2) (st := []) (ctX5_kind w) (by decide +kernel) (by decide +kernel) (by decide) (by decide) rfl (prX5_kind w) (fun s a m h => h.2.2.2.2.2.2) hcs hss dL_998 (as := [.ref (xA w), .int (xs (i + 1)), .int (xs (i + 2))]) (u1 := (mX5_kind (xs (i + 1)) (xs (i + 2)) u)) (v := .int (rX5_kind (xs (i + 1)) (xs (i + 2)) u)) (Nat.le_of_ble_eq_true rfl) ⟨rfl, hw, h5⟩ rfl ?_
  refine z_aload (i := 2) (a := mA w) dL_1001 rfl ?_
  refine z_arg (j := 1) dL_1002 dL_1003 dL_1004 dL_1005 dL_1006 rfl (by decide) hi hn ?_
  refine z_arg (j := 2) dL_1007 dL_1008 dL_1009 dL_1010 dL_1011 rfl (by decide) hi hn ?_
  refine z_call1 (M := ML) (idx := 119) (ci := 6) (k := 2) (st := [.int (rX5_kind (xs (i + 1)) (xs (i + 2)) u)]) (ctX6_kind w) (by decide +kernel) (by decide +kernel) (by decide) (by decide) rfl (prX6_kind w) (fun s a m h => h.2.2.2.2.2.2) hcs hss dL_1012 (as := [.ref (mA w), .int (xs (i + 1)), .int (xs (i + 2))]) (u1 := (mX6_kind (xs (i + 1)) (xs (i + 2)) (mX5_kind (xs (i + 1)) (xs (i + 2)) u))) (v := .int (rX6_kind (xs (i + 1)) (xs (i + 2)) (mX5_kind (xs (i + 1)) (xs (i + 2)) u))) (Nat.le_of_ble_eq_true rfl) ⟨rfl, h6⟩ rfl ?_
  refine z_icmp_eq dL_1015 (t := 1466) (by decide) he ?_
  exact kk _ hr
theorem law_26 {w : WW} {b n cells slots i : Nat} {xs : Nat → Int32} (hw : wOk w) (hn : n ≤ 3072) (hi : i + 6 ≤ n) (hcs : cells ≤ 600000) (hss : slots ≤ 7302250) {u : MM} (hu : Rl u u) (kk : ∀ v, Rl v v → GZ w ML (XL w b n xs) (ZL b) (WO w v) cells slots 1466 (LLw w b i) []) : GZ w ML (XL w b n xs) (ZL b) (WO w u) cells slots 1020 (LLw w b i) [] := by
  obtain ⟨h5, h6, he, hr⟩ := two (p5 := pX5_guard (xs (i + 1)) (xs (i + 2))) (p6 := pX6_guard (xs (i + 1)) (xs (i + 2))) (r5 := rX5_guard (xs (i + 1)) (xs (i + 2))) (r6 := rX6_guard (xs (i + 1)) (xs (i + 2))) (m5 := mX5_guard (xs (i + 1)) (xs (i + 2))) (m6 := mX6_guard (xs (i + 1)) (xs (i + 2))) (fun u v h => go_guard (xs (i + 1)) (xs (i + 2)) h) hu
  refine z_aload (i := 1) (a := xA w) dL_1020 rfl ?_
  refine z_arg (j := 1) dL_1021 dL_1022 dL_1023 dL_1024 dL_1025 rfl (by decide) hi hn ?_
  refine z_arg (j := 2) dL_1026 dL_1027 dL_1028 dL_1029 dL_1030 rfl (by decide) hi hn ?_
  refine z_call1 (M := ML) (idx := 120) (ci := 5) (k := 2) (st := []) (ctX5_guard w) (by decide +kernel) (by decide +kernel) (by decide) (by decide) rfl (prX5_guard w) (fun s a m h => h.2.2.2.2.2.2) hcs hss dL_1031 (as := [.ref (xA w), .int (xs (i + 1)), .int (xs (i + 2))]) (u1 := (mX5_guard (xs (i + 1)) (xs (i + 2)) u)) (v := .int (rX5_guard (xs (i + 1)) (xs (i + 2)) u)) (Nat.le_of_ble_eq_true rfl) ⟨rfl, h5⟩ rfl ?_
  refine z_aload (i := 2) (a := mA w) dL_1034 rfl ?_
  refine z_arg (j := 1) dL_1035 dL_1036 dL_1037 dL_1038 dL_1039 rfl (by decide) hi hn ?_
  refine z_arg (j := 2) dL_1040 dL_1041 dL_1042 dL_1043 dL_1044 rfl (by decide) hi hn ?_
  refine z_call1 (M := ML) (idx := 123) (ci := 6) (k := 2) (st := [.int (rX5_guard (xs (i + 1)) (xs (i + 2)) u)]) (ctX6_guard w) (by decide +kernel) (by decide +kernel) (by decide) (by decide) rfl (prX6_guard w) (fun s a m h => h.2.2.2.2.2.2) hcs hss dL_1045 (as := [.ref (mA w), .int (xs (i + 1)), .int (xs (i + 2))]) (u1 := (mX6_guard (xs (i + 1)) (xs (i + 2)) (mX5_guard (xs (i + 1)) (xs (i + 2)) u))) (v := .int (rX6_guard (xs (i + 1)) (xs (i + 2)) (mX5_guard (xs (i + 1)) (xs (i + 2)) u))) (Nat.le_of_ble_eq_true rfl) ⟨rfl, h6⟩ rfl ?_
  refine z_icmp_eq dL_1048 (t := 1466) (by decide) he ?_
  exact kk _ hr
theorem law_27 {w : WW} {b n cells slots i : Nat} {xs : Nat → Int32} (hw : wOk w) (hn : n ≤ 3072) (hi : i + 6 ≤ n) (hcs : cells ≤ 600000) (hss : slots ≤ 7302250) {u : MM} (hu : Rl u u) (kk : ∀ v, Rl v v → GZ w ML (XL w b n xs) (ZL b) (WO w v) cells slots 1466 (LLw w b i) []) : GZ w ML (XL w b n xs) (ZL b) (WO w u) cells slots 1053 (LLw w b i) [] := by
  obtain ⟨h5, h6, he, hr⟩ := two (p5 := pX5_feed (xs (i + 1)) (xs (i + 2))) (p6 := pX6_feed (xs (i + 1)) (xs (i + 2))) (r5 := rX5_feed (xs (i + 1)) (xs (i + 2))) (r6 := rX6_feed (xs (i + 1)) (xs (i + 2))) (m5 := mX5_feed (xs (i + 1)) (xs (i + 2))) (m6 := mX6_feed (xs (i + 1)) (xs (i + 2))) (fun u v h => go_feed (xs (i + 1)) (xs (i + 2)) h) hu
  refine z_aload (i := 1) (a := xA w) dL_1053 rfl ?_
  refine z_arg (j := 1) dL_1054 dL_1055 dL_1056 dL_1057 dL_1058 rfl (by decide) hi hn ?_
  refine z_arg (j := 2) dL_1059 dL_1060 dL_1061 dL_1062 dL_1063 rfl (by decide) hi hn ?_
  refine z_call1 (M := ML) (idx := 124) (ci := 5) (k := 2) (st := []) (ctX5_feed w) (by decide +kernel) (by decide +kernel) (by decide) (by decide) rfl (prX5_feed w) (fun s a m h => h.2.2.2.2.2.2) hcs hss dL_1064 (as := [.ref (xA w), .int (xs (i + 1)), .int (xs (i + 2))]) (u1 := (mX5_feed (xs (i + 1)) (xs (i + 2)) u)) (v := .int (rX5_feed (xs (i + 1)) (xs (i + 2)) u)) (Nat.le_of_ble_eq_true rfl) ⟨rfl, h5⟩ rfl ?_
  refine z_aload (i := 2) (a := mA w) dL_1067 rfl ?_
  refine z_arg (j := 1) dL_1068 dL_1069 dL_1070 dL_1071 dL_1072 rfl (by decide) hi hn ?_
  refine z_arg (j := 2) dL_1073 dL_1074 dL_1075 dL_1076 dL_1077 rfl (by decide) hi hn ?_
  refine z_call1 (M := ML) (idx := 127) (ci := 6) (k := 2) (st := [.int (rX5_feed (xs (i + 1)) (xs (i + 2)) u)]) (ctX6_feed w) (by decide +kernel) (by decide +kernel) (by decide) (by decide) rfl (prX6_feed w) (fun s a m h => h.2.2.2.2.2.2) hcs hss dL_1078 (as := [.ref (mA w), .int (xs (i + 1)), .int (xs (i + 2))]) (u1 := (mX6_feed (xs (i + 1)) (xs (i + 2)) (mX5_feed (xs (i + 1)) (xs (i + 2)) u))) (v := .int (rX6_feed (xs (i + 1)) (xs (i + 2)) (mX5_feed (xs (i + 1)) (xs (i + 2)) u))) (Nat.le_of_ble_eq_true rfl) ⟨rfl, h6⟩ rfl ?_
  refine z_icmp_eq dL_1081 (t := 1466) (by decide) he ?_
  exact kk _ hr
theorem law_28 {w : WW} {b n cells slots i : Nat} {xs : Nat → Int32} (hw : wOk w) (hn : n ≤ 3072) (hi : i + 6 ≤ n) (hcs : cells ≤ 600000) (hss : slots ≤ 7302250) {u : MM} (hu : Rl u u) (kk : ∀ v, Rl v v → GZ w ML (XL w b n xs) (ZL b) (WO w v) cells slots 1466 (LLw w b i) []) : GZ w ML (XL w b n xs) (ZL b) (WO w u) cells slots 1086 (LLw w b i) [] := by
  obtain ⟨h5, h6, he, hr⟩ := two (p5 := pX5_wipe ) (p6 := pX6_wipe ) (r5 := rX5_wipe ) (r6 := rX6_wipe ) (m5 := mX5_wipe ) (m6 := mX6_wipe ) (fun u v h => go_wipe  h) hu
  refine z_aload (i := 1) (a := xA w) dL_1086 rfl ?_
  refine z_call1 (M := ML) (idx := 128) (ci := 5) (k := 0) (st := []) (ctX5_wipe w) (by decide +kernel) (by decide +kernel) (by decide) (by decide) rfl (prX5_wipe w) (fun s a m h => h.2.2.2.2.2.2) hcs hss dL_1087 (as := [.ref (xA w)]) (u1 := (mX5_wipe u)) (v := .int (rX5_wipe  u)) (Nat.le_of_ble_eq_true rfl) ⟨rfl, h5⟩ rfl ?_
  refine z_aload (i := 2) (a := mA w) dL_1090 rfl ?_
  refine z_call1 (M := ML) (idx := 132) (ci := 6) (k := 0) (st := [.int (rX5_wipe  u)]) (ctX6_wipe w) (by decide +kernel) (by decide +kernel) (by decide) (by decide) rfl (prX6_wipe w) (fun s a m h => h.2.2.2.2.2.2) hcs hss dL_1091 (as := [.ref (mA w)]) (u1 := (mX6_wipe (mX5_wipe u))) (v := .int (rX6_wipe  (mX5_wipe u))) (Nat.le_of_ble_eq_true rfl) ⟨rfl, h6⟩ rfl ?_
  refine z_icmp_eq dL_1094 (t := 1466) (by decide) he ?_
  exact kk _ hr
theorem law_29 {w : WW} {b n cells slots i : Nat} {xs : Nat → Int32} (hw : wOk w) (hn : n ≤ 3072) (hi : i + 6 ≤ n) (hcs : cells ≤ 600000) (hss : slots ≤ 7302250) {u : MM} (hu : Rl u u) (kk : ∀ v, Rl v v → GZ w ML (XL w b n xs) (ZL b) (WO w v) cells slots 1466 (LLw w b i) []) : GZ w ML (XL w b n xs) (ZL b) (WO w u) cells slots 1099 (LLw w b i) [] := by
  obtain ⟨h5, h6, he, hr⟩ := two (p5 := pX5_hall ) (p6 := pX6_hall ) (r5 := rX5_hall ) (r6 := rX6_hall ) (m5 := mX5_hall ) (m6 := mX6_hall ) (fun u v h => go_hall  h) hu
  refine z_aload (i := 1) (a := xA w) dL_1099 rfl ?_
  refine z_call1 (M := ML) (idx := 133) (ci := 5) (k := 0) (st := []) (ctX5_hall w) (by decide +kernel) (by decide +kernel) (by decide) (by decide) rfl (prX5_hall w) (fun s a m h => h.2.2.2.2.2.2) hcs hss dL_1100 (as := [.ref (xA w)]) (u1 := (mX5_hall u)) (v := .int (rX5_hall  u)) (Nat.le_of_ble_eq_true rfl) ⟨rfl, hw, h5⟩ rfl ?_
  refine z_aload (i := 2) (a := mA w) dL_1103 rfl ?_
  refine z_call1 (M := ML) (idx := 136) (ci := 6) (k := 0) (st := [.int (rX5_hall  u)]) (ctX6_hall w) (by decide +kernel) (by decide +kernel) (by decide) (by decide) rfl (prX6_hall w) (fun s a m h => h.2.2.2.2.2.2) hcs hss dL_1104 (as := [.ref (mA w)]) (u1 := (mX6_hall (mX5_hall u))) (v := .int (rX6_hall  (mX5_hall u))) (Nat.le_of_ble_eq_true rfl) ⟨rfl, h6⟩ rfl ?_
  refine z_icmp_eq dL_1107 (t := 1466) (by decide) he ?_
  exact kk _ hr
theorem law_30 {w : WW} {b n cells slots i : Nat} {xs : Nat → Int32} (hw : wOk w) (hn : n ≤ 3072) (hi : i + 6 ≤ n) (hcs : cells ≤ 600000) (hss : slots ≤ 7302250) {u : MM} (hu : Rl u u) (kk : ∀ v, Rl v v → GZ w ML (XL w b n xs) (ZL b) (WO w v) cells slots 1466 (LLw w b i) []) : GZ w ML (XL w b n xs) (ZL b) (WO w u) cells slots 1112 (LLw w b i) [] := by
  obtain ⟨h5, h6, he, hr⟩ := two (p5 := pX5_sheet (xs (i + 1)) (xs (i + 2)) (xs (i + 3))) (p6 := pX6_sheet (xs (i + 1)) (xs (i + 2)) (xs (i + 3))) (r5 := rX5_sheet (xs (i + 1)) (xs (i + 2)) (xs (i + 3))) (r6 := rX6_sheet (xs (i + 1)) (xs (i + 2)) (xs (i + 3))) (m5 := mX5_sheet (xs (i + 1)) (xs (i + 2)) (xs (i + 3))) (m6 := mX6_sheet (xs (i + 1)) (xs (i + 2)) (xs (i + 3))) (fun u v h => go_sheet (xs (i + 1)) (xs (i + 2)) (xs (i + 3)) h) hu
  refine z_aload (i := 1) (a := xA w) dL_1112 rfl ?_
  refine z_arg (j := 1) dL_1113 dL_1114 dL_1115 dL_1116 dL_1117 rfl (by decide) hi hn ?_
  refine z_arg (j := 2) dL_1118 dL_1119 dL_1120 dL_1121 dL_1122 rfl (by decide) hi hn ?_
  refine z_arg (j := 3) dL_1123 dL_1124 dL_1125 dL_1126 dL_1127 rfl (by decide) hi hn ?_
  refine z_call1 (M := ML) (idx := 137) (ci := 5) (k := 3) (st := []) (ctX5_sheet w) (by decide +kernel) (by decide +kernel) (by decide) (by decide) rfl (prX5_sheet w) (fun s a m h => h.2.2.2.2.2.2) hcs hss dL_1128 (as := [.ref (xA w), .int (xs (i + 1)), .int (xs (i + 2)), .int (xs (i + 3))]) (u1 := (mX5_sheet (xs (i + 1)) (xs (i + 2)) (xs (i + 3)) u)) (v := .int (rX5_sheet (xs (i + 1)) (xs (i + 2)) (xs (i + 3)) u)) (Nat.le_of_ble_eq_true rfl) ⟨rfl, h5⟩ rfl ?_
  refine z_aload (i := 2) (a := mA w) dL_1131 rfl ?_
  refine z_arg (j := 1) dL_1132 dL_1133 dL_1134 dL_1135 dL_1136 rfl (by decide) hi hn ?_
  refine z_arg (j := 2) dL_1137 dL_1138 dL_1139 dL_1140 dL_1141 rfl (by decide) hi hn ?_
  refine z_arg (j := 3) dL_1142 dL_1143 dL_1144 dL_1145 dL_1146 rfl (by decide) hi hn ?_
  refine z_call1 (M := ML) (idx := 140) (ci := 6) (k := 3) (st := [.int (rX5_sheet (xs (i + 1)) (xs (i + 2)) (xs (i + 3)) u)]) (ctX6_sheet w) (by decide +kernel) (by decide +kernel) (by decide) (by decide) rfl (prX6_sheet w) (fun s a m h => h.2.2.2.2.2.2) hcs hss dL_1147 (as := [.ref (mA w), .int (xs (i + 1)), .int (xs (i + 2)), .int (xs (i + 3))]) (u1 := (mX6_sheet (xs (i + 1)) (xs (i + 2)) (xs (i + 3)) (mX5_sheet (xs (i + 1)) (xs (i + 2)) (xs (i + 3)) u))) (v := .int (rX6_sheet (xs (i + 1)) (xs (i + 2)) (xs (i + 3)) (mX5_sheet (xs (i + 1)) (xs (i + 2)) (xs (i + 3)) u))) (Nat.le_of_ble_eq_true rfl) ⟨rfl, h6⟩ rfl ?_
  refine z_icmp_eq dL_1150 (t := 1466) (by decide) he ?_
  exact kk _ hr
theorem law_31 {w : WW} {b n cells slots i : Nat} {xs : Nat → Int32} (hw : wOk w) (hn : n ≤ 3072) (hi : i + 6 ≤ n) (hcs : cells ≤ 600000) (hss : slots ≤ 7302250) {u : MM} (hu : Rl u u) (kk : ∀ v, Rl v v → GZ w ML (XL w b n xs) (ZL b) (WO w v) cells slots 1466 (LLw w b i) []) : GZ w ML (XL w b n xs) (ZL b) (WO w u) cells slots 1155 (LLw w b i) [] := by
  obtain ⟨h5, h6, he, hr⟩ := two (p5 := pX5_write (xs (i + 1)) (xs (i + 2)) (lawJ (xs (i + 3)) (xs (i + 4)))) (p6 := pX6_write (xs (i + 1)) (xs (i + 2)) (lawJ (xs (i + 3)) (xs (i + 4)))) (r5 := rX5_write (xs (i + 1)) (xs (i + 2)) (lawJ (xs (i + 3)) (xs (i + 4)))) (r6 := rX6_write (xs (i + 1)) (xs (i + 2)) (lawJ (xs (i + 3)) (xs (i + 4)))) (m5 := mX5_write (xs (i + 1)) (xs (i + 2)) (lawJ (xs (i + 3)) (xs (i + 4)))) (m6 := mX6_write (xs (i + 1)) (xs (i + 2)) (lawJ (xs (i + 3)) (xs (i + 4)))) (fun u v h => go_write (xs (i + 1)) (xs (i + 2)) (lawJ (xs (i + 3)) (xs (i + 4))) h) hu
  refine z_aload (i := 1) (a := xA w) dL_1155 rfl ?_
  refine z_arg (j := 1) dL_1156 dL_1157 dL_1158 dL_1159 dL_1160 rfl (by decide) hi hn ?_
  refine z_arg (j := 2) dL_1161 dL_1162 dL_1163 dL_1164 dL_1165 rfl (by decide) hi hn ?_
  refine z_arg (j := 3) dL_1166 dL_1167 dL_1168 dL_1169 dL_1170 rfl (by decide) hi hn ?_
  refine z_i2l dL_1171 ?_
  refine z_bipush dL_1172 ?_
  refine z_lshl dL_1174 ?_
  refine z_arg (j := 4) dL_1175 dL_1176 dL_1177 dL_1178 dL_1179 rfl (by decide) hi hn ?_
  refine z_i2l dL_1180 ?_
  refine z_ldc (v := 4294967295) (by decide +kernel) dL_1181 ?_
  refine z_land dL_1184 ?_
  refine z_lor (v := lawJ (xs (i + 3)) (xs (i + 4))) dL_1185 rfl ?_
  refine z_call1 (M := ML) (idx := 143) (ci := 5) (k := 3) (st := []) (ctX5_write w) (by decide +kernel) (by decide +kernel) (by decide) (by decide) rfl (prX5_write w) (fun s a m h => h.2.2.2.2.2.2) hcs hss dL_1186 (as := [.ref (xA w), .int (xs (i + 1)), .int (xs (i + 2)), .long (lawJ (xs (i + 3)) (xs (i + 4)))]) (u1 := (mX5_write (xs (i + 1)) (xs (i + 2)) (lawJ (xs (i + 3)) (xs (i + 4))) u)) (v := .long (rX5_write (xs (i + 1)) (xs (i + 2)) (lawJ (xs (i + 3)) (xs (i + 4))) u)) (Nat.le_of_ble_eq_true rfl) ⟨rfl, h5⟩ rfl ?_
  refine z_aload (i := 2) (a := mA w) dL_1189 rfl ?_
  refine z_arg (j := 1) dL_1190 dL_1191 dL_1192 dL_1193 dL_1194 rfl (by decide) hi hn ?_
  refine z_arg (j := 2) dL_1195 dL_1196 dL_1197 dL_1198 dL_1199 rfl (by decide) hi hn ?_
  refine z_arg (j := 3) dL_1200 dL_1201 dL_1202 dL_1203 dL_1204 rfl (by decide) hi hn ?_
  refine z_i2l dL_1205 ?_
  refine z_bipush dL_1206 ?_
  refine z_lshl dL_1208 ?_
  refine z_arg (j := 4) dL_1209 dL_1210 dL_1211 dL_1212 dL_1213 rfl (by decide) hi hn ?_
  refine z_i2l dL_1214 ?_
  refine z_ldc (v := 4294967295) (by decide +kernel) dL_1215 ?_
  refine z_land dL_1218 ?_
  refine z_lor (v := lawJ (xs (i + 3)) (xs (i + 4))) dL_1219 rfl ?_
  refine z_call1 (M := ML) (idx := 147) (ci := 6) (k := 3) (st := [.long (rX5_write (xs (i + 1)) (xs (i + 2)) (lawJ (xs (i + 3)) (xs (i + 4))) u)]) (ctX6_write w) (by decide +kernel) (by decide +kernel) (by decide) (by decide) rfl (prX6_write w) (fun s a m h => h.2.2.2.2.2.2) hcs hss dL_1220 (as := [.ref (mA w), .int (xs (i + 1)), .int (xs (i + 2)), .long (lawJ (xs (i + 3)) (xs (i + 4)))]) (u1 := (mX6_write (xs (i + 1)) (xs (i + 2)) (lawJ (xs (i + 3)) (xs (i + 4))) (mX5_write (xs (i + 1)) (xs (i + 2)) (lawJ (xs (i + 3)) (xs (i + 4))) u))) (v := .long (rX6_write (xs (i + 1)) (xs (i + 2)) (lawJ (xs (i + 3)) (xs (i + 4))) (mX5_write (xs (i + 1)) (xs (i + 2)) (lawJ (xs (i + 3)) (xs (i + 4))) u))) (Nat.le_of_ble_eq_true rfl) ⟨rfl, h6⟩ rfl ?_
  refine z_lcmp0 dL_1223 dL_1224 (t := 1466) (by decide) he ?_
  exact kk _ hr
