/-! ===== the law's cases ===== -/
theorem law_32 {w : WW} {b n cells slots i : Nat} {xs : Nat → Int32} (hw : wOk w) (hn : n ≤ 3072) (hi : i + 6 ≤ n) (hcs : cells ≤ 600000) (hss : slots ≤ 7302250) {u : MM} (hu : Rl u u) (kk : ∀ v, Rl v v → GZ w ML (XL w b n xs) (ZL b) (WO w v) cells slots 1466 (LLw w b i) []) : GZ w ML (XL w b n xs) (ZL b) (WO w u) cells slots 1229 (LLw w b i) [] := by
  obtain ⟨h5, h6, he, hr⟩ := two (p5 := pX5_copy (xs (i + 1)) (xs (i + 2)) (xs (i + 3)) (xs (i + 4)) (xs (i + 5))) (p6 := pX6_copy (xs (i + 1)) (xs (i + 2)) (xs (i + 3)) (xs (i + 4)) (xs (i + 5))) (r5 := rX5_copy (xs (i + 1)) (xs (i + 2)) (xs (i + 3)) (xs (i + 4)) (xs (i + 5))) (r6 := rX6_copy (xs (i + 1)) (xs (i + 2)) (xs (i + 3)) (xs (i + 4)) (xs (i + 5))) (m5 := mX5_copy (xs (i + 1)) (xs (i + 2)) (xs (i + 3)) (xs (i + 4)) (xs (i + 5))) (m6 := mX6_copy (xs (i + 1)) (xs (i + 2)) (xs (i + 3)) (xs (i + 4)) (xs (i + 5))) (fun u v h => go_copy (xs (i + 1)) (xs (i + 2)) (xs (i + 3)) (xs (i + 4)) (xs (i + 5)) h) hu
  refine z_aload (i := 1) (a := xA w) dL_1229 rfl ?_
  refine z_arg (j := 1) dL_1230 dL_1231 dL_1232 dL_1233 dL_1234 rfl (by decide) hi hn ?_
  refine z_arg (j := 2) dL_1235 dL_1236 dL_1237 dL_1238 dL_1239 rfl (by decide) hi hn ?_
  refine z_arg (j := 3) dL_1240 dL_1241 dL_1242 dL_1243 dL_1244 rfl (by decide) hi hn ?_
  refine z_arg (j := 4) dL_1245 dL_1246 dL_1247 dL_1248 dL_1249 rfl (by decide) hi hn ?_
  refine z_arg (j := 5) dL_1250 dL_1251 dL_1252 dL_1253 dL_1254 rfl (by decide) hi hn ?_
  refine z_call1 (M := ML) (idx := 148) (ci := 5) (k := 5) (st := []) (ctX5_copy w) (by decide +kernel) (by decide +kernel) (by decide) (by decide) rfl (prX5_copy w) (fun s a m h => h.2.2.2.2.2.2) hcs hss dL_1255 (as := [.ref (xA w), .int (xs (i + 1)), .int (xs (i + 2)), .int (xs (i + 3)), .int (xs (i + 4)), .int (xs (i + 5))]) (u1 := (mX5_copy (xs (i + 1)) (xs (i + 2)) (xs (i + 3)) (xs (i + 4)) (xs (i + 5)) u)) (v := .int (rX5_copy (xs (i + 1)) (xs (i + 2)) (xs (i + 3)) (xs (i + 4)) (xs (i + 5)) u)) (Nat.le_of_ble_eq_true rfl) ⟨rfl, h5⟩ rfl ?_
  refine z_aload (i := 2) (a := mA w) dL_1258 rfl ?_
  refine z_arg (j := 1) dL_1259 dL_1260 dL_1261 dL_1262 dL_1263 rfl (by decide) hi hn ?_
  refine z_arg (j := 2) dL_1264 dL_1265 dL_1266 dL_1267 dL_1268 rfl (by decide) hi hn ?_
  refine z_arg (j := 3) dL_1269 dL_1270 dL_1271 dL_1272 dL_1273 rfl (by decide) hi hn ?_
  refine z_arg (j := 4) dL_1274 dL_1275 dL_1276 dL_1277 dL_1278 rfl (by decide) hi hn ?_
  refine z_arg (j := 5) dL_1279 dL_1280 dL_1281 dL_1282 dL_1283 rfl (by decide) hi hn ?_
  refine z_call1 (M := ML) (idx := 152) (ci := 6) (k := 5) (st := [.int (rX5_copy (xs (i + 1)) (xs (i + 2)) (xs (i + 3)) (xs (i + 4)) (xs (i + 5)) u)]) (ctX6_copy w) (by decide +kernel) (by decide +kernel) (by decide) (by decide) rfl (prX6_copy w) (fun s a m h => h.2.2.2.2.2.2) hcs hss dL_1284 (as := [.ref (mA w), .int (xs (i + 1)), .int (xs (i + 2)), .int (xs (i + 3)), .int (xs (i + 4)), .int (xs (i + 5))]) (u1 := (mX6_copy (xs (i + 1)) (xs (i + 2)) (xs (i + 3)) (xs (i + 4)) (xs (i + 5)) (mX5_copy (xs (i + 1)) (xs (i + 2)) (xs (i + 3)) (xs (i + 4)) (xs (i + 5)) u))) (v := .int (rX6_copy (xs (i + 1)) (xs (i + 2)) (xs (i + 3)) (xs (i + 4)) (xs (i + 5)) (mX5_copy (xs (i + 1)) (xs (i + 2)) (xs (i + 3)) (xs (i + 4)) (xs (i + 5)) u))) (Nat.le_of_ble_eq_true rfl) ⟨rfl, h6⟩ rfl ?_
  refine z_icmp_eq dL_1287 (t := 1466) (by decide) he ?_
  exact kk _ hr
theorem law_33 {w : WW} {b n cells slots i : Nat} {xs : Nat → Int32} (hw : wOk w) (hn : n ≤ 3072) (hi : i + 6 ≤ n) (hcs : cells ≤ 600000) (hss : slots ≤ 7302250) {u : MM} (hu : Rl u u) (kk : ∀ v, Rl v v → GZ w ML (XL w b n xs) (ZL b) (WO w v) cells slots 1466 (LLw w b i) []) : GZ w ML (XL w b n xs) (ZL b) (WO w u) cells slots 1292 (LLw w b i) [] := by
  obtain ⟨h5, h6, he, hr⟩ := two (p5 := pX5_lays (xs (i + 1))) (p6 := pX6_lays (xs (i + 1))) (r5 := rX5_lays (xs (i + 1))) (r6 := rX6_lays (xs (i + 1))) (m5 := mX5_lays (xs (i + 1))) (m6 := mX6_lays (xs (i + 1))) (fun u v h => go_lays (xs (i + 1)) h) hu
  refine z_aload (i := 1) (a := xA w) dL_1292 rfl ?_
  refine z_arg (j := 1) dL_1293 dL_1294 dL_1295 dL_1296 dL_1297 rfl (by decide) hi hn ?_
  refine z_call1 (M := ML) (idx := 153) (ci := 5) (k := 1) (st := []) (ctX5_lays w) (by decide +kernel) (by decide +kernel) (by decide) (by decide) rfl (prX5_lays w) (fun s a m h => h.2.2.2.2.2.2) hcs hss dL_1298 (as := [.ref (xA w), .int (xs (i + 1))]) (u1 := (mX5_lays (xs (i + 1)) u)) (v := .int (rX5_lays (xs (i + 1)) u)) (Nat.le_of_ble_eq_true rfl) ⟨rfl, h5⟩ rfl ?_
  refine z_aload (i := 2) (a := mA w) dL_1301 rfl ?_
  refine z_arg (j := 1) dL_1302 dL_1303 dL_1304 dL_1305 dL_1306 rfl (by decide) hi hn ?_
  refine z_call1 (M := ML) (idx := 156) (ci := 6) (k := 1) (st := [.int (rX5_lays (xs (i + 1)) u)]) (ctX6_lays w) (by decide +kernel) (by decide +kernel) (by decide) (by decide) rfl (prX6_lays w) (fun s a m h => h.2.2.2.2.2.2) hcs hss dL_1307 (as := [.ref (mA w), .int (xs (i + 1))]) (u1 := (mX6_lays (xs (i + 1)) (mX5_lays (xs (i + 1)) u))) (v := .int (rX6_lays (xs (i + 1)) (mX5_lays (xs (i + 1)) u))) (Nat.le_of_ble_eq_true rfl) ⟨rfl, h6⟩ rfl ?_
  refine z_icmp_eq dL_1310 (t := 1466) (by decide) he ?_
  exact kk _ hr
theorem law_34 {w : WW} {b n cells slots i : Nat} {xs : Nat → Int32} (hw : wOk w) (hn : n ≤ 3072) (hi : i + 6 ≤ n) (hcs : cells ≤ 600000) (hss : slots ≤ 7302250) {u : MM} (hu : Rl u u) (kk : ∀ v, Rl v v → GZ w ML (XL w b n xs) (ZL b) (WO w v) cells slots 1466 (LLw w b i) []) : GZ w ML (XL w b n xs) (ZL b) (WO w u) cells slots 1315 (LLw w b i) [] := by
  obtain ⟨h5, h6, he, hr⟩ := two (p5 := pX5_roll (xs (i + 1)) (xs (i + 2))) (p6 := pX6_roll (xs (i + 1)) (xs (i + 2))) (r5 := rX5_roll (xs (i + 1)) (xs (i + 2))) (r6 := rX6_roll (xs (i + 1)) (xs (i + 2))) (m5 := mX5_roll (xs (i + 1)) (xs (i + 2))) (m6 := mX6_roll (xs (i + 1)) (xs (i + 2))) (fun u v h => go_roll (xs (i + 1)) (xs (i + 2)) h) hu
  refine z_aload (i := 1) (a := xA w) dL_1315 rfl ?_
  refine z_arg (j := 1) dL_1316 dL_1317 dL_1318 dL_1319 dL_1320 rfl (by decide) hi hn ?_
  refine z_arg (j := 2) dL_1321 dL_1322 dL_1323 dL_1324 dL_1325 rfl (by decide) hi hn ?_
  refine z_call1 (M := ML) (idx := 157) (ci := 5) (k := 2) (st := []) (ctX5_roll w) (by decide +kernel) (by decide +kernel) (by decide) (by decide) rfl (prX5_roll w) (fun s a m h => h.2.2.2.2.2.2) hcs hss dL_1326 (as := [.ref (xA w), .int (xs (i + 1)), .int (xs (i + 2))]) (u1 := (mX5_roll (xs (i + 1)) (xs (i + 2)) u)) (v := .int (rX5_roll (xs (i + 1)) (xs (i + 2)) u)) (Nat.le_of_ble_eq_true rfl) ⟨rfl, hw, h5⟩ rfl ?_
  refine z_aload (i := 2) (a := mA w) dL_1329 rfl ?_
  refine z_arg (j := 1) dL_1330 dL_1331 dL_1332 dL_1333 dL_1334 rfl (by decide) hi hn ?_
  refine z_arg (j := 2) dL_1335 dL_1336 dL_1337 dL_1338 dL_1339 rfl (by decide) hi hn ?_
  refine z_call1 (M := ML) (idx := 160) (ci := 6) (k := 2) (st := [.int (rX5_roll (xs (i + 1)) (xs (i + 2)) u)]) (ctX6_roll w) (by decide +kernel) (by decide +kernel) (by decide) (by decide) rfl (prX6_roll w) (fun s a m h => h.2.2.2.2.2.2) hcs hss dL_1340 (as := [.ref (mA w), .int (xs (i + 1)), .int (xs (i + 2))]) (u1 := (mX6_roll (xs (i + 1)) (xs (i + 2)) (mX5_roll (xs (i + 1)) (xs (i + 2)) u))) (v := .int (rX6_roll (xs (i + 1)) (xs (i + 2)) (mX5_roll (xs (i + 1)) (xs (i + 2)) u))) (Nat.le_of_ble_eq_true rfl) ⟨rfl, h6⟩ rfl ?_
  refine z_icmp_eq dL_1343 (t := 1466) (by decide) he ?_
  exact kk _ hr
theorem law_35 {w : WW} {b n cells slots i : Nat} {xs : Nat → Int32} (hw : wOk w) (hn : n ≤ 3072) (hi : i + 6 ≤ n) (hcs : cells ≤ 600000) (hss : slots ≤ 7302250) {u : MM} (hu : Rl u u) (kk : ∀ v, Rl v v → GZ w ML (XL w b n xs) (ZL b) (WO w v) cells slots 1466 (LLw w b i) []) : GZ w ML (XL w b n xs) (ZL b) (WO w u) cells slots 1348 (LLw w b i) [] := by
  obtain ⟨h5, h6, he, hr⟩ := two (p5 := pX5_read (xs (i + 1)) (xs (i + 2))) (p6 := pX6_read (xs (i + 1)) (xs (i + 2))) (r5 := rX5_read (xs (i + 1)) (xs (i + 2))) (r6 := rX6_read (xs (i + 1)) (xs (i + 2))) (m5 := mX5_read (xs (i + 1)) (xs (i + 2))) (m6 := mX6_read (xs (i + 1)) (xs (i + 2))) (fun u v h => go_read (xs (i + 1)) (xs (i + 2)) h) hu
  refine z_aload (i := 1) (a := xA w) dL_1348 rfl ?_
  refine z_arg (j := 1) dL_1349 dL_1350 dL_1351 dL_1352 dL_1353 rfl (by decide) hi hn ?_
  refine z_arg (j := 2) dL_1354 dL_1355 dL_1356 dL_1357 dL_1358 rfl (by decide) hi hn ?_
  refine z_call1 (M := ML) (idx := 161) (ci := 5) (k := 2) (st := []) (ctX5_read w) (by decide +kernel) (by decide +kernel) (by decide) (by decide) rfl (prX5_read w) (fun s a m h => h.2.2.2.2.2.2) hcs hss dL_1359 (as := [.ref (xA w), .int (xs (i + 1)), .int (xs (i + 2))]) (u1 := (mX5_read (xs (i + 1)) (xs (i + 2)) u)) (v := .int (rX5_read (xs (i + 1)) (xs (i + 2)) u)) (Nat.le_of_ble_eq_true rfl) ⟨rfl, hw, h5⟩ rfl ?_
  refine z_aload (i := 2) (a := mA w) dL_1362 rfl ?_
  refine z_arg (j := 1) dL_1363 dL_1364 dL_1365 dL_1366 dL_1367 rfl (by decide) hi hn ?_
  refine z_arg (j := 2) dL_1368 dL_1369 dL_1370 dL_1371 dL_1372 rfl (by decide) hi hn ?_
  refine z_call1 (M := ML) (idx := 164) (ci := 6) (k := 2) (st := [.int (rX5_read (xs (i + 1)) (xs (i + 2)) u)]) (ctX6_read w) (by decide +kernel) (by decide +kernel) (by decide) (by decide) rfl (prX6_read w) (fun s a m h => h.2.2.2.2.2.2) hcs hss dL_1373 (as := [.ref (mA w), .int (xs (i + 1)), .int (xs (i + 2))]) (u1 := (mX6_read (xs (i + 1)) (xs (i + 2)) (mX5_read (xs (i + 1)) (xs (i + 2)) u))) (v := .int (rX6_read (xs (i + 1)) (xs (i + 2)) (mX5_read (xs (i + 1)) (xs (i + 2)) u))) (Nat.le_of_ble_eq_true rfl) ⟨rfl, h6⟩ rfl ?_
  refine z_icmp_eq dL_1376 (t := 1466) (by decide) he ?_
  exact kk _ hr
theorem law_36 {w : WW} {b n cells slots i : Nat} {xs : Nat → Int32} (hw : wOk w) (hn : n ≤ 3072) (hi : i + 6 ≤ n) (hcs : cells ≤ 600000) (hss : slots ≤ 7302250) {u : MM} (hu : Rl u u) (kk : ∀ v, Rl v v → GZ w ML (XL w b n xs) (ZL b) (WO w v) cells slots 1466 (LLw w b i) []) : GZ w ML (XL w b n xs) (ZL b) (WO w u) cells slots 1381 (LLw w b i) [] := by
  obtain ⟨h5, h6, he, hr⟩ := two (p5 := pX5_image ) (p6 := pX6_image ) (r5 := rX5_image ) (r6 := rX6_image ) (m5 := mX5_image ) (m6 := mX6_image ) (fun u v h => go_image  h) hu
  refine z_aload (i := 1) (a := xA w) dL_1381 rfl ?_
  refine z_call1 (M := ML) (idx := 165) (ci := 5) (k := 0) (st := []) (ctX5_image w) (by decide +kernel) (by decide +kernel) (by decide) (by decide) rfl (prX5_image w) (fun s a m h => h.2.2.2.2.2.2) hcs hss dL_1382 (as := [.ref (xA w)]) (u1 := (mX5_image u)) (v := .int (rX5_image  u)) (Nat.le_of_ble_eq_true rfl) ⟨rfl, h5⟩ rfl ?_
  refine z_aload (i := 2) (a := mA w) dL_1385 rfl ?_
  refine z_call1 (M := ML) (idx := 168) (ci := 6) (k := 0) (st := [.int (rX5_image  u)]) (ctX6_image w) (by decide +kernel) (by decide +kernel) (by decide) (by decide) rfl (prX6_image w) (fun s a m h => h.2.2.2.2.2.2) hcs hss dL_1386 (as := [.ref (mA w)]) (u1 := (mX6_image (mX5_image u))) (v := .int (rX6_image  (mX5_image u))) (Nat.le_of_ble_eq_true rfl) ⟨rfl, h6⟩ rfl ?_
  refine z_icmp_eq dL_1389 (t := 1466) (by decide) he ?_
  exact kk _ hr
theorem law_37 {w : WW} {b n cells slots i : Nat} {xs : Nat → Int32} (hw : wOk w) (hn : n ≤ 3072) (hi : i + 6 ≤ n) (hcs : cells ≤ 600000) (hss : slots ≤ 7302250) {u : MM} (hu : Rl u u) (kk : ∀ v, Rl v v → GZ w ML (XL w b n xs) (ZL b) (WO w v) cells slots 1466 (LLw w b i) []) : GZ w ML (XL w b n xs) (ZL b) (WO w u) cells slots 1394 (LLw w b i) [] := by
  obtain ⟨h5, h6, he, hr⟩ := two (p5 := pX5_undo ) (p6 := pX6_undo ) (r5 := rX5_undo ) (r6 := rX6_undo ) (m5 := mX5_undo ) (m6 := mX6_undo ) (fun u v h => go_undo  h) hu
  refine z_aload (i := 1) (a := xA w) dL_1394 rfl ?_
  refine z_call1 (M := ML) (idx := 169) (ci := 5) (k := 0) (st := []) (ctX5_undo w) (by decide +kernel) (by decide +kernel) (by decide) (by decide) rfl (prX5_undo w) (fun s a m h => h.2.2.2.2.2.2) hcs hss dL_1395 (as := [.ref (xA w)]) (u1 := (mX5_undo u)) (v := .int (rX5_undo  u)) (Nat.le_of_ble_eq_true rfl) ⟨rfl, h5⟩ rfl ?_
  refine z_aload (i := 2) (a := mA w) dL_1398 rfl ?_
  refine z_call1 (M := ML) (idx := 172) (ci := 6) (k := 0) (st := [.int (rX5_undo  u)]) (ctX6_undo w) (by decide +kernel) (by decide +kernel) (by decide) (by decide) rfl (prX6_undo w) (fun s a m h => h.2.2.2.2.2.2) hcs hss dL_1399 (as := [.ref (mA w)]) (u1 := (mX6_undo (mX5_undo u))) (v := .int (rX6_undo  (mX5_undo u))) (Nat.le_of_ble_eq_true rfl) ⟨rfl, h6⟩ rfl ?_
  refine z_icmp_eq dL_1402 (t := 1466) (by decide) he ?_
  exact kk _ hr
theorem law_38 {w : WW} {b n cells slots i : Nat} {xs : Nat → Int32} (hw : wOk w) (hn : n ≤ 3072) (hi : i + 6 ≤ n) (hcs : cells ≤ 600000) (hss : slots ≤ 7302250) {u : MM} (hu : Rl u u) (kk : ∀ v, Rl v v → GZ w ML (XL w b n xs) (ZL b) (WO w v) cells slots 1466 (LLw w b i) []) : GZ w ML (XL w b n xs) (ZL b) (WO w u) cells slots 1407 (LLw w b i) [] := by
  obtain ⟨h5, h6, he, hr⟩ := two (p5 := pX5_tear ) (p6 := pX6_tear ) (r5 := rX5_tear ) (r6 := rX6_tear ) (m5 := mX5_tear ) (m6 := mX6_tear ) (fun u v h => go_tear  h) hu
  refine z_aload (i := 1) (a := xA w) dL_1407 rfl ?_
  refine z_call1 (M := ML) (idx := 173) (ci := 5) (k := 0) (st := []) (ctX5_tear w) (by decide +kernel) (by decide +kernel) (by decide) (by decide) rfl (prX5_tear w) (fun s a m h => h.2.2.2.2.2.2) hcs hss dL_1408 (as := [.ref (xA w)]) (u1 := (mX5_tear u)) (v := .int (rX5_tear  u)) (Nat.le_of_ble_eq_true rfl) ⟨rfl, h5⟩ rfl ?_
  refine z_aload (i := 2) (a := mA w) dL_1411 rfl ?_
  refine z_call1 (M := ML) (idx := 176) (ci := 6) (k := 0) (st := [.int (rX5_tear  u)]) (ctX6_tear w) (by decide +kernel) (by decide +kernel) (by decide) (by decide) rfl (prX6_tear w) (fun s a m h => h.2.2.2.2.2.2) hcs hss dL_1412 (as := [.ref (mA w)]) (u1 := (mX6_tear (mX5_tear u))) (v := .int (rX6_tear  (mX5_tear u))) (Nat.le_of_ble_eq_true rfl) ⟨rfl, h6⟩ rfl ?_
  refine z_icmp_eq dL_1415 (t := 1466) (by decide) he ?_
  exact kk _ hr
theorem law_39 {w : WW} {b n cells slots i : Nat} {xs : Nat → Int32} (hw : wOk w) (hn : n ≤ 3072) (hi : i + 6 ≤ n) (hcs : cells ≤ 600000) (hss : slots ≤ 7302250) {u : MM} (hu : Rl u u) (kk : ∀ v, Rl v v → GZ w ML (XL w b n xs) (ZL b) (WO w v) cells slots 1466 (LLw w b i) []) : GZ w ML (XL w b n xs) (ZL b) (WO w u) cells slots 1420 (LLw w b i) [] := by
  obtain ⟨h5, h6, he, hr⟩ := two (p5 := pX5_count (xs (i + 1))) (p6 := pX6_count (xs (i + 1))) (r5 := rX5_count (xs (i + 1))) (r6 := rX6_count (xs (i + 1))) (m5 := mX5_count (xs (i + 1))) (m6 := mX6_count (xs (i + 1))) (fun u v h => go_count (xs (i + 1)) h) hu
  refine z_aload (i := 1) (a := xA w) dL_1420 rfl ?_
  refine z_arg (j := 1) dL_1421 dL_1422 dL_1423 dL_1424 dL_1425 rfl (by decide) hi hn ?_
  refine z_call1 (M := ML) (idx := 177) (ci := 5) (k := 1) (st := []) (ctX5_count w) (by decide +kernel) (by decide +kernel) (by decide) (by decide) rfl (prX5_count w) (fun s a m h => h.2.2.2.2.2.2) hcs hss dL_1426 (as := [.ref (xA w), .int (xs (i + 1))]) (u1 := (mX5_count (xs (i + 1)) u)) (v := .int (rX5_count (xs (i + 1)) u)) (Nat.le_of_ble_eq_true rfl) ⟨rfl, h5⟩ rfl ?_
  refine z_aload (i := 2) (a := mA w) dL_1429 rfl ?_
  refine z_arg (j := 1) dL_1430 dL_1431 dL_1432 dL_1433 dL_1434 rfl (by decide) hi hn ?_
  refine z_call1 (M := ML) (idx := 180) (ci := 6) (k := 1) (st := [.int (rX5_count (xs (i + 1)) u)]) (ctX6_count w) (by decide +kernel) (by decide +kernel) (by decide) (by decide) rfl (prX6_count w) (fun s a m h => h.2.2.2.2.2.2) hcs hss dL_1435 (as := [.ref (mA w), .int (xs (i + 1))]) (u1 := (mX6_count (xs (i + 1)) (mX5_count (xs (i + 1)) u))) (v := .int (rX6_count (xs (i + 1)) (mX5_count (xs (i + 1)) u))) (Nat.le_of_ble_eq_true rfl) ⟨rfl, h6⟩ rfl ?_
  refine z_icmp_eq dL_1438 (t := 1466) (by decide) he ?_
  exact kk _ hr
