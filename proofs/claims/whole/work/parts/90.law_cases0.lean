/-! ===== the law's cases ===== -/
abbrev LLw (w : WW) (b i : Nat) : LL := [some (.ref b), some (.ref (xA w)), some (.ref (mA w)), some (.int (nI i))]
theorem law_0 {w : WW} {b n cells slots i : Nat} {xs : Nat → Int32} (hw : wOk w) (hn : n ≤ 3072) (hi : i + 6 ≤ n) (hcs : cells ≤ 600000) (hss : slots ≤ 7302250) {u : MM} (hu : Rl u u) (kk : ∀ v, Rl v v → GZ w ML (XL w b n xs) (ZL b) (WO w v) cells slots 1466 (LLw w b i) []) : GZ w ML (XL w b n xs) (ZL b) (WO w u) cells slots 212 (LLw w b i) [] := by
  obtain ⟨h5, h6, he, hr⟩ := two (p5 := pX5_seat (xs (i + 1)) (xs (i + 2))) (p6 := pX6_seat (xs (i + 1)) (xs (i + 2))) (r5 := rX5_seat (xs (i + 1)) (xs (i + 2))) (r6 := rX6_seat (xs (i + 1)) (xs (i + 2))) (m5 := mX5_seat (xs (i + 1)) (xs (i + 2))) (m6 := mX6_seat (xs (i + 1)) (xs (i + 2))) (fun u v h => go_seat (xs (i + 1)) (xs (i + 2)) h) hu
  refine z_aload (i := 1) (a := xA w) dL_212 rfl ?_
  refine z_arg (j := 1) dL_213 dL_214 dL_215 dL_216 dL_217 rfl (by decide) hi hn ?_
  refine z_arg (j := 2) dL_218 dL_219 dL_220 dL_221 dL_222 rfl (by decide) hi hn ?_
  refine z_call1 (M := ML) (idx := 13) (ci := 5) (k := 2) (st := []) (ctX5_seat w) (by decide +kernel) (by decide +kernel) (by decide) (by decide) rfl (prX5_seat w) (fun s a m h => h.2.2.2.2.2.2) hcs hss dL_223 (as := [.ref (xA w), .int (xs (i + 1)), .int (xs (i + 2))]) (u1 := (mX5_seat (xs (i + 1)) (xs (i + 2)) u)) (v := .int (rX5_seat (xs (i + 1)) (xs (i + 2)) u)) (Nat.le_of_ble_eq_true rfl) ⟨rfl, h5⟩ rfl ?_
  refine z_aload (i := 2) (a := mA w) dL_226 rfl ?_
  refine z_arg (j := 1) dL_227 dL_228 dL_229 dL_230 dL_231 rfl (by decide) hi hn ?_
  refine z_arg (j := 2) dL_232 dL_233 dL_234 dL_235 dL_236 rfl (by decide) hi hn ?_
  refine z_call1 (M := ML) (idx := 17) (ci := 6) (k := 2) (st := [.int (rX5_seat (xs (i + 1)) (xs (i + 2)) u)]) (ctX6_seat w) (by decide +kernel) (by decide +kernel) (by decide) (by decide) rfl (prX6_seat w) (fun s a m h => h.2.2.2.2.2.2) hcs hss dL_237 (as := [.ref (mA w), .int (xs (i + 1)), .int (xs (i + 2))]) (u1 := (mX6_seat (xs (i + 1)) (xs (i + 2)) (mX5_seat (xs (i + 1)) (xs (i + 2)) u))) (v := .int (rX6_seat (xs (i + 1)) (xs (i + 2)) (mX5_seat (xs (i + 1)) (xs (i + 2)) u))) (Nat.le_of_ble_eq_true rfl) ⟨rfl, h6⟩ rfl ?_
  refine z_icmp_eq dL_240 (t := 1466) (by decide) he ?_
  exact kk _ hr
theorem law_1 {w : WW} {b n cells slots i : Nat} {xs : Nat → Int32} (hw : wOk w) (hn : n ≤ 3072) (hi : i + 6 ≤ n) (hcs : cells ≤ 600000) (hss : slots ≤ 7302250) {u : MM} (hu : Rl u u) (kk : ∀ v, Rl v v → GZ w ML (XL w b n xs) (ZL b) (WO w v) cells slots 1466 (LLw w b i) []) : GZ w ML (XL w b n xs) (ZL b) (WO w u) cells slots 245 (LLw w b i) [] := by
  obtain ⟨h5, h6, he, hr⟩ := two (p5 := pX5_seatOf (xs (i + 1)) (xs (i + 2))) (p6 := pX6_seatOf (xs (i + 1)) (xs (i + 2))) (r5 := rX5_seatOf (xs (i + 1)) (xs (i + 2))) (r6 := rX6_seatOf (xs (i + 1)) (xs (i + 2))) (m5 := mX5_seatOf (xs (i + 1)) (xs (i + 2))) (m6 := mX6_seatOf (xs (i + 1)) (xs (i + 2))) (fun u v h => go_seatOf (xs (i + 1)) (xs (i + 2)) h) hu
  refine z_aload (i := 1) (a := xA w) dL_245 rfl ?_
  refine z_arg (j := 1) dL_246 dL_247 dL_248 dL_249 dL_250 rfl (by decide) hi hn ?_
  refine z_arg (j := 2) dL_251 dL_252 dL_253 dL_254 dL_255 rfl (by decide) hi hn ?_
  refine z_call1 (M := ML) (idx := 18) (ci := 5) (k := 2) (st := []) (ctX5_seatOf w) (by decide +kernel) (by decide +kernel) (by decide) (by decide) rfl (prX5_seatOf w) (fun s a m h => h.2.2.2.2.2.2) hcs hss dL_256 (as := [.ref (xA w), .int (xs (i + 1)), .int (xs (i + 2))]) (u1 := (mX5_seatOf (xs (i + 1)) (xs (i + 2)) u)) (v := .int (rX5_seatOf (xs (i + 1)) (xs (i + 2)) u)) (Nat.le_of_ble_eq_true rfl) ⟨rfl, hw, h5⟩ rfl ?_
  refine z_aload (i := 2) (a := mA w) dL_259 rfl ?_
  refine z_arg (j := 1) dL_260 dL_261 dL_262 dL_263 dL_264 rfl (by decide) hi hn ?_
  refine z_arg (j := 2) dL_265 dL_266 dL_267 dL_268 dL_269 rfl (by decide) hi hn ?_
  refine z_call1 (M := ML) (idx := 21) (ci := 6) (k := 2) (st := [.int (rX5_seatOf (xs (i + 1)) (xs (i + 2)) u)]) (ctX6_seatOf w) (by decide +kernel) (by decide +kernel) (by decide) (by decide) rfl (prX6_seatOf w) (fun s a m h => h.2.2.2.2.2.2) hcs hss dL_270 (as := [.ref (mA w), .int (xs (i + 1)), .int (xs (i + 2))]) (u1 := (mX6_seatOf (xs (i + 1)) (xs (i + 2)) (mX5_seatOf (xs (i + 1)) (xs (i + 2)) u))) (v := .int (rX6_seatOf (xs (i + 1)) (xs (i + 2)) (mX5_seatOf (xs (i + 1)) (xs (i + 2)) u))) (Nat.le_of_ble_eq_true rfl) ⟨rfl, h6⟩ rfl ?_
  refine z_icmp_eq dL_273 (t := 1466) (by decide) he ?_
  exact kk _ hr
theorem law_2 {w : WW} {b n cells slots i : Nat} {xs : Nat → Int32} (hw : wOk w) (hn : n ≤ 3072) (hi : i + 6 ≤ n) (hcs : cells ≤ 600000) (hss : slots ≤ 7302250) {u : MM} (hu : Rl u u) (kk : ∀ v, Rl v v → GZ w ML (XL w b n xs) (ZL b) (WO w v) cells slots 1466 (LLw w b i) []) : GZ w ML (XL w b n xs) (ZL b) (WO w u) cells slots 278 (LLw w b i) [] := by
  obtain ⟨h5, h6, he, hr⟩ := two (p5 := pX5_worth (xs (i + 1)) (xs (i + 2))) (p6 := pX6_worth (xs (i + 1)) (xs (i + 2))) (r5 := rX5_worth (xs (i + 1)) (xs (i + 2))) (r6 := rX6_worth (xs (i + 1)) (xs (i + 2))) (m5 := mX5_worth (xs (i + 1)) (xs (i + 2))) (m6 := mX6_worth (xs (i + 1)) (xs (i + 2))) (fun u v h => go_worth (xs (i + 1)) (xs (i + 2)) h) hu
  refine z_aload (i := 1) (a := xA w) dL_278 rfl ?_
  refine z_arg (j := 1) dL_279 dL_280 dL_281 dL_282 dL_283 rfl (by decide) hi hn ?_
  refine z_arg (j := 2) dL_284 dL_285 dL_286 dL_287 dL_288 rfl (by decide) hi hn ?_
  refine z_call1 (M := ML) (idx := 22) (ci := 5) (k := 2) (st := []) (ctX5_worth w) (by decide +kernel) (by decide +kernel) (by decide) (by decide) rfl (prX5_worth w) (fun s a m h => h.2.2.2.2.2.2) hcs hss dL_289 (as := [.ref (xA w), .int (xs (i + 1)), .int (xs (i + 2))]) (u1 := (mX5_worth (xs (i + 1)) (xs (i + 2)) u)) (v := .int (rX5_worth (xs (i + 1)) (xs (i + 2)) u)) (Nat.le_of_ble_eq_true rfl) ⟨rfl, h5⟩ rfl ?_
  refine z_aload (i := 2) (a := mA w) dL_292 rfl ?_
  refine z_arg (j := 1) dL_293 dL_294 dL_295 dL_296 dL_297 rfl (by decide) hi hn ?_
  refine z_arg (j := 2) dL_298 dL_299 dL_300 dL_301 dL_302 rfl (by decide) hi hn ?_
  refine z_call1 (M := ML) (idx := 25) (ci := 6) (k := 2) (st := [.int (rX5_worth (xs (i + 1)) (xs (i + 2)) u)]) (ctX6_worth w) (by decide +kernel) (by decide +kernel) (by decide) (by decide) rfl (prX6_worth w) (fun s a m h => h.2.2.2.2.2.2) hcs hss dL_303 (as := [.ref (mA w), .int (xs (i + 1)), .int (xs (i + 2))]) (u1 := (mX6_worth (xs (i + 1)) (xs (i + 2)) (mX5_worth (xs (i + 1)) (xs (i + 2)) u))) (v := .int (rX6_worth (xs (i + 1)) (xs (i + 2)) (mX5_worth (xs (i + 1)) (xs (i + 2)) u))) (Nat.le_of_ble_eq_true rfl) ⟨rfl, h6⟩ rfl ?_
  refine z_icmp_eq dL_306 (t := 1466) (by decide) he ?_
  exact kk _ hr
theorem law_3 {w : WW} {b n cells slots i : Nat} {xs : Nat → Int32} (hw : wOk w) (hn : n ≤ 3072) (hi : i + 6 ≤ n) (hcs : cells ≤ 600000) (hss : slots ≤ 7302250) {u : MM} (hu : Rl u u) (kk : ∀ v, Rl v v → GZ w ML (XL w b n xs) (ZL b) (WO w v) cells slots 1466 (LLw w b i) []) : GZ w ML (XL w b n xs) (ZL b) (WO w u) cells slots 311 (LLw w b i) [] := by
  obtain ⟨h5, h6, he, hr⟩ := two (p5 := pX5_comes (xs (i + 1)) (xs (i + 2)) (xs (i + 3))) (p6 := pX6_comes (xs (i + 1)) (xs (i + 2)) (xs (i + 3))) (r5 := rX5_comes (xs (i + 1)) (xs (i + 2)) (xs (i + 3))) (r6 := rX6_comes (xs (i + 1)) (xs (i + 2)) (xs (i + 3))) (m5 := mX5_comes (xs (i + 1)) (xs (i + 2)) (xs (i + 3))) (m6 := mX6_comes (xs (i + 1)) (xs (i + 2)) (xs (i + 3))) (fun u v h => go_comes (xs (i + 1)) (xs (i + 2)) (xs (i + 3)) h) hu
  refine z_aload (i := 1) (a := xA w) dL_311 rfl ?_
  refine z_arg (j := 1) dL_312 dL_313 dL_314 dL_315 dL_316 rfl (by decide) hi hn ?_
  refine z_arg (j := 2) dL_317 dL_318 dL_319 dL_320 dL_321 rfl (by decide) hi hn ?_
  refine z_arg (j := 3) dL_322 dL_323 dL_324 dL_325 dL_326 rfl (by decide) hi hn ?_
  refine z_call1 (M := ML) (idx := 26) (ci := 5) (k := 3) (st := []) (ctX5_comes w) (by decide +kernel) (by decide +kernel) (by decide) (by decide) rfl (prX5_comes w) (fun s a m h => h.2.2.2.2.2.2) hcs hss dL_327 (as := [.ref (xA w), .int (xs (i + 1)), .int (xs (i + 2)), .int (xs (i + 3))]) (u1 := (mX5_comes (xs (i + 1)) (xs (i + 2)) (xs (i + 3)) u)) (v := .int (rX5_comes (xs (i + 1)) (xs (i + 2)) (xs (i + 3)) u)) (Nat.le_of_ble_eq_true rfl) ⟨rfl, h5⟩ rfl ?_
  refine z_aload (i := 2) (a := mA w) dL_330 rfl ?_
  refine z_arg (j := 1) dL_331 dL_332 dL_333 dL_334 dL_335 rfl (by decide) hi hn ?_
  refine z_arg (j := 2) dL_336 dL_337 dL_338 dL_339 dL_340 rfl (by decide) hi hn ?_
  refine z_arg (j := 3) dL_341 dL_342 dL_343 dL_344 dL_345 rfl (by decide) hi hn ?_
  refine z_call1 (M := ML) (idx := 30) (ci := 6) (k := 3) (st := [.int (rX5_comes (xs (i + 1)) (xs (i + 2)) (xs (i + 3)) u)]) (ctX6_comes w) (by decide +kernel) (by decide +kernel) (by decide) (by decide) rfl (prX6_comes w) (fun s a m h => h.2.2.2.2.2.2) hcs hss dL_346 (as := [.ref (mA w), .int (xs (i + 1)), .int (xs (i + 2)), .int (xs (i + 3))]) (u1 := (mX6_comes (xs (i + 1)) (xs (i + 2)) (xs (i + 3)) (mX5_comes (xs (i + 1)) (xs (i + 2)) (xs (i + 3)) u))) (v := .int (rX6_comes (xs (i + 1)) (xs (i + 2)) (xs (i + 3)) (mX5_comes (xs (i + 1)) (xs (i + 2)) (xs (i + 3)) u))) (Nat.le_of_ble_eq_true rfl) ⟨rfl, h6⟩ rfl ?_
  refine z_icmp_eq dL_349 (t := 1466) (by decide) he ?_
  exact kk _ hr
theorem law_4 {w : WW} {b n cells slots i : Nat} {xs : Nat → Int32} (hw : wOk w) (hn : n ≤ 3072) (hi : i + 6 ≤ n) (hcs : cells ≤ 600000) (hss : slots ≤ 7302250) {u : MM} (hu : Rl u u) (kk : ∀ v, Rl v v → GZ w ML (XL w b n xs) (ZL b) (WO w v) cells slots 1466 (LLw w b i) []) : GZ w ML (XL w b n xs) (ZL b) (WO w u) cells slots 354 (LLw w b i) [] := by
  obtain ⟨h5, h6, he, hr⟩ := two (p5 := pX5_of (xs (i + 1)) (xs (i + 2))) (p6 := pX6_of (xs (i + 1)) (xs (i + 2))) (r5 := rX5_of (xs (i + 1)) (xs (i + 2))) (r6 := rX6_of (xs (i + 1)) (xs (i + 2))) (m5 := mX5_of (xs (i + 1)) (xs (i + 2))) (m6 := mX6_of (xs (i + 1)) (xs (i + 2))) (fun u v h => go_of (xs (i + 1)) (xs (i + 2)) h) hu
  refine z_aload (i := 1) (a := xA w) dL_354 rfl ?_
  refine z_arg (j := 1) dL_355 dL_356 dL_357 dL_358 dL_359 rfl (by decide) hi hn ?_
  refine z_arg (j := 2) dL_360 dL_361 dL_362 dL_363 dL_364 rfl (by decide) hi hn ?_
  refine z_call1 (M := ML) (idx := 31) (ci := 5) (k := 2) (st := []) (ctX5_of w) (by decide +kernel) (by decide +kernel) (by decide) (by decide) rfl (prX5_of w) (fun s a m h => h.2.2.2.2.2.2) hcs hss dL_365 (as := [.ref (xA w), .int (xs (i + 1)), .int (xs (i + 2))]) (u1 := (mX5_of (xs (i + 1)) (xs (i + 2)) u)) (v := .int (rX5_of (xs (i + 1)) (xs (i + 2)) u)) (Nat.le_of_ble_eq_true rfl) ⟨rfl, hw, h5⟩ rfl ?_
  refine z_aload (i := 2) (a := mA w) dL_368 rfl ?_
  refine z_arg (j := 1) dL_369 dL_370 dL_371 dL_372 dL_373 rfl (by decide) hi hn ?_
  refine z_arg (j := 2) dL_374 dL_375 dL_376 dL_377 dL_378 rfl (by decide) hi hn ?_
  refine z_call1 (M := ML) (idx := 34) (ci := 6) (k := 2) (st := [.int (rX5_of (xs (i + 1)) (xs (i + 2)) u)]) (ctX6_of w) (by decide +kernel) (by decide +kernel) (by decide) (by decide) rfl (prX6_of w) (fun s a m h => h.2.2.2.2.2.2) hcs hss dL_379 (as := [.ref (mA w), .int (xs (i + 1)), .int (xs (i + 2))]) (u1 := (mX6_of (xs (i + 1)) (xs (i + 2)) (mX5_of (xs (i + 1)) (xs (i + 2)) u))) (v := .int (rX6_of (xs (i + 1)) (xs (i + 2)) (mX5_of (xs (i + 1)) (xs (i + 2)) u))) (Nat.le_of_ble_eq_true rfl) ⟨rfl, h6⟩ rfl ?_
  refine z_icmp_eq dL_382 (t := 1466) (by decide) he ?_
  exact kk _ hr
theorem law_5 {w : WW} {b n cells slots i : Nat} {xs : Nat → Int32} (hw : wOk w) (hn : n ≤ 3072) (hi : i + 6 ≤ n) (hcs : cells ≤ 600000) (hss : slots ≤ 7302250) {u : MM} (hu : Rl u u) (kk : ∀ v, Rl v v → GZ w ML (XL w b n xs) (ZL b) (WO w v) cells slots 1466 (LLw w b i) []) : GZ w ML (XL w b n xs) (ZL b) (WO w u) cells slots 387 (LLw w b i) [] := by
  obtain ⟨h5, h6, he, hr⟩ := two (p5 := pX5_set (xs (i + 1)) (xs (i + 2)) (xs (i + 3))) (p6 := pX6_set (xs (i + 1)) (xs (i + 2)) (xs (i + 3))) (r5 := rX5_set (xs (i + 1)) (xs (i + 2)) (xs (i + 3))) (r6 := rX6_set (xs (i + 1)) (xs (i + 2)) (xs (i + 3))) (m5 := mX5_set (xs (i + 1)) (xs (i + 2)) (xs (i + 3))) (m6 := mX6_set (xs (i + 1)) (xs (i + 2)) (xs (i + 3))) (fun u v h => go_set (xs (i + 1)) (xs (i + 2)) (xs (i + 3)) h) hu
  refine z_aload (i := 1) (a := xA w) dL_387 rfl ?_
  refine z_arg (j := 1) dL_388 dL_389 dL_390 dL_391 dL_392 rfl (by decide) hi hn ?_
  refine z_arg (j := 2) dL_393 dL_394 dL_395 dL_396 dL_397 rfl (by decide) hi hn ?_
  refine z_arg (j := 3) dL_398 dL_399 dL_400 dL_401 dL_402 rfl (by decide) hi hn ?_
  refine z_call1 (M := ML) (idx := 35) (ci := 5) (k := 3) (st := []) (ctX5_set w) (by decide +kernel) (by decide +kernel) (by decide) (by decide) rfl (prX5_set w) (fun s a m h => h.2.2.2.2.2.2) hcs hss dL_403 (as := [.ref (xA w), .int (xs (i + 1)), .int (xs (i + 2)), .int (xs (i + 3))]) (u1 := (mX5_set (xs (i + 1)) (xs (i + 2)) (xs (i + 3)) u)) (v := .int (rX5_set (xs (i + 1)) (xs (i + 2)) (xs (i + 3)) u)) (Nat.le_of_ble_eq_true rfl) ⟨rfl, h5⟩ rfl ?_
  refine z_aload (i := 2) (a := mA w) dL_406 rfl ?_
  refine z_arg (j := 1) dL_407 dL_408 dL_409 dL_410 dL_411 rfl (by decide) hi hn ?_
  refine z_arg (j := 2) dL_412 dL_413 dL_414 dL_415 dL_416 rfl (by decide) hi hn ?_
  refine z_arg (j := 3) dL_417 dL_418 dL_419 dL_420 dL_421 rfl (by decide) hi hn ?_
  refine z_call1 (M := ML) (idx := 38) (ci := 6) (k := 3) (st := [.int (rX5_set (xs (i + 1)) (xs (i + 2)) (xs (i + 3)) u)]) (ctX6_set w) (by decide +kernel) (by decide +kernel) (by decide) (by decide) rfl (prX6_set w) (fun s a m h => h.2.2.2.2.2.2) hcs hss dL_422 (as := [.ref (mA w), .int (xs (i + 1)), .int (xs (i + 2)), .int (xs (i + 3))]) (u1 := (mX6_set (xs (i + 1)) (xs (i + 2)) (xs (i + 3)) (mX5_set (xs (i + 1)) (xs (i + 2)) (xs (i + 3)) u))) (v := .int (rX6_set (xs (i + 1)) (xs (i + 2)) (xs (i + 3)) (mX5_set (xs (i + 1)) (xs (i + 2)) (xs (i + 3)) u))) (Nat.le_of_ble_eq_true rfl) ⟨rfl, h6⟩ rfl ?_
  refine z_icmp_eq dL_425 (t := 1466) (by decide) he ?_
  exact kk _ hr
theorem law_6 {w : WW} {b n cells slots i : Nat} {xs : Nat → Int32} (hw : wOk w) (hn : n ≤ 3072) (hi : i + 6 ≤ n) (hcs : cells ≤ 600000) (hss : slots ≤ 7302250) {u : MM} (hu : Rl u u) (kk : ∀ v, Rl v v → GZ w ML (XL w b n xs) (ZL b) (WO w v) cells slots 1466 (LLw w b i) []) : GZ w ML (XL w b n xs) (ZL b) (WO w u) cells slots 430 (LLw w b i) [] := by
  obtain ⟨h5, h6, he, hr⟩ := two (p5 := pX5_turn (xs (i + 1)) (xs (i + 2))) (p6 := pX6_turn (xs (i + 1)) (xs (i + 2))) (r5 := rX5_turn (xs (i + 1)) (xs (i + 2))) (r6 := rX6_turn (xs (i + 1)) (xs (i + 2))) (m5 := mX5_turn (xs (i + 1)) (xs (i + 2))) (m6 := mX6_turn (xs (i + 1)) (xs (i + 2))) (fun u v h => go_turn (xs (i + 1)) (xs (i + 2)) h) hu
  refine z_aload (i := 1) (a := xA w) dL_430 rfl ?_
  refine z_arg (j := 1) dL_431 dL_432 dL_433 dL_434 dL_435 rfl (by decide) hi hn ?_
  refine z_arg (j := 2) dL_436 dL_437 dL_438 dL_439 dL_440 rfl (by decide) hi hn ?_
  refine z_call1 (M := ML) (idx := 39) (ci := 5) (k := 2) (st := []) (ctX5_turn w) (by decide +kernel) (by decide +kernel) (by decide) (by decide) rfl (prX5_turn w) (fun s a m h => h.2.2.2.2.2.2) hcs hss dL_441 (as := [.ref (xA w), .int (xs (i + 1)), .int (xs (i + 2))]) (u1 := (mX5_turn (xs (i + 1)) (xs (i + 2)) u)) (v := .int (rX5_turn (xs (i + 1)) (xs (i + 2)) u)) (Nat.le_of_ble_eq_true rfl) ⟨rfl, h5⟩ rfl ?_
  refine z_aload (i := 2) (a := mA w) dL_444 rfl ?_
  refine z_arg (j := 1) dL_445 dL_446 dL_447 dL_448 dL_449 rfl (by decide) hi hn ?_
  refine z_arg (j := 2) dL_450 dL_451 dL_452 dL_453 dL_454 rfl (by decide) hi hn ?_
  refine z_call1 (M := ML) (idx := 42) (ci := 6) (k := 2) (st := [.int (rX5_turn (xs (i + 1)) (xs (i + 2)) u)]) (ctX6_turn w) (by decide +kernel) (by decide +kernel) (by decide) (by decide) rfl (prX6_turn w) (fun s a m h => h.2.2.2.2.2.2) hcs hss dL_455 (as := [.ref (mA w), .int (xs (i + 1)), .int (xs (i + 2))]) (u1 := (mX6_turn (xs (i + 1)) (xs (i + 2)) (mX5_turn (xs (i + 1)) (xs (i + 2)) u))) (v := .int (rX6_turn (xs (i + 1)) (xs (i + 2)) (mX5_turn (xs (i + 1)) (xs (i + 2)) u))) (Nat.le_of_ble_eq_true rfl) ⟨rfl, h6⟩ rfl ?_
  refine z_icmp_eq dL_458 (t := 1466) (by decide) he ?_
  exact kk _ hr
theorem law_7 {w : WW} {b n cells slots i : Nat} {xs : Nat → Int32} (hw : wOk w) (hn : n ≤ 3072) (hi : i + 6 ≤ n) (hcs : cells ≤ 600000) (hss : slots ≤ 7302250) {u : MM} (hu : Rl u u) (kk : ∀ v, Rl v v → GZ w ML (XL w b n xs) (ZL b) (WO w v) cells slots 1466 (LLw w b i) []) : GZ w ML (XL w b n xs) (ZL b) (WO w u) cells slots 463 (LLw w b i) [] := by
  obtain ⟨h5, h6, he, hr⟩ := two (p5 := pX5_as (xs (i + 1)) (xs (i + 2))) (p6 := pX6_as (xs (i + 1)) (xs (i + 2))) (r5 := rX5_as (xs (i + 1)) (xs (i + 2))) (r6 := rX6_as (xs (i + 1)) (xs (i + 2))) (m5 := mX5_as (xs (i + 1)) (xs (i + 2))) (m6 := mX6_as (xs (i + 1)) (xs (i + 2))) (fun u v h => go_as (xs (i + 1)) (xs (i + 2)) h) hu
  refine z_aload (i := 1) (a := xA w) dL_463 rfl ?_
  refine z_arg (j := 1) dL_464 dL_465 dL_466 dL_467 dL_468 rfl (by decide) hi hn ?_
  refine z_arg (j := 2) dL_469 dL_470 dL_471 dL_472 dL_473 rfl (by decide) hi hn ?_
  refine z_call1 (M := ML) (idx := 43) (ci := 5) (k := 2) (st := []) (ctX5_as w) (by decide +kernel) (by decide +kernel) (by decide) (by decide) rfl (prX5_as w) (fun s a m h => h.2.2.2.2.2.2) hcs hss dL_474 (as := [.ref (xA w), .int (xs (i + 1)), .int (xs (i + 2))]) (u1 := (mX5_as (xs (i + 1)) (xs (i + 2)) u)) (v := .int (rX5_as (xs (i + 1)) (xs (i + 2)) u)) (Nat.le_of_ble_eq_true rfl) ⟨rfl, hw, h5⟩ rfl ?_
  refine z_aload (i := 2) (a := mA w) dL_477 rfl ?_
  refine z_arg (j := 1) dL_478 dL_479 dL_480 dL_481 dL_482 rfl (by decide) hi hn ?_
  refine z_arg (j := 2) dL_483 dL_484 dL_485 dL_486 dL_487 rfl (by decide) hi hn ?_
  refine z_call1 (M := ML) (idx := 46) (ci := 6) (k := 2) (st := [.int (rX5_as (xs (i + 1)) (xs (i + 2)) u)]) (ctX6_as w) (by decide +kernel) (by decide +kernel) (by decide) (by decide) rfl (prX6_as w) (fun s a m h => h.2.2.2.2.2.2) hcs hss dL_488 (as := [.ref (mA w), .int (xs (i + 1)), .int (xs (i + 2))]) (u1 := (mX6_as (xs (i + 1)) (xs (i + 2)) (mX5_as (xs (i + 1)) (xs (i + 2)) u))) (v := .int (rX6_as (xs (i + 1)) (xs (i + 2)) (mX5_as (xs (i + 1)) (xs (i + 2)) u))) (Nat.le_of_ble_eq_true rfl) ⟨rfl, h6⟩ rfl ?_
  refine z_icmp_eq dL_491 (t := 1466) (by decide) he ?_
  exact kk _ hr
