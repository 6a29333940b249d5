/-! ===== the law's cases ===== -/
abbrev LLw (w : WW) (b i : Nat) : LL := [some (.ref b), some (.ref (xA w)), some (.ref (mA w)), some (.int (nI i))]
theorem law_0 {w : WW} {b n cells slots i : Nat} {xs : Nat → Int32} (hw : wOk w) (hn : n ≤ 3072) (hi : i + 6 ≤ n) (hcs : cells ≤ 600000) (hss : slots ≤ 7302250) {u : MM} (hu : Rl u u) (kk : ∀ v, Rl v v → GZ w ML (XL w b n xs) (ZL b) (WO w v) cells slots 1466 (LLw w b i) []) : GZ w ML (XL w b n xs) (ZL b) (WO w u) cells slots 212 (LLw w b i) [] := by
  obtain ⟨h5, h6, he, hr⟩ := two (p5 := fun u => pX5_seat (xs (i + 1)) (xs (i + 2)) u) (p6 := fun u => pX6_seat (xs (i + 1)) (xs (i + 2)) u) (r5 := fun u => rX5_seat (xs (i + 1)) (xs (i + 2)) u) (r6 := fun u => rX6_seat (xs (i + 1)) (xs (i + 2)) u) (m5 := fun u => mX5_seat (xs (i + 1)) (xs (i + 2)) u) (m6 := fun u => mX6_seat (xs (i + 1)) (xs (i + 2)) u) (fun u v h => go_seat (xs (i + 1)) (xs (i + 2)) h) hu
  refine z_aload (i := 1) (a := xA w) dL_212 rfl ?_
  refine z_arg (j := 1) dL_213 dL_214 dL_215 dL_216 dL_217 rfl (by decide) hi hn ?_
  refine z_arg (j := 2) dL_218 dL_219 dL_220 dL_221 dL_222 rfl (by decide) hi hn ?_
  refine z_call (M := ML) (idx := 13) (ci := 5) (k := 2) (st := []) (ctX5_seat w) (by decide +kernel) (by decide +kernel) (by decide) (by decide) rfl (prX5_seat w) (fun s a m h => h.2.2.2.2.2.2) hcs hss dL_223 (as := [.ref (xA w), .int (xs (i + 1)), .int (xs (i + 2))]) (Nat.le_of_ble_eq_true rfl) ⟨rfl, h5⟩ ?_
  refine z_aload (i := 2) (a := mA w) dL_226 rfl ?_
  refine z_arg (j := 1) dL_227 dL_228 dL_229 dL_230 dL_231 rfl (by decide) hi hn ?_
  refine z_arg (j := 2) dL_232 dL_233 dL_234 dL_235 dL_236 rfl (by decide) hi hn ?_
  refine z_call (M := ML) (idx := 17) (ci := 6) (k := 2) (st := [.int (rX5_seat (xs (i + 1)) (xs (i + 2)) u)]) (ctX6_seat w) (by decide +kernel) (by decide +kernel) (by decide) (by decide) rfl (prX6_seat w) (fun s a m h => h.2.2.2.2.2.2) hcs hss dL_237 (as := [.ref (mA w), .int (xs (i + 1)), .int (xs (i + 2))]) (Nat.le_of_ble_eq_true rfl) ⟨rfl, h6⟩ ?_
  refine z_icmp_eq dL_240 (t := 1466) (by decide) he ?_
  exact kk _ hr
theorem law_1 {w : WW} {b n cells slots i : Nat} {xs : Nat → Int32} (hw : wOk w) (hn : n ≤ 3072) (hi : i + 6 ≤ n) (hcs : cells ≤ 600000) (hss : slots ≤ 7302250) {u : MM} (hu : Rl u u) (kk : ∀ v, Rl v v → GZ w ML (XL w b n xs) (ZL b) (WO w v) cells slots 1466 (LLw w b i) []) : GZ w ML (XL w b n xs) (ZL b) (WO w u) cells slots 245 (LLw w b i) [] := by
  obtain ⟨h5, h6, he, hr⟩ := two (p5 := fun u => pX5_seatOf (xs (i + 1)) (xs (i + 2)) u) (p6 := fun u => pX6_seatOf (xs (i + 1)) (xs (i + 2)) u) (r5 := fun u => rX5_seatOf (xs (i + 1)) (xs (i + 2)) u) (r6 := fun u => rX6_seatOf (xs (i + 1)) (xs (i + 2)) u) (m5 := fun u => mX5_seatOf (xs (i + 1)) (xs (i + 2)) u) (m6 := fun u => mX6_seatOf (xs (i + 1)) (xs (i + 2)) u) (fun u v h => go_seatOf (xs (i + 1)) (xs (i + 2)) h) hu
  refine z_aload (i := 1) (a := xA w) dL_245 rfl ?_
  refine z_arg (j := 1) dL_246 dL_247 dL_248 dL_249 dL_250 rfl (by decide) hi hn ?_
  refine z_arg (j := 2) dL_251 dL_252 dL_253 dL_254 dL_255 rfl (by decide) hi hn ?_
  refine z_call (M := ML) (idx := 18) (ci := 5) (k := 2) (st := []) (ctX5_seatOf w) (by decide +kernel) (by decide +kernel) (by decide) (by decide) rfl (prX5_seatOf w) (fun s a m h => h.2.2.2.2.2.2) hcs hss dL_256 (as := [.ref (xA w), .int (xs (i + 1)), .int (xs (i + 2))]) (Nat.le_of_ble_eq_true rfl) ⟨rfl, hw, h5⟩ ?_
  refine z_aload (i := 2) (a := mA w) dL_259 rfl ?_
  refine z_arg (j := 1) dL_260 dL_261 dL_262 dL_263 dL_264 rfl (by decide) hi hn ?_
  refine z_arg (j := 2) dL_265 dL_266 dL_267 dL_268 dL_269 rfl (by decide) hi hn ?_
  refine z_call (M := ML) (idx := 21) (ci := 6) (k := 2) (st := [.int (rX5_seatOf (xs (i + 1)) (xs (i + 2)) u)]) (ctX6_seatOf w) (by decide +kernel) (by decide +kernel) (by decide) (by decide) rfl (prX6_seatOf w) (fun s a m h => h.2.2.2.2.2.2) hcs hss dL_270 (as := [.ref (mA w), .int (xs (i + 1)), .int (xs (i + 2))]) (Nat.le_of_ble_eq_true rfl) ⟨rfl, h6⟩ ?_
  refine z_icmp_eq dL_273 (t := 1466) (by decide) he ?_
  exact kk _ hr
theorem law_2 {w : WW} {b n cells slots i : Nat} {xs : Nat → Int32} (hw : wOk w) (hn : n ≤ 3072) (hi : i + 6 ≤ n) (hcs : cells ≤ 600000) (hss : slots ≤ 7302250) {u : MM} (hu : Rl u u) (kk : ∀ v, Rl v v → GZ w ML (XL w b n xs) (ZL b) (WO w v) cells slots 1466 (LLw w b i) []) : GZ w ML (XL w b n xs) (ZL b) (WO w u) cells slots 278 (LLw w b i) [] := by
  obtain ⟨h5, h6, he, hr⟩ := two (p5 := fun u => pX5_worth (xs (i + 1)) (xs (i + 2)) u) (p6 := fun u => pX6_worth (xs (i + 1)) (xs (i + 2)) u) (r5 := fun u => rX5_worth (xs (i + 1)) (xs (i + 2)) u) (r6 := fun u => rX6_worth (xs (i + 1)) (xs (i + 2)) u) (m5 := fun u => mX5_worth (xs (i + 1)) (xs (i + 2)) u) (m6 := fun u => mX6_worth (xs (i + 1)) (xs (i + 2)) u) (fun u v h => go_worth (xs (i + 1)) (xs (i + 2)) h) hu
  refine z_aload (i := 1) (a := xA w) dL_278 rfl ?_
  refine z_arg (j := 1) dL_279 dL_280 dL_281 dL_282 dL_283 rfl (by decide) hi hn ?_
  refine z_arg (j := 2) dL_284 dL_285 dL_286 dL_287 dL_288 rfl (by decide) hi hn ?_
  refine z_call (M := ML) (idx := 22) (ci := 5) (k := 2) (st := []) (ctX5_worth w) (by decide +kernel) (by decide +kernel) (by decide) (by decide) rfl (prX5_worth w) (fun s a m h => h.2.2.2.2.2.2) hcs hss dL_289 (as := [.ref (xA w), .int (xs (i + 1)), .int (xs (i + 2))]) (Nat.le_of_ble_eq_true rfl) ⟨rfl, h5⟩ ?_
  refine z_aload (i := 2) (a := mA w) dL_292 rfl ?_
  refine z_arg (j := 1) dL_293 dL_294 dL_295 dL_296 dL_297 rfl (by decide) hi hn ?_
  refine z_arg (j := 2) dL_298 dL_299 dL_300 dL_301 dL_302 rfl (by decide) hi hn ?_
  refine z_call (M := ML) (idx := 25) (ci := 6) (k := 2) (st := [.int (rX5_worth (xs (i + 1)) (xs (i + 2)) u)]) (ctX6_worth w) (by decide +kernel) (by decide +kernel) (by decide) (by decide) rfl (prX6_worth w) (fun s a m h => h.2.2.2.2.2.2) hcs hss dL_303 (as := [.ref (mA w), .int (xs (i + 1)), .int (xs (i + 2))]) (Nat.le_of_ble_eq_true rfl) ⟨rfl, h6⟩ ?_
  refine z_icmp_eq dL_306 (t := 1466) (by decide) he ?_
  exact kk _ hr
theorem law_3 {w : WW} {b n cells slots i : Nat} {xs : Nat → Int32} (hw : wOk w) (hn : n ≤ 3072) (hi : i + 6 ≤ n) (hcs : cells ≤ 600000) (hss : slots ≤ 7302250) {u : MM} (hu : Rl u u) (kk : ∀ v, Rl v v → GZ w ML (XL w b n xs) (ZL b) (WO w v) cells slots 1466 (LLw w b i) []) : GZ w ML (XL w b n xs) (ZL b) (WO w u) cells slots 311 (LLw w b i) [] := by
  obtain ⟨h5, h6, he, hr⟩ := two (p5 := fun u => pX5_comes (xs (i + 1)) (xs (i + 2)) (xs (i + 3)) u) (p6 := fun u => pX6_comes (xs (i + 1)) (xs (i + 2)) (xs (i + 3)) u) (r5 := fun u => rX5_comes (xs (i + 1)) (xs (i + 2)) (xs (i + 3)) u) (r6 := fun u => rX6_comes (xs (i + 1)) (xs (i + 2)) (xs (i + 3)) u) (m5 := fun u => mX5_comes (xs (i + 1)) (xs (i + 2)) (xs (i + 3)) u) (m6 := fun u => mX6_comes (xs (i + 1)) (xs (i + 2)) (xs (i + 3)) u) (fun u v h => go_comes (xs (i + 1)) (xs (i + 2)) (xs (i + 3)) h) hu
  refine z_aload (i := 1) (a := xA w) dL_311 rfl ?_
  refine z_arg (j := 1) dL_312 dL_313 dL_314 dL_315 dL_316 rfl (by decide) hi hn ?_
  refine z_arg (j := 2) dL_317 dL_318 dL_319 dL_320 dL_321 rfl (by decide) hi hn ?_
  refine z_arg (j := 3) dL_322 dL_323 dL_324 dL_325 dL_326 rfl (by decide) hi hn ?_
  refine z_call (M := ML) (idx := 26) (ci := 5) (k := 3) (st := []) (ctX5_comes w) (by decide +kernel) (by decide +kernel) (by decide) (by decide) rfl (prX5_comes w) (fun s a m h => h.2.2.2.2.2.2) hcs hss dL_327 (as := [.ref (xA w), .int (xs (i + 1)), .int (xs (i + 2)), .int (xs (i + 3))]) (Nat.le_of_ble_eq_true rfl) ⟨rfl, h5⟩ ?_
  refine z_aload (i := 2) (a := mA w) dL_330 rfl ?_
  refine z_arg (j := 1) dL_331 dL_332 dL_333 dL_334 dL_335 rfl (by decide) hi hn ?_
  refine z_arg (j := 2) dL_336 dL_337 dL_338 dL_339 dL_340 rfl (by decide) hi hn ?_
  refine z_arg (j := 3) dL_341 dL_342 dL_343 dL_344 dL_345 rfl (by decide) hi hn ?_
  refine z_call (M := ML) (idx := 30) (ci := 6) (k := 3) (st := [.int (rX5_comes (xs (i + 1)) (xs (i + 2)) (xs (i + 3)) u)]) (ctX6_comes w) (by decide +kernel) (by decide +kernel) (by decide) (by decide) rfl (prX6_comes w) (fun s a m h => h.2.2.2.2.2.2) hcs hss dL_346 (as := [.ref (mA w), .int (xs (i + 1)), .int (xs (i + 2)), .int (xs (i + 3))]) (Nat.le_of_ble_eq_true rfl) ⟨rfl, h6⟩ ?_
  refine z_icmp_eq dL_349 (t := 1466) (by decide) he ?_
  exact kk _ hr
theorem law_4 {w : WW} {b n cells slots i : Nat} {xs : Nat → Int32} (hw : wOk w) (hn : n ≤ 3072) (hi : i + 6 ≤ n) (hcs : cells ≤ 600000) (hss : slots ≤ 7302250) {u : MM} (hu : Rl u u) (kk : ∀ v, Rl v v → GZ w ML (XL w b n xs) (ZL b) (WO w v) cells slots 1466 (LLw w b i) []) : GZ w ML (XL w b n xs) (ZL b) (WO w u) cells slots 354 (LLw w b i) [] := by
  obtain ⟨h5, h6, he, hr⟩ := two (p5 := fun u => pX5_of (xs (i + 1)) (xs (i + 2)) u) (p6 := fun u => pX6_of (xs (i + 1)) (xs (i + 2)) u) (r5 := fun u => rX5_of (xs (i + 1)) (xs (i + 2)) u) (r6 := fun u => rX6_of (xs (i + 1)) (xs (i + 2)) u) (m5 := fun u => mX5_of (xs (i + 1)) (xs (i + 2)) u) (m6 := fun u => mX6_of (xs (i + 1)) (xs (i + 2)) u) (fun u v h => go_of (xs (i + 1)) (xs (i + 2)) h) hu
  refine z_aload (i := 1) (a := xA w) dL_354 rfl ?_
  refine z_arg (j := 1) dL_355 dL_356 dL_357 dL_358 dL_359 rfl (by decide) hi hn ?_
  refine z_arg (j := 2) dL_360 dL_361 dL_362 dL_363 dL_364 rfl (by decide) hi hn ?_
  refine z_call (M := ML) (idx := 31) (ci := 5) (k := 2) (st := []) (ctX5_of w) (by decide +kernel) (by decide +kernel) (by decide) (by decide) rfl (prX5_of w) (fun s a m h => h.2.2.2.2.2.2) hcs hss dL_365 (as := [.ref (xA w), .int (xs (i + 1)), .int (xs (i + 2))]) (Nat.le_of_ble_eq_true rfl) ⟨rfl, hw, h5⟩ ?_
  refine z_aload (i := 2) (a := mA w) dL_368 rfl ?_
  refine z_arg (j := 1) dL_369 dL_370 dL_371 dL_372 dL_373 rfl (by decide) hi hn ?_
  refine z_arg (j := 2) dL_374 dL_375 dL_376 dL_377 dL_378 rfl (by decide) hi hn ?_
  refine z_call (M := ML) (idx := 34) (ci := 6) (k := 2) (st := [.int (rX5_of (xs (i + 1)) (xs (i + 2)) u)]) (ctX6_of w) (by decide +kernel) (by decide +kernel) (by decide) (by decide) rfl (prX6_of w) (fun s a m h => h.2.2.2.2.2.2) hcs hss dL_379 (as := [.ref (mA w), .int (xs (i + 1)), .int (xs (i + 2))]) (Nat.le_of_ble_eq_true rfl) ⟨rfl, h6⟩ ?_
  refine z_icmp_eq dL_382 (t := 1466) (by decide) he ?_
  exact kk _ hr
theorem law_5 {w : WW} {b n cells slots i : Nat} {xs : Nat → Int32} (hw : wOk w) (hn : n ≤ 3072) (hi : i + 6 ≤ n) (hcs : cells ≤ 600000) (hss : slots ≤ 7302250) {u : MM} (hu : Rl u u) (kk : ∀ v, Rl v v → GZ w ML (XL w b n xs) (ZL b) (WO w v) cells slots 1466 (LLw w b i) []) : GZ w ML (XL w b n xs) (ZL b) (WO w u) cells slots 387 (LLw w b i) [] := by
  obtain ⟨h5, h6, he, hr⟩ := two (p5 := fun u => pX5_set (xs (i + 1)) (xs (i + 2)) (xs (i + 3)) u) (p6 := fun u => pX6_set (xs (i + 1)) (xs (i + 2)) (xs (i + 3)) u) (r5 := fun u => rX5_set (xs (i + 1)) (xs (i + 2)) (xs (i + 3)) u) (r6 := fun u => rX6_set (xs (i + 1)) (xs (i + 2)) (xs (i + 3)) u) (m5 := fun u => mX5_set (xs (i + 1)) (xs (i + 2)) (xs (i + 3)) u) (m6 := fun u => mX6_set (xs (i + 1)) (xs (i + 2)) (xs (i + 3)) u) (fun u v h => go_set (xs (i + 1)) (xs (i + 2)) (xs (i + 3)) h) hu
  refine z_aload (i := 1) (a := xA w) dL_387 rfl ?_
  refine z_arg (j := 1) dL_388 dL_389 dL_390 dL_391 dL_392 rfl (by decide) hi hn ?_
  refine z_arg (j := 2) dL_393 dL_394 dL_395 dL_396 dL_397 rfl (by decide) hi hn ?_
  refine z_arg (j := 3) dL_398 dL_399 dL_400 dL_401 dL_402 rfl (by decide) hi hn ?_
  refine z_call (M := ML) (idx := 35) (ci := 5) (k := 3) (st := []) (ctX5_set w) (by decide +kernel) (by decide +kernel) (by decide) (by decide) rfl (prX5_set w) (fun s a m h => h.2.2.2.2.2.2) hcs hss dL_403 (as := [.ref (xA w), .int (xs (i + 1)), .int (xs (i + 2)), .int (xs (i + 3))]) (Nat.le_of_ble_eq_true rfl) ⟨rfl, h5⟩ ?_
  refine z_aload (i := 2) (a := mA w) dL_406 rfl ?_
  refine z_arg (j := 1) dL_407 dL_408 dL_409 dL_410 dL_411 rfl (by decide) hi hn ?_
  refine z_arg (j := 2) dL_412 dL_413 dL_414 dL_415 dL_416 rfl (by decide) hi hn ?_
  refine z_arg (j := 3) dL_417 dL_418 dL_419 dL_420 dL_421 rfl (by decide) hi hn ?_
  refine z_call (M := ML) (idx := 38) (ci := 6) (k := 3) (st := [.int (rX5_set (xs (i + 1)) (xs (i + 2)) (xs (i + 3)) u)]) (ctX6_set w) (by decide +kernel) (by decide +kernel) (by decide) (by decide) rfl (prX6_set w) (fun s a m h => h.2.2.2.2.2.2) hcs hss dL_422 (as := [.ref (mA w), .int (xs (i + 1)), .int (xs (i + 2)), .int (xs (i + 3))]) (Nat.le_of_ble_eq_true rfl) ⟨rfl, h6⟩ ?_
  refine z_icmp_eq dL_425 (t := 1466) (by decide) he ?_
  exact kk _ hr
theorem law_6 {w : WW} {b n cells slots i : Nat} {xs : Nat → Int32} (hw : wOk w) (hn : n ≤ 3072) (hi : i + 6 ≤ n) (hcs : cells ≤ 600000) (hss : slots ≤ 7302250) {u : MM} (hu : Rl u u) (kk : ∀ v, Rl v v → GZ w ML (XL w b n xs) (ZL b) (WO w v) cells slots 1466 (LLw w b i) []) : GZ w ML (XL w b n xs) (ZL b) (WO w u) cells slots 430 (LLw w b i) [] := by
  obtain ⟨h5, h6, he, hr⟩ := two (p5 := fun u => pX5_turn (xs (i + 1)) (xs (i + 2)) u) (p6 := fun u => pX6_turn (xs (i + 1)) (xs (i + 2)) u) (r5 := fun u => rX5_turn (xs (i + 1)) (xs (i + 2)) u) (r6 := fun u => rX6_turn (xs (i + 1)) (xs (i + 2)) u) (m5 := fun u => mX5_turn (xs (i + 1)) (xs (i + 2)) u) (m6 := fun u => mX6_turn (xs (i + 1)) (xs (i + 2)) u) (fun u v h => go_turn (xs (i + 1)) (xs (i + 2)) h) hu
  refine z_aload (i := 1) (a := xA w) dL_430 rfl ?_
  refine z_arg (j := 1) dL_431 dL_432 dL_433 dL_434 dL_435 rfl (by decide) hi hn ?_
  refine z_arg (j := 2) dL_436 dL_437 dL_438 dL_439 dL_440 rfl (by decide) hi hn ?_
  refine z_call (M := ML) (idx := 39) (ci := 5) (k := 2) (st := []) (ctX5_turn w) (by decide +kernel) (by decide +kernel) (by decide) (by decide) rfl (prX5_turn w) (fun s a m h => h.2.2.2.2.2.2) hcs hss dL_441 (as := [.ref (xA w), .int (xs (i + 1)), .int (xs (i + 2))]) (Nat.le_of_ble_eq_true rfl) ⟨rfl, h5⟩ ?_
  refine z_aload (i := 2) (a := mA w) dL_444 rfl ?_
  refine z_arg (j := 1) dL_445 dL_446 dL_447 dL_448 dL_449 rfl (by decide) hi hn ?_
  refine z_arg (j := 2) dL_450 dL_451 dL_452 dL_453 dL_454 rfl (by decide) hi hn ?_
  refine z_call (M := ML) (idx := 42) (ci := 6) (k := 2) (st := [.int (rX5_turn (xs (i + 1)) (xs (i + 2)) u)]) (ctX6_turn w) (by decide +kernel) (by decide +kernel) (by decide) (by decide) rfl (prX6_turn w) (fun s a m h => h.2.2.2.2.2.2) hcs hss dL_455 (as := [.ref (mA w), .int (xs (i + 1)), .int (xs (i + 2))]) (Nat.le_of_ble_eq_true rfl) ⟨rfl, h6⟩ ?_
  refine z_icmp_eq dL_458 (t := 1466) (by decide) he ?_
  exact kk _ hr
theorem law_7 {w : WW} {b n cells slots i : Nat} {xs : Nat → Int32} (hw : wOk w) (hn : n ≤ 3072) (hi : i + 6 ≤ n) (hcs : cells ≤ 600000) (hss : slots ≤ 7302250) {u : MM} (hu : Rl u u) (kk : ∀ v, Rl v v → GZ w ML (XL w b n xs) (ZL b) (WO w v) cells slots 1466 (LLw w b i) []) : GZ w ML (XL w b n xs) (ZL b) (WO w u) cells slots 463 (LLw w b i) [] := by
  obtain ⟨h5, h6, he, hr⟩ := two (p5 := fun u => pX5_as (xs (i + 1)) (xs (i + 2)) u) (p6 := fun u => pX6_as (xs (i + 1)) (xs (i + 2)) u) (r5 := fun u => rX5_as (xs (i + 1)) (xs (i + 2)) u) (r6 := fun u => rX6_as (xs (i + 1)) (xs (i + 2)) u) (m5 := fun u => mX5_as (xs (i + 1)) (xs (i + 2)) u) (m6 := fun u => mX6_as (xs (i + 1)) (xs (i + 2)) u) (fun u v h => go_as (xs (i + 1)) (xs (i + 2)) h) hu
  refine z_aload (i := 1) (a := xA w) dL_463 rfl ?_
  refine z_arg (j := 1) dL_464 dL_465 dL_466 dL_467 dL_468 rfl (by decide) hi hn ?_
  refine z_arg (j := 2) dL_469 dL_470 dL_471 dL_472 dL_473 rfl (by decide) hi hn ?_
  refine z_call (M := ML) (idx := 43) (ci := 5) (k := 2) (st := []) (ctX5_as w) (by decide +kernel) (by decide +kernel) (by decide) (by decide) rfl (prX5_as w) (fun s a m h => h.2.2.2.2.2.2) hcs hss dL_474 (as := [.ref (xA w), .int (xs (i + 1)), .int (xs (i + 2))]) (Nat.le_of_ble_eq_true rfl) ⟨rfl, hw, h5⟩ ?_
  refine z_aload (i := 2) (a := mA w) dL_477 rfl ?_
  refine z_arg (j := 1) dL_478 dL_479 dL_480 dL_481 dL_482 rfl (by decide) hi hn ?_
  refine z_arg (j := 2) dL_483 dL_484 dL_485 dL_486 dL_487 rfl (by decide) hi hn ?_
  refine z_call (M := ML) (idx := 46) (ci := 6) (k := 2) (st := [.int (rX5_as (xs (i + 1)) (xs (i + 2)) u)]) (ctX6_as w) (by decide +kernel) (by decide +kernel) (by decide) (by decide) rfl (prX6_as w) (fun s a m h => h.2.2.2.2.2.2) hcs hss dL_488 (as := [.ref (mA w), .int (xs (i + 1)), .int (xs (i + 2))]) (Nat.le_of_ble_eq_true rfl) ⟨rfl, h6⟩ ?_
  refine z_icmp_eq dL_491 (t := 1466) (by decide) he ?_
  exact kk _ hr
theorem law_8 {w : WW} {b n cells slots i : Nat} {xs : Nat → Int32} (hw : wOk w) (hn : n ≤ 3072) (hi : i + 6 ≤ n) (hcs : cells ≤ 600000) (hss : slots ≤ 7302250) {u : MM} (hu : Rl u u) (kk : ∀ v, Rl v v → GZ w ML (XL w b n xs) (ZL b) (WO w v) cells slots 1466 (LLw w b i) []) : GZ w ML (XL w b n xs) (ZL b) (WO w u) cells slots 496 (LLw w b i) [] := by
  obtain ⟨h5, h6, he, hr⟩ := two (p5 := fun u => pX5_far (xs (i + 1)) (xs (i + 2)) u) (p6 := fun u => pX6_far (xs (i + 1)) (xs (i + 2)) u) (r5 := fun u => rX5_far (xs (i + 1)) (xs (i + 2)) u) (r6 := fun u => rX6_far (xs (i + 1)) (xs (i + 2)) u) (m5 := fun u => mX5_far (xs (i + 1)) (xs (i + 2)) u) (m6 := fun u => mX6_far (xs (i + 1)) (xs (i + 2)) u) (fun u v h => go_far (xs (i + 1)) (xs (i + 2)) h) hu
  refine z_aload (i := 1) (a := xA w) dL_496 rfl ?_
  refine z_arg (j := 1) dL_497 dL_498 dL_499 dL_500 dL_501 rfl (by decide) hi hn ?_
  refine z_arg (j := 2) dL_502 dL_503 dL_504 dL_505 dL_506 rfl (by decide) hi hn ?_
  refine z_call (M := ML) (idx := 47) (ci := 5) (k := 2) (st := []) (ctX5_far w) (by decide +kernel) (by decide +kernel) (by decide) (by decide) rfl (prX5_far w) (fun s a m h => h.2.2.2.2.2.2) hcs hss dL_507 (as := [.ref (xA w), .int (xs (i + 1)), .int (xs (i + 2))]) (Nat.le_of_ble_eq_true rfl) ⟨rfl, hw, h5⟩ ?_
  refine z_aload (i := 2) (a := mA w) dL_510 rfl ?_
  refine z_arg (j := 1) dL_511 dL_512 dL_513 dL_514 dL_515 rfl (by decide) hi hn ?_
  refine z_arg (j := 2) dL_516 dL_517 dL_518 dL_519 dL_520 rfl (by decide) hi hn ?_
  refine z_call (M := ML) (idx := 50) (ci := 6) (k := 2) (st := [.int (rX5_far (xs (i + 1)) (xs (i + 2)) u)]) (ctX6_far w) (by decide +kernel) (by decide +kernel) (by decide) (by decide) rfl (prX6_far w) (fun s a m h => h.2.2.2.2.2.2) hcs hss dL_521 (as := [.ref (mA w), .int (xs (i + 1)), .int (xs (i + 2))]) (Nat.le_of_ble_eq_true rfl) ⟨rfl, h6⟩ ?_
  refine z_icmp_eq dL_524 (t := 1466) (by decide) he ?_
  exact kk _ hr
theorem law_9 {w : WW} {b n cells slots i : Nat} {xs : Nat → Int32} (hw : wOk w) (hn : n ≤ 3072) (hi : i + 6 ≤ n) (hcs : cells ≤ 600000) (hss : slots ≤ 7302250) {u : MM} (hu : Rl u u) (kk : ∀ v, Rl v v → GZ w ML (XL w b n xs) (ZL b) (WO w v) cells slots 1466 (LLw w b i) []) : GZ w ML (XL w b n xs) (ZL b) (WO w u) cells slots 529 (LLw w b i) [] := by
  obtain ⟨h5, h6, he, hr⟩ := two (p5 := fun u => pX5_on (xs (i + 1)) u) (p6 := fun u => pX6_on (xs (i + 1)) u) (r5 := fun u => rX5_on (xs (i + 1)) u) (r6 := fun u => rX6_on (xs (i + 1)) u) (m5 := fun u => mX5_on (xs (i + 1)) u) (m6 := fun u => mX6_on (xs (i + 1)) u) (fun u v h => go_on (xs (i + 1)) h) hu
  refine z_aload (i := 1) (a := xA w) dL_529 rfl ?_
  refine z_arg (j := 1) dL_530 dL_531 dL_532 dL_533 dL_534 rfl (by decide) hi hn ?_
  refine z_call (M := ML) (idx := 51) (ci := 5) (k := 1) (st := []) (ctX5_on w) (by decide +kernel) (by decide +kernel) (by decide) (by decide) rfl (prX5_on w) (fun s a m h => h.2.2.2.2.2.2) hcs hss dL_535 (as := [.ref (xA w), .int (xs (i + 1))]) (Nat.le_of_ble_eq_true rfl) ⟨rfl, h5⟩ ?_
  refine z_aload (i := 2) (a := mA w) dL_538 rfl ?_
  refine z_arg (j := 1) dL_539 dL_540 dL_541 dL_542 dL_543 rfl (by decide) hi hn ?_
  refine z_call (M := ML) (idx := 55) (ci := 6) (k := 1) (st := [.int (rX5_on (xs (i + 1)) u)]) (ctX6_on w) (by decide +kernel) (by decide +kernel) (by decide) (by decide) rfl (prX6_on w) (fun s a m h => h.2.2.2.2.2.2) hcs hss dL_544 (as := [.ref (mA w), .int (xs (i + 1))]) (Nat.le_of_ble_eq_true rfl) ⟨rfl, h6⟩ ?_
  refine z_icmp_eq dL_547 (t := 1466) (by decide) he ?_
  exact kk _ hr
theorem law_10 {w : WW} {b n cells slots i : Nat} {xs : Nat → Int32} (hw : wOk w) (hn : n ≤ 3072) (hi : i + 6 ≤ n) (hcs : cells ≤ 600000) (hss : slots ≤ 7302250) {u : MM} (hu : Rl u u) (kk : ∀ v, Rl v v → GZ w ML (XL w b n xs) (ZL b) (WO w v) cells slots 1466 (LLw w b i) []) : GZ w ML (XL w b n xs) (ZL b) (WO w u) cells slots 552 (LLw w b i) [] := by
  obtain ⟨h5, h6, he, hr⟩ := two (p5 := fun u => pX5_cough (xs (i + 1)) u) (p6 := fun u => pX6_cough (xs (i + 1)) u) (r5 := fun u => rX5_cough (xs (i + 1)) u) (r6 := fun u => rX6_cough (xs (i + 1)) u) (m5 := fun u => mX5_cough (xs (i + 1)) u) (m6 := fun u => mX6_cough (xs (i + 1)) u) (fun u v h => go_cough (xs (i + 1)) h) hu
  refine z_aload (i := 1) (a := xA w) dL_552 rfl ?_
  refine z_arg (j := 1) dL_553 dL_554 dL_555 dL_556 dL_557 rfl (by decide) hi hn ?_
  refine z_call (M := ML) (idx := 56) (ci := 5) (k := 1) (st := []) (ctX5_cough w) (by decide +kernel) (by decide +kernel) (by decide) (by decide) rfl (prX5_cough w) (fun s a m h => h.2.2.2.2.2.2) hcs hss dL_558 (as := [.ref (xA w), .int (xs (i + 1))]) (Nat.le_of_ble_eq_true rfl) ⟨rfl, hw, h5⟩ ?_
  refine z_aload (i := 2) (a := mA w) dL_561 rfl ?_
  refine z_arg (j := 1) dL_562 dL_563 dL_564 dL_565 dL_566 rfl (by decide) hi hn ?_
  refine z_call (M := ML) (idx := 59) (ci := 6) (k := 1) (st := [.int (rX5_cough (xs (i + 1)) u)]) (ctX6_cough w) (by decide +kernel) (by decide +kernel) (by decide) (by decide) rfl (prX6_cough w) (fun s a m h => h.2.2.2.2.2.2) hcs hss dL_567 (as := [.ref (mA w), .int (xs (i + 1))]) (Nat.le_of_ble_eq_true rfl) ⟨rfl, h6⟩ ?_
  refine z_icmp_eq dL_570 (t := 1466) (by decide) he ?_
  exact kk _ hr
theorem law_11 {w : WW} {b n cells slots i : Nat} {xs : Nat → Int32} (hw : wOk w) (hn : n ≤ 3072) (hi : i + 6 ≤ n) (hcs : cells ≤ 600000) (hss : slots ≤ 7302250) {u : MM} (hu : Rl u u) (kk : ∀ v, Rl v v → GZ w ML (XL w b n xs) (ZL b) (WO w v) cells slots 1466 (LLw w b i) []) : GZ w ML (XL w b n xs) (ZL b) (WO w u) cells slots 575 (LLw w b i) [] := by
  obtain ⟨h5, h6, he, hr⟩ := two (p5 := fun u => pX5_seconds (xs (i + 1)) u) (p6 := fun u => pX6_seconds (xs (i + 1)) u) (r5 := fun u => rX5_seconds (xs (i + 1)) u) (r6 := fun u => rX6_seconds (xs (i + 1)) u) (m5 := fun u => mX5_seconds (xs (i + 1)) u) (m6 := fun u => mX6_seconds (xs (i + 1)) u) (fun u v h => go_seconds (xs (i + 1)) h) hu
  refine z_aload (i := 1) (a := xA w) dL_575 rfl ?_
  refine z_arg (j := 1) dL_576 dL_577 dL_578 dL_579 dL_580 rfl (by decide) hi hn ?_
  refine z_call (M := ML) (idx := 60) (ci := 5) (k := 1) (st := []) (ctX5_seconds w) (by decide +kernel) (by decide +kernel) (by decide) (by decide) rfl (prX5_seconds w) (fun s a m h => h.2.2.2.2.2.2) hcs hss dL_581 (as := [.ref (xA w), .int (xs (i + 1))]) (Nat.le_of_ble_eq_true rfl) ⟨rfl, hw, h5⟩ ?_
  refine z_aload (i := 2) (a := mA w) dL_584 rfl ?_
  refine z_arg (j := 1) dL_585 dL_586 dL_587 dL_588 dL_589 rfl (by decide) hi hn ?_
  refine z_call (M := ML) (idx := 63) (ci := 6) (k := 1) (st := [.int (rX5_seconds (xs (i + 1)) u)]) (ctX6_seconds w) (by decide +kernel) (by decide +kernel) (by decide) (by decide) rfl (prX6_seconds w) (fun s a m h => h.2.2.2.2.2.2) hcs hss dL_590 (as := [.ref (mA w), .int (xs (i + 1))]) (Nat.le_of_ble_eq_true rfl) ⟨rfl, h6⟩ ?_
  refine z_icmp_eq dL_593 (t := 1466) (by decide) he ?_
  exact kk _ hr
theorem law_12 {w : WW} {b n cells slots i : Nat} {xs : Nat → Int32} (hw : wOk w) (hn : n ≤ 3072) (hi : i + 6 ≤ n) (hcs : cells ≤ 600000) (hss : slots ≤ 7302250) {u : MM} (hu : Rl u u) (kk : ∀ v, Rl v v → GZ w ML (XL w b n xs) (ZL b) (WO w v) cells slots 1466 (LLw w b i) []) : GZ w ML (XL w b n xs) (ZL b) (WO w u) cells slots 598 (LLw w b i) [] := by
  obtain ⟨h5, h6, he, hr⟩ := two (p5 := fun u => pX5_now (xs (i + 1)) u) (p6 := fun u => pX6_now (xs (i + 1)) u) (r5 := fun u => rX5_now (xs (i + 1)) u) (r6 := fun u => rX6_now (xs (i + 1)) u) (m5 := fun u => mX5_now (xs (i + 1)) u) (m6 := fun u => mX6_now (xs (i + 1)) u) (fun u v h => go_now (xs (i + 1)) h) hu
  refine z_aload (i := 1) (a := xA w) dL_598 rfl ?_
  refine z_arg (j := 1) dL_599 dL_600 dL_601 dL_602 dL_603 rfl (by decide) hi hn ?_
  refine z_call (M := ML) (idx := 64) (ci := 5) (k := 1) (st := []) (ctX5_now w) (by decide +kernel) (by decide +kernel) (by decide) (by decide) rfl (prX5_now w) (fun s a m h => h.2.2.2.2.2.2) hcs hss dL_604 (as := [.ref (xA w), .int (xs (i + 1))]) (Nat.le_of_ble_eq_true rfl) ⟨rfl, h5⟩ ?_
  refine z_aload (i := 2) (a := mA w) dL_607 rfl ?_
  refine z_arg (j := 1) dL_608 dL_609 dL_610 dL_611 dL_612 rfl (by decide) hi hn ?_
  refine z_call (M := ML) (idx := 67) (ci := 6) (k := 1) (st := [.int (rX5_now (xs (i + 1)) u)]) (ctX6_now w) (by decide +kernel) (by decide +kernel) (by decide) (by decide) rfl (prX6_now w) (fun s a m h => h.2.2.2.2.2.2) hcs hss dL_613 (as := [.ref (mA w), .int (xs (i + 1))]) (Nat.le_of_ble_eq_true rfl) ⟨rfl, h6⟩ ?_
  refine z_icmp_eq dL_616 (t := 1466) (by decide) he ?_
  exact kk _ hr
theorem law_13 {w : WW} {b n cells slots i : Nat} {xs : Nat → Int32} (hw : wOk w) (hn : n ≤ 3072) (hi : i + 6 ≤ n) (hcs : cells ≤ 600000) (hss : slots ≤ 7302250) {u : MM} (hu : Rl u u) (kk : ∀ v, Rl v v → GZ w ML (XL w b n xs) (ZL b) (WO w v) cells slots 1466 (LLw w b i) []) : GZ w ML (XL w b n xs) (ZL b) (WO w u) cells slots 621 (LLw w b i) [] := by
  obtain ⟨h5, h6, he, hr⟩ := two (p5 := fun u => pX5_holder (xs (i + 1)) (xs (i + 2)) u) (p6 := fun u => pX6_holder (xs (i + 1)) (xs (i + 2)) u) (r5 := fun u => rX5_holder (xs (i + 1)) (xs (i + 2)) u) (r6 := fun u => rX6_holder (xs (i + 1)) (xs (i + 2)) u) (m5 := fun u => mX5_holder (xs (i + 1)) (xs (i + 2)) u) (m6 := fun u => mX6_holder (xs (i + 1)) (xs (i + 2)) u) (fun u v h => go_holder (xs (i + 1)) (xs (i + 2)) h) hu
  refine z_aload (i := 1) (a := xA w) dL_621 rfl ?_
  refine z_arg (j := 1) dL_622 dL_623 dL_624 dL_625 dL_626 rfl (by decide) hi hn ?_
  refine z_arg (j := 2) dL_627 dL_628 dL_629 dL_630 dL_631 rfl (by decide) hi hn ?_
  refine z_call (M := ML) (idx := 68) (ci := 5) (k := 2) (st := []) (ctX5_holder w) (by decide +kernel) (by decide +kernel) (by decide) (by decide) rfl (prX5_holder w) (fun s a m h => h.2.2.2.2.2.2) hcs hss dL_632 (as := [.ref (xA w), .int (xs (i + 1)), .int (xs (i + 2))]) (Nat.le_of_ble_eq_true rfl) ⟨rfl, hw, h5⟩ ?_
  refine z_aload (i := 2) (a := mA w) dL_635 rfl ?_
  refine z_arg (j := 1) dL_636 dL_637 dL_638 dL_639 dL_640 rfl (by decide) hi hn ?_
  refine z_arg (j := 2) dL_641 dL_642 dL_643 dL_644 dL_645 rfl (by decide) hi hn ?_
  refine z_call (M := ML) (idx := 71) (ci := 6) (k := 2) (st := [.int (rX5_holder (xs (i + 1)) (xs (i + 2)) u)]) (ctX6_holder w) (by decide +kernel) (by decide +kernel) (by decide) (by decide) rfl (prX6_holder w) (fun s a m h => h.2.2.2.2.2.2) hcs hss dL_646 (as := [.ref (mA w), .int (xs (i + 1)), .int (xs (i + 2))]) (Nat.le_of_ble_eq_true rfl) ⟨rfl, h6⟩ ?_
  refine z_icmp_eq dL_649 (t := 1466) (by decide) he ?_
  exact kk _ hr
theorem law_14 {w : WW} {b n cells slots i : Nat} {xs : Nat → Int32} (hw : wOk w) (hn : n ≤ 3072) (hi : i + 6 ≤ n) (hcs : cells ≤ 600000) (hss : slots ≤ 7302250) {u : MM} (hu : Rl u u) (kk : ∀ v, Rl v v → GZ w ML (XL w b n xs) (ZL b) (WO w v) cells slots 1466 (LLw w b i) []) : GZ w ML (XL w b n xs) (ZL b) (WO w u) cells slots 654 (LLw w b i) [] := by
  obtain ⟨h5, h6, he, hr⟩ := two (p5 := fun u => pX5_where (xs (i + 1)) (xs (i + 2)) u) (p6 := fun u => pX6_where (xs (i + 1)) (xs (i + 2)) u) (r5 := fun u => rX5_where (xs (i + 1)) (xs (i + 2)) u) (r6 := fun u => rX6_where (xs (i + 1)) (xs (i + 2)) u) (m5 := fun u => mX5_where (xs (i + 1)) (xs (i + 2)) u) (m6 := fun u => mX6_where (xs (i + 1)) (xs (i + 2)) u) (fun u v h => go_where (xs (i + 1)) (xs (i + 2)) h) hu
  refine z_aload (i := 1) (a := xA w) dL_654 rfl ?_
  refine z_arg (j := 1) dL_655 dL_656 dL_657 dL_658 dL_659 rfl (by decide) hi hn ?_
  refine z_arg (j := 2) dL_660 dL_661 dL_662 dL_663 dL_664 rfl (by decide) hi hn ?_
  refine z_call (M := ML) (idx := 72) (ci := 5) (k := 2) (st := []) (ctX5_where w) (by decide +kernel) (by decide +kernel) (by decide) (by decide) rfl (prX5_where w) (fun s a m h => h.2.2.2.2.2.2) hcs hss dL_665 (as := [.ref (xA w), .int (xs (i + 1)), .int (xs (i + 2))]) (Nat.le_of_ble_eq_true rfl) ⟨rfl, hw, h5⟩ ?_
  refine z_aload (i := 2) (a := mA w) dL_668 rfl ?_
  refine z_arg (j := 1) dL_669 dL_670 dL_671 dL_672 dL_673 rfl (by decide) hi hn ?_
  refine z_arg (j := 2) dL_674 dL_675 dL_676 dL_677 dL_678 rfl (by decide) hi hn ?_
  refine z_call (M := ML) (idx := 75) (ci := 6) (k := 2) (st := [.int (rX5_where (xs (i + 1)) (xs (i + 2)) u)]) (ctX6_where w) (by decide +kernel) (by decide +kernel) (by decide) (by decide) rfl (prX6_where w) (fun s a m h => h.2.2.2.2.2.2) hcs hss dL_679 (as := [.ref (mA w), .int (xs (i + 1)), .int (xs (i + 2))]) (Nat.le_of_ble_eq_true rfl) ⟨rfl, h6⟩ ?_
  refine z_icmp_eq dL_682 (t := 1466) (by decide) he ?_
  exact kk _ hr
theorem law_15 {w : WW} {b n cells slots i : Nat} {xs : Nat → Int32} (hw : wOk w) (hn : n ≤ 3072) (hi : i + 6 ≤ n) (hcs : cells ≤ 600000) (hss : slots ≤ 7302250) {u : MM} (hu : Rl u u) (kk : ∀ v, Rl v v → GZ w ML (XL w b n xs) (ZL b) (WO w v) cells slots 1466 (LLw w b i) []) : GZ w ML (XL w b n xs) (ZL b) (WO w u) cells slots 687 (LLw w b i) [] := by
  obtain ⟨h5, h6, he, hr⟩ := two (p5 := fun u => pX5_coins (xs (i + 1)) (xs (i + 2)) u) (p6 := fun u => pX6_coins (xs (i + 1)) (xs (i + 2)) u) (r5 := fun u => rX5_coins (xs (i + 1)) (xs (i + 2)) u) (r6 := fun u => rX6_coins (xs (i + 1)) (xs (i + 2)) u) (m5 := fun u => mX5_coins (xs (i + 1)) (xs (i + 2)) u) (m6 := fun u => mX6_coins (xs (i + 1)) (xs (i + 2)) u) (fun u v h => go_coins (xs (i + 1)) (xs (i + 2)) h) hu
  refine z_aload (i := 1) (a := xA w) dL_687 rfl ?_
  refine z_arg (j := 1) dL_688 dL_689 dL_690 dL_691 dL_692 rfl (by decide) hi hn ?_
  refine z_arg (j := 2) dL_693 dL_694 dL_695 dL_696 dL_697 rfl (by decide) hi hn ?_
  refine z_call (M := ML) (idx := 76) (ci := 5) (k := 2) (st := []) (ctX5_coins w) (by decide +kernel) (by decide +kernel) (by decide) (by decide) rfl (prX5_coins w) (fun s a m h => h.2.2.2.2.2.2) hcs hss dL_698 (as := [.ref (xA w), .int (xs (i + 1)), .int (xs (i + 2))]) (Nat.le_of_ble_eq_true rfl) ⟨rfl, hw, h5⟩ ?_
  refine z_aload (i := 2) (a := mA w) dL_701 rfl ?_
  refine z_arg (j := 1) dL_702 dL_703 dL_704 dL_705 dL_706 rfl (by decide) hi hn ?_
  refine z_arg (j := 2) dL_707 dL_708 dL_709 dL_710 dL_711 rfl (by decide) hi hn ?_
  refine z_call (M := ML) (idx := 79) (ci := 6) (k := 2) (st := [.int (rX5_coins (xs (i + 1)) (xs (i + 2)) u)]) (ctX6_coins w) (by decide +kernel) (by decide +kernel) (by decide) (by decide) rfl (prX6_coins w) (fun s a m h => h.2.2.2.2.2.2) hcs hss dL_712 (as := [.ref (mA w), .int (xs (i + 1)), .int (xs (i + 2))]) (Nat.le_of_ble_eq_true rfl) ⟨rfl, h6⟩ ?_
  refine z_icmp_eq dL_715 (t := 1466) (by decide) he ?_
  exact kk _ hr
theorem law_16 {w : WW} {b n cells slots i : Nat} {xs : Nat → Int32} (hw : wOk w) (hn : n ≤ 3072) (hi : i + 6 ≤ n) (hcs : cells ≤ 600000) (hss : slots ≤ 7302250) {u : MM} (hu : Rl u u) (kk : ∀ v, Rl v v → GZ w ML (XL w b n xs) (ZL b) (WO w v) cells slots 1466 (LLw w b i) []) : GZ w ML (XL w b n xs) (ZL b) (WO w u) cells slots 720 (LLw w b i) [] := by
  obtain ⟨h5, h6, he, hr⟩ := two (p5 := fun u => pX5_gets (xs (i + 1)) (xs (i + 2)) u) (p6 := fun u => pX6_gets (xs (i + 1)) (xs (i + 2)) u) (r5 := fun u => rX5_gets (xs (i + 1)) (xs (i + 2)) u) (r6 := fun u => rX6_gets (xs (i + 1)) (xs (i + 2)) u) (m5 := fun u => mX5_gets (xs (i + 1)) (xs (i + 2)) u) (m6 := fun u => mX6_gets (xs (i + 1)) (xs (i + 2)) u) (fun u v h => go_gets (xs (i + 1)) (xs (i + 2)) h) hu
  refine z_aload (i := 1) (a := xA w) dL_720 rfl ?_
  refine z_arg (j := 1) dL_721 dL_722 dL_723 dL_724 dL_725 rfl (by decide) hi hn ?_
  refine z_arg (j := 2) dL_726 dL_727 dL_728 dL_729 dL_730 rfl (by decide) hi hn ?_
  refine z_call (M := ML) (idx := 80) (ci := 5) (k := 2) (st := []) (ctX5_gets w) (by decide +kernel) (by decide +kernel) (by decide) (by decide) rfl (prX5_gets w) (fun s a m h => h.2.2.2.2.2.2) hcs hss dL_731 (as := [.ref (xA w), .int (xs (i + 1)), .int (xs (i + 2))]) (Nat.le_of_ble_eq_true rfl) ⟨rfl, hw, h5⟩ ?_
  refine z_aload (i := 2) (a := mA w) dL_734 rfl ?_
  refine z_arg (j := 1) dL_735 dL_736 dL_737 dL_738 dL_739 rfl (by decide) hi hn ?_
  refine z_arg (j := 2) dL_740 dL_741 dL_742 dL_743 dL_744 rfl (by decide) hi hn ?_
  refine z_call (M := ML) (idx := 83) (ci := 6) (k := 2) (st := [.int (rX5_gets (xs (i + 1)) (xs (i + 2)) u)]) (ctX6_gets w) (by decide +kernel) (by decide +kernel) (by decide) (by decide) rfl (prX6_gets w) (fun s a m h => h.2.2.2.2.2.2) hcs hss dL_745 (as := [.ref (mA w), .int (xs (i + 1)), .int (xs (i + 2))]) (Nat.le_of_ble_eq_true rfl) ⟨rfl, h6⟩ ?_
  refine z_icmp_eq dL_748 (t := 1466) (by decide) he ?_
  exact kk _ hr
theorem law_17 {w : WW} {b n cells slots i : Nat} {xs : Nat → Int32} (hw : wOk w) (hn : n ≤ 3072) (hi : i + 6 ≤ n) (hcs : cells ≤ 600000) (hss : slots ≤ 7302250) {u : MM} (hu : Rl u u) (kk : ∀ v, Rl v v → GZ w ML (XL w b n xs) (ZL b) (WO w v) cells slots 1466 (LLw w b i) []) : GZ w ML (XL w b n xs) (ZL b) (WO w u) cells slots 753 (LLw w b i) [] := by
  obtain ⟨h5, h6, he, hr⟩ := two (p5 := fun u => pX5_rich (xs (i + 1)) u) (p6 := fun u => pX6_rich (xs (i + 1)) u) (r5 := fun u => rX5_rich (xs (i + 1)) u) (r6 := fun u => rX6_rich (xs (i + 1)) u) (m5 := fun u => mX5_rich (xs (i + 1)) u) (m6 := fun u => mX6_rich (xs (i + 1)) u) (fun u v h => go_rich (xs (i + 1)) h) hu
  refine z_aload (i := 1) (a := xA w) dL_753 rfl ?_
  refine z_arg (j := 1) dL_754 dL_755 dL_756 dL_757 dL_758 rfl (by decide) hi hn ?_
  refine z_call (M := ML) (idx := 84) (ci := 5) (k := 1) (st := []) (ctX5_rich w) (by decide +kernel) (by decide +kernel) (by decide) (by decide) rfl (prX5_rich w) (fun s a m h => h.2.2.2.2.2.2) hcs hss dL_759 (as := [.ref (xA w), .int (xs (i + 1))]) (Nat.le_of_ble_eq_true rfl) ⟨rfl, hw, h5⟩ ?_
  refine z_aload (i := 2) (a := mA w) dL_762 rfl ?_
  refine z_arg (j := 1) dL_763 dL_764 dL_765 dL_766 dL_767 rfl (by decide) hi hn ?_
  refine z_call (M := ML) (idx := 87) (ci := 6) (k := 1) (st := [.int (rX5_rich (xs (i + 1)) u)]) (ctX6_rich w) (by decide +kernel) (by decide +kernel) (by decide) (by decide) rfl (prX6_rich w) (fun s a m h => h.2.2.2.2.2.2) hcs hss dL_768 (as := [.ref (mA w), .int (xs (i + 1))]) (Nat.le_of_ble_eq_true rfl) ⟨rfl, h6⟩ ?_
  refine z_icmp_eq dL_771 (t := 1466) (by decide) he ?_
  exact kk _ hr
theorem law_18 {w : WW} {b n cells slots i : Nat} {xs : Nat → Int32} (hw : wOk w) (hn : n ≤ 3072) (hi : i + 6 ≤ n) (hcs : cells ≤ 600000) (hss : slots ≤ 7302250) {u : MM} (hu : Rl u u) (kk : ∀ v, Rl v v → GZ w ML (XL w b n xs) (ZL b) (WO w v) cells slots 1466 (LLw w b i) []) : GZ w ML (XL w b n xs) (ZL b) (WO w u) cells slots 776 (LLw w b i) [] := by
  obtain ⟨h5, h6, he, hr⟩ := two (p5 := fun u => pX5_spots (xs (i + 1)) (xs (i + 2)) u) (p6 := fun u => pX6_spots (xs (i + 1)) (xs (i + 2)) u) (r5 := fun u => rX5_spots (xs (i + 1)) (xs (i + 2)) u) (r6 := fun u => rX6_spots (xs (i + 1)) (xs (i + 2)) u) (m5 := fun u => mX5_spots (xs (i + 1)) (xs (i + 2)) u) (m6 := fun u => mX6_spots (xs (i + 1)) (xs (i + 2)) u) (fun u v h => go_spots (xs (i + 1)) (xs (i + 2)) h) hu
  refine z_aload (i := 1) (a := xA w) dL_776 rfl ?_
  refine z_arg (j := 1) dL_777 dL_778 dL_779 dL_780 dL_781 rfl (by decide) hi hn ?_
  refine z_arg (j := 2) dL_782 dL_783 dL_784 dL_785 dL_786 rfl (by decide) hi hn ?_
  refine z_call (M := ML) (idx := 88) (ci := 5) (k := 2) (st := []) (ctX5_spots w) (by decide +kernel) (by decide +kernel) (by decide) (by decide) rfl (prX5_spots w) (fun s a m h => h.2.2.2.2.2.2) hcs hss dL_787 (as := [.ref (xA w), .int (xs (i + 1)), .int (xs (i + 2))]) (Nat.le_of_ble_eq_true rfl) ⟨rfl, hw, h5⟩ ?_
  refine z_aload (i := 2) (a := mA w) dL_790 rfl ?_
  refine z_arg (j := 1) dL_791 dL_792 dL_793 dL_794 dL_795 rfl (by decide) hi hn ?_
  refine z_arg (j := 2) dL_796 dL_797 dL_798 dL_799 dL_800 rfl (by decide) hi hn ?_
  refine z_call (M := ML) (idx := 91) (ci := 6) (k := 2) (st := [.int (rX5_spots (xs (i + 1)) (xs (i + 2)) u)]) (ctX6_spots w) (by decide +kernel) (by decide +kernel) (by decide) (by decide) rfl (prX6_spots w) (fun s a m h => h.2.2.2.2.2.2) hcs hss dL_801 (as := [.ref (mA w), .int (xs (i + 1)), .int (xs (i + 2))]) (Nat.le_of_ble_eq_true rfl) ⟨rfl, h6⟩ ?_
  refine z_icmp_eq dL_804 (t := 1466) (by decide) he ?_
  exact kk _ hr
theorem law_19 {w : WW} {b n cells slots i : Nat} {xs : Nat → Int32} (hw : wOk w) (hn : n ≤ 3072) (hi : i + 6 ≤ n) (hcs : cells ≤ 600000) (hss : slots ≤ 7302250) {u : MM} (hu : Rl u u) (kk : ∀ v, Rl v v → GZ w ML (XL w b n xs) (ZL b) (WO w v) cells slots 1466 (LLw w b i) []) : GZ w ML (XL w b n xs) (ZL b) (WO w u) cells slots 809 (LLw w b i) [] := by
  obtain ⟨h5, h6, he, hr⟩ := two (p5 := fun u => pX5_nearest (xs (i + 1)) (xs (i + 2)) u) (p6 := fun u => pX6_nearest (xs (i + 1)) (xs (i + 2)) u) (r5 := fun u => rX5_nearest (xs (i + 1)) (xs (i + 2)) u) (r6 := fun u => rX6_nearest (xs (i + 1)) (xs (i + 2)) u) (m5 := fun u => mX5_nearest (xs (i + 1)) (xs (i + 2)) u) (m6 := fun u => mX6_nearest (xs (i + 1)) (xs (i + 2)) u) (fun u v h => go_nearest (xs (i + 1)) (xs (i + 2)) h) hu
  refine z_aload (i := 1) (a := xA w) dL_809 rfl ?_
  refine z_arg (j := 1) dL_810 dL_811 dL_812 dL_813 dL_814 rfl (by decide) hi hn ?_
  refine z_arg (j := 2) dL_815 dL_816 dL_817 dL_818 dL_819 rfl (by decide) hi hn ?_
  refine z_call (M := ML) (idx := 92) (ci := 5) (k := 2) (st := []) (ctX5_nearest w) (by decide +kernel) (by decide +kernel) (by decide) (by decide) rfl (prX5_nearest w) (fun s a m h => h.2.2.2.2.2.2) hcs hss dL_820 (as := [.ref (xA w), .int (xs (i + 1)), .int (xs (i + 2))]) (Nat.le_of_ble_eq_true rfl) ⟨rfl, hw, h5⟩ ?_
  refine z_aload (i := 2) (a := mA w) dL_823 rfl ?_
  refine z_arg (j := 1) dL_824 dL_825 dL_826 dL_827 dL_828 rfl (by decide) hi hn ?_
  refine z_arg (j := 2) dL_829 dL_830 dL_831 dL_832 dL_833 rfl (by decide) hi hn ?_
  refine z_call (M := ML) (idx := 95) (ci := 6) (k := 2) (st := [.int (rX5_nearest (xs (i + 1)) (xs (i + 2)) u)]) (ctX6_nearest w) (by decide +kernel) (by decide +kernel) (by decide) (by decide) rfl (prX6_nearest w) (fun s a m h => h.2.2.2.2.2.2) hcs hss dL_834 (as := [.ref (mA w), .int (xs (i + 1)), .int (xs (i + 2))]) (Nat.le_of_ble_eq_true rfl) ⟨rfl, h6⟩ ?_
  refine z_icmp_eq dL_837 (t := 1466) (by decide) he ?_
  exact kk _ hr
theorem law_20 {w : WW} {b n cells slots i : Nat} {xs : Nat → Int32} (hw : wOk w) (hn : n ≤ 3072) (hi : i + 6 ≤ n) (hcs : cells ≤ 600000) (hss : slots ≤ 7302250) {u : MM} (hu : Rl u u) (kk : ∀ v, Rl v v → GZ w ML (XL w b n xs) (ZL b) (WO w v) cells slots 1466 (LLw w b i) []) : GZ w ML (XL w b n xs) (ZL b) (WO w u) cells slots 842 (LLw w b i) [] := by
  obtain ⟨h5, h6, he, hr⟩ := two (p5 := fun u => pX5_place (xs (i + 1)) (xs (i + 2)) u) (p6 := fun u => pX6_place (xs (i + 1)) (xs (i + 2)) u) (r5 := fun u => rX5_place (xs (i + 1)) (xs (i + 2)) u) (r6 := fun u => rX6_place (xs (i + 1)) (xs (i + 2)) u) (m5 := fun u => mX5_place (xs (i + 1)) (xs (i + 2)) u) (m6 := fun u => mX6_place (xs (i + 1)) (xs (i + 2)) u) (fun u v h => go_place (xs (i + 1)) (xs (i + 2)) h) hu
  refine z_aload (i := 1) (a := xA w) dL_842 rfl ?_
  refine z_arg (j := 1) dL_843 dL_844 dL_845 dL_846 dL_847 rfl (by decide) hi hn ?_
  refine z_arg (j := 2) dL_848 dL_849 dL_850 dL_851 dL_852 rfl (by decide) hi hn ?_
  refine z_call (M := ML) (idx := 96) (ci := 5) (k := 2) (st := []) (ctX5_place w) (by decide +kernel) (by decide +kernel) (by decide) (by decide) rfl (prX5_place w) (fun s a m h => h.2.2.2.2.2.2) hcs hss dL_853 (as := [.ref (xA w), .int (xs (i + 1)), .int (xs (i + 2))]) (Nat.le_of_ble_eq_true rfl) ⟨rfl, hw, h5⟩ ?_
  refine z_aload (i := 2) (a := mA w) dL_856 rfl ?_
  refine z_arg (j := 1) dL_857 dL_858 dL_859 dL_860 dL_861 rfl (by decide) hi hn ?_
  refine z_arg (j := 2) dL_862 dL_863 dL_864 dL_865 dL_866 rfl (by decide) hi hn ?_
  refine z_call (M := ML) (idx := 99) (ci := 6) (k := 2) (st := [.int (rX5_place (xs (i + 1)) (xs (i + 2)) u)]) (ctX6_place w) (by decide +kernel) (by decide +kernel) (by decide) (by decide) rfl (prX6_place w) (fun s a m h => h.2.2.2.2.2.2) hcs hss dL_867 (as := [.ref (mA w), .int (xs (i + 1)), .int (xs (i + 2))]) (Nat.le_of_ble_eq_true rfl) ⟨rfl, h6⟩ ?_
  refine z_icmp_eq dL_870 (t := 1466) (by decide) he ?_
  exact kk _ hr
theorem law_21 {w : WW} {b n cells slots i : Nat} {xs : Nat → Int32} (hw : wOk w) (hn : n ≤ 3072) (hi : i + 6 ≤ n) (hcs : cells ≤ 600000) (hss : slots ≤ 7302250) {u : MM} (hu : Rl u u) (kk : ∀ v, Rl v v → GZ w ML (XL w b n xs) (ZL b) (WO w v) cells slots 1466 (LLw w b i) []) : GZ w ML (XL w b n xs) (ZL b) (WO w u) cells slots 875 (LLw w b i) [] := by
  obtain ⟨h5, h6, he, hr⟩ := two (p5 := fun u => pX5_best (xs (i + 1)) u) (p6 := fun u => pX6_best (xs (i + 1)) u) (r5 := fun u => rX5_best (xs (i + 1)) u) (r6 := fun u => rX6_best (xs (i + 1)) u) (m5 := fun u => mX5_best (xs (i + 1)) u) (m6 := fun u => mX6_best (xs (i + 1)) u) (fun u v h => go_best (xs (i + 1)) h) hu
  refine z_aload (i := 1) (a := xA w) dL_875 rfl ?_
  refine z_arg (j := 1) dL_876 dL_877 dL_878 dL_879 dL_880 rfl (by decide) hi hn ?_
  refine z_call (M := ML) (idx := 100) (ci := 5) (k := 1) (st := []) (ctX5_best w) (by decide +kernel) (by decide +kernel) (by decide) (by decide) rfl (prX5_best w) (fun s a m h => h.2.2.2.2.2.2) hcs hss dL_881 (as := [.ref (xA w), .int (xs (i + 1))]) (Nat.le_of_ble_eq_true rfl) ⟨rfl, hw, h5⟩ ?_
  refine z_aload (i := 2) (a := mA w) dL_884 rfl ?_
  refine z_arg (j := 1) dL_885 dL_886 dL_887 dL_888 dL_889 rfl (by decide) hi hn ?_
  refine z_call (M := ML) (idx := 103) (ci := 6) (k := 1) (st := [.int (rX5_best (xs (i + 1)) u)]) (ctX6_best w) (by decide +kernel) (by decide +kernel) (by decide) (by decide) rfl (prX6_best w) (fun s a m h => h.2.2.2.2.2.2) hcs hss dL_890 (as := [.ref (mA w), .int (xs (i + 1))]) (Nat.le_of_ble_eq_true rfl) ⟨rfl, h6⟩ ?_
  refine z_icmp_eq dL_893 (t := 1466) (by decide) he ?_
  exact kk _ hr
theorem law_22 {w : WW} {b n cells slots i : Nat} {xs : Nat → Int32} (hw : wOk w) (hn : n ≤ 3072) (hi : i + 6 ≤ n) (hcs : cells ≤ 600000) (hss : slots ≤ 7302250) {u : MM} (hu : Rl u u) (kk : ∀ v, Rl v v → GZ w ML (XL w b n xs) (ZL b) (WO w v) cells slots 1466 (LLw w b i) []) : GZ w ML (XL w b n xs) (ZL b) (WO w u) cells slots 898 (LLw w b i) [] := by
  obtain ⟨h5, h6, he, hr⟩ := two (p5 := fun u => pX5_coughFor (xs (i + 1)) u) (p6 := fun u => pX6_coughFor (xs (i + 1)) u) (r5 := fun u => rX5_coughFor (xs (i + 1)) u) (r6 := fun u => rX6_coughFor (xs (i + 1)) u) (m5 := fun u => mX5_coughFor (xs (i + 1)) u) (m6 := fun u => mX6_coughFor (xs (i + 1)) u) (fun u v h => go_coughFor (xs (i + 1)) h) hu
  refine z_aload (i := 1) (a := xA w) dL_898 rfl ?_
  refine z_arg (j := 1) dL_899 dL_900 dL_901 dL_902 dL_903 rfl (by decide) hi hn ?_
  refine z_call (M := ML) (idx := 104) (ci := 5) (k := 1) (st := []) (ctX5_coughFor w) (by decide +kernel) (by decide +kernel) (by decide) (by decide) rfl (prX5_coughFor w) (fun s a m h => h.2.2.2.2.2.2) hcs hss dL_904 (as := [.ref (xA w), .int (xs (i + 1))]) (Nat.le_of_ble_eq_true rfl) ⟨rfl, hw, h5⟩ ?_
  refine z_aload (i := 2) (a := mA w) dL_907 rfl ?_
  refine z_arg (j := 1) dL_908 dL_909 dL_910 dL_911 dL_912 rfl (by decide) hi hn ?_
  refine z_call (M := ML) (idx := 107) (ci := 6) (k := 1) (st := [.int (rX5_coughFor (xs (i + 1)) u)]) (ctX6_coughFor w) (by decide +kernel) (by decide +kernel) (by decide) (by decide) rfl (prX6_coughFor w) (fun s a m h => h.2.2.2.2.2.2) hcs hss dL_913 (as := [.ref (mA w), .int (xs (i + 1))]) (Nat.le_of_ble_eq_true rfl) ⟨rfl, h6⟩ ?_
  refine z_icmp_eq dL_916 (t := 1466) (by decide) he ?_
  exact kk _ hr
theorem law_23 {w : WW} {b n cells slots i : Nat} {xs : Nat → Int32} (hw : wOk w) (hn : n ≤ 3072) (hi : i + 6 ≤ n) (hcs : cells ≤ 600000) (hss : slots ≤ 7302250) {u : MM} (hu : Rl u u) (kk : ∀ v, Rl v v → GZ w ML (XL w b n xs) (ZL b) (WO w v) cells slots 1466 (LLw w b i) []) : GZ w ML (XL w b n xs) (ZL b) (WO w u) cells slots 921 (LLw w b i) [] := by
  obtain ⟨h5, h6, he, hr⟩ := two (p5 := fun u => pX5_twice (xs (i + 1)) (xs (i + 2)) u) (p6 := fun u => pX6_twice (xs (i + 1)) (xs (i + 2)) u) (r5 := fun u => rX5_twice (xs (i + 1)) (xs (i + 2)) u) (r6 := fun u => rX6_twice (xs (i + 1)) (xs (i + 2)) u) (m5 := fun u => mX5_twice (xs (i + 1)) (xs (i + 2)) u) (m6 := fun u => mX6_twice (xs (i + 1)) (xs (i + 2)) u) (fun u v h => go_twice (xs (i + 1)) (xs (i + 2)) h) hu
  refine z_aload (i := 1) (a := xA w) dL_921 rfl ?_
  refine z_arg (j := 1) dL_922 dL_923 dL_924 dL_925 dL_926 rfl (by decide) hi hn ?_
  refine z_arg (j := 2) dL_927 dL_928 dL_929 dL_930 dL_931 rfl (by decide) hi hn ?_
  refine z_call (M := ML) (idx := 108) (ci := 5) (k := 2) (st := []) (ctX5_twice w) (by decide +kernel) (by decide +kernel) (by decide) (by decide) rfl (prX5_twice w) (fun s a m h => h.2.2.2.2.2.2) hcs hss dL_932 (as := [.ref (xA w), .int (xs (i + 1)), .int (xs (i + 2))]) (Nat.le_of_ble_eq_true rfl) ⟨rfl, hw, h5⟩ ?_
  refine z_aload (i := 2) (a := mA w) dL_935 rfl ?_
  refine z_arg (j := 1) dL_936 dL_937 dL_938 dL_939 dL_940 rfl (by decide) hi hn ?_
  refine z_arg (j := 2) dL_941 dL_942 dL_943 dL_944 dL_945 rfl (by decide) hi hn ?_
  refine z_call (M := ML) (idx := 111) (ci := 6) (k := 2) (st := [.int (rX5_twice (xs (i + 1)) (xs (i + 2)) u)]) (ctX6_twice w) (by decide +kernel) (by decide +kernel) (by decide) (by decide) rfl (prX6_twice w) (fun s a m h => h.2.2.2.2.2.2) hcs hss dL_946 (as := [.ref (mA w), .int (xs (i + 1)), .int (xs (i + 2))]) (Nat.le_of_ble_eq_true rfl) ⟨rfl, h6⟩ ?_
  refine z_icmp_eq dL_949 (t := 1466) (by decide) he ?_
  exact kk _ hr
theorem law_24 {w : WW} {b n cells slots i : Nat} {xs : Nat → Int32} (hw : wOk w) (hn : n ≤ 3072) (hi : i + 6 ≤ n) (hcs : cells ≤ 600000) (hss : slots ≤ 7302250) {u : MM} (hu : Rl u u) (kk : ∀ v, Rl v v → GZ w ML (XL w b n xs) (ZL b) (WO w v) cells slots 1466 (LLw w b i) []) : GZ w ML (XL w b n xs) (ZL b) (WO w u) cells slots 954 (LLw w b i) [] := by
  obtain ⟨h5, h6, he, hr⟩ := two (p5 := fun u => pX5_will (xs (i + 1)) (xs (i + 2)) u) (p6 := fun u => pX6_will (xs (i + 1)) (xs (i + 2)) u) (r5 := fun u => rX5_will (xs (i + 1)) (xs (i + 2)) u) (r6 := fun u => rX6_will (xs (i + 1)) (xs (i + 2)) u) (m5 := fun u => mX5_will (xs (i + 1)) (xs (i + 2)) u) (m6 := fun u => mX6_will (xs (i + 1)) (xs (i + 2)) u) (fun u v h => go_will (xs (i + 1)) (xs (i + 2)) h) hu
  refine z_aload (i := 1) (a := xA w) dL_954 rfl ?_
  refine z_arg (j := 1) dL_955 dL_956 dL_957 dL_958 dL_959 rfl (by decide) hi hn ?_
  refine z_arg (j := 2) dL_960 dL_961 dL_962 dL_963 dL_964 rfl (by decide) hi hn ?_
  refine z_call (M := ML) (idx := 112) (ci := 5) (k := 2) (st := []) (ctX5_will w) (by decide +kernel) (by decide +kernel) (by decide) (by decide) rfl (prX5_will w) (fun s a m h => h.2.2.2.2.2.2) hcs hss dL_965 (as := [.ref (xA w), .int (xs (i + 1)), .int (xs (i + 2))]) (Nat.le_of_ble_eq_true rfl) ⟨rfl, hw, h5⟩ ?_
  refine z_aload (i := 2) (a := mA w) dL_968 rfl ?_
  refine z_arg (j := 1) dL_969 dL_970 dL_971 dL_972 dL_973 rfl (by decide) hi hn ?_
  refine z_arg (j := 2) dL_974 dL_975 dL_976 dL_977 dL_978 rfl (by decide) hi hn ?_
  refine z_call (M := ML) (idx := 115) (ci := 6) (k := 2) (st := [.int (rX5_will (xs (i + 1)) (xs (i + 2)) u)]) (ctX6_will w) (by decide +kernel) (by decide +kernel) (by decide) (by decide) rfl (prX6_will w) (fun s a m h => h.2.2.2.2.2.2) hcs hss dL_979 (as := [.ref (mA w), .int (xs (i + 1)), .int (xs (i + 2))]) (Nat.le_of_ble_eq_true rfl) ⟨rfl, h6⟩ ?_
  refine z_icmp_eq dL_982 (t := 1466) (by decide) he ?_
  exact kk _ hr
theorem law_25 {w : WW} {b n cells slots i : Nat} {xs : Nat → Int32} (hw : wOk w) (hn : n ≤ 3072) (hi : i + 6 ≤ n) (hcs : cells ≤ 600000) (hss : slots ≤ 7302250) {u : MM} (hu : Rl u u) (kk : ∀ v, Rl v v → GZ w ML (XL w b n xs) (ZL b) (WO w v) cells slots 1466 (LLw w b i) []) : GZ w ML (XL w b n xs) (ZL b) (WO w u) cells slots 987 (LLw w b i) [] := by
  obtain ⟨h5, h6, he, hr⟩ := two (p5 := fun u => pX5_kind (xs (i + 1)) (xs (i + 2)) u) (p6 := fun u => pX6_kind (xs (i + 1)) (xs (i + 2)) u) (r5 := fun u => rX5_kind (xs (i + 1)) (xs (i + 2)) u) (r6 := fun u => rX6_kind (xs (i + 1)) (xs (i + 2)) u) (m5 := fun u => mX5_kind (xs (i + 1)) (xs (i + 2)) u) (m6 := fun u => mX6_kind (xs (i + 1)) (xs (i + 2)) u) (fun u v h => go_kind (xs (i + 1)) (xs (i + 2)) h) hu
  refine z_aload (i := 1) (a := xA w) dL_987 rfl ?_
  refine z_arg (j := 1) dL_988 dL_989 dL_990 dL_991 dL_992 rfl (by decide) hi hn ?_
  refine z_arg (j := 2) dL_993 dL_994 dL_995 dL_996 dL_997 rfl (by decide) hi hn ?_
  refine z_call (M := ML) (idx := 116) (ci := 5) (k := 2) (st := []) (ctX5_kind w) (by decide +kernel) (by decide +kernel) (by decide) (by decide) rfl (prX5_kind w) (fun s a m h => h.2.2.2.2.2.2) hcs hss dL_998 (as := [.ref (xA w), .int (xs (i + 1)), .int (xs (i + 2))]) (Nat.le_of_ble_eq_true rfl) ⟨rfl, hw, h5⟩ ?_
  refine z_aload (i := 2) (a := mA w) dL_1001 rfl ?_
  refine z_arg (j := 1) dL_1002 dL_1003 dL_1004 dL_1005 dL_1006 rfl (by decide) hi hn ?_
  refine z_arg (j := 2) dL_1007 dL_1008 dL_1009 dL_1010 dL_1011 rfl (by decide) hi hn ?_
  refine z_call (M := ML) (idx := 119) (ci := 6) (k := 2) (st := [.int (rX5_kind (xs (i + 1)) (xs (i + 2)) u)]) (ctX6_kind w) (by decide +kernel) (by decide +kernel) (by decide) (by decide) rfl (prX6_kind w) (fun s a m h => h.2.2.2.2.2.2) hcs hss dL_1012 (as := [.ref (mA w), .int (xs (i + 1)), .int (xs (i + 2))]) (Nat.le_of_ble_eq_true rfl) ⟨rfl, h6⟩ ?_
  refine z_icmp_eq dL_1015 (t := 1466) (by decide) he ?_
  exact kk _ hr
theorem law_26 {w : WW} {b n cells slots i : Nat} {xs : Nat → Int32} (hw : wOk w) (hn : n ≤ 3072) (hi : i + 6 ≤ n) (hcs : cells ≤ 600000) (hss : slots ≤ 7302250) {u : MM} (hu : Rl u u) (kk : ∀ v, Rl v v → GZ w ML (XL w b n xs) (ZL b) (WO w v) cells slots 1466 (LLw w b i) []) : GZ w ML (XL w b n xs) (ZL b) (WO w u) cells slots 1020 (LLw w b i) [] := by
  obtain ⟨h5, h6, he, hr⟩ := two (p5 := fun u => pX5_guard (xs (i + 1)) (xs (i + 2)) u) (p6 := fun u => pX6_guard (xs (i + 1)) (xs (i + 2)) u) (r5 := fun u => rX5_guard (xs (i + 1)) (xs (i + 2)) u) (r6 := fun u => rX6_guard (xs (i + 1)) (xs (i + 2)) u) (m5 := fun u => mX5_guard (xs (i + 1)) (xs (i + 2)) u) (m6 := fun u => mX6_guard (xs (i + 1)) (xs (i + 2)) u) (fun u v h => go_guard (xs (i + 1)) (xs (i + 2)) h) hu
  refine z_aload (i := 1) (a := xA w) dL_1020 rfl ?_
  refine z_arg (j := 1) dL_1021 dL_1022 dL_1023 dL_1024 dL_1025 rfl (by decide) hi hn ?_
  refine z_arg (j := 2) dL_1026 dL_1027 dL_1028 dL_1029 dL_1030 rfl (by decide) hi hn ?_
  refine z_call (M := ML) (idx := 120) (ci := 5) (k := 2) (st := []) (ctX5_guard w) (by decide +kernel) (by decide +kernel) (by decide) (by decide) rfl (prX5_guard w) (fun s a m h => h.2.2.2.2.2.2) hcs hss dL_1031 (as := [.ref (xA w), .int (xs (i + 1)), .int (xs (i + 2))]) (Nat.le_of_ble_eq_true rfl) ⟨rfl, h5⟩ ?_
  refine z_aload (i := 2) (a := mA w) dL_1034 rfl ?_
  refine z_arg (j := 1) dL_1035 dL_1036 dL_1037 dL_1038 dL_1039 rfl (by decide) hi hn ?_
  refine z_arg (j := 2) dL_1040 dL_1041 dL_1042 dL_1043 dL_1044 rfl (by decide) hi hn ?_
  refine z_call (M := ML) (idx := 123) (ci := 6) (k := 2) (st := [.int (rX5_guard (xs (i + 1)) (xs (i + 2)) u)]) (ctX6_guard w) (by decide +kernel) (by decide +kernel) (by decide) (by decide) rfl (prX6_guard w) (fun s a m h => h.2.2.2.2.2.2) hcs hss dL_1045 (as := [.ref (mA w), .int (xs (i + 1)), .int (xs (i + 2))]) (Nat.le_of_ble_eq_true rfl) ⟨rfl, h6⟩ ?_
  refine z_icmp_eq dL_1048 (t := 1466) (by decide) he ?_
  exact kk _ hr
theorem law_27 {w : WW} {b n cells slots i : Nat} {xs : Nat → Int32} (hw : wOk w) (hn : n ≤ 3072) (hi : i + 6 ≤ n) (hcs : cells ≤ 600000) (hss : slots ≤ 7302250) {u : MM} (hu : Rl u u) (kk : ∀ v, Rl v v → GZ w ML (XL w b n xs) (ZL b) (WO w v) cells slots 1466 (LLw w b i) []) : GZ w ML (XL w b n xs) (ZL b) (WO w u) cells slots 1053 (LLw w b i) [] := by
  obtain ⟨h5, h6, he, hr⟩ := two (p5 := fun u => pX5_feed (xs (i + 1)) (xs (i + 2)) u) (p6 := fun u => pX6_feed (xs (i + 1)) (xs (i + 2)) u) (r5 := fun u => rX5_feed (xs (i + 1)) (xs (i + 2)) u) (r6 := fun u => rX6_feed (xs (i + 1)) (xs (i + 2)) u) (m5 := fun u => mX5_feed (xs (i + 1)) (xs (i + 2)) u) (m6 := fun u => mX6_feed (xs (i + 1)) (xs (i + 2)) u) (fun u v h => go_feed (xs (i + 1)) (xs (i + 2)) h) hu
  refine z_aload (i := 1) (a := xA w) dL_1053 rfl ?_
  refine z_arg (j := 1) dL_1054 dL_1055 dL_1056 dL_1057 dL_1058 rfl (by decide) hi hn ?_
  refine z_arg (j := 2) dL_1059 dL_1060 dL_1061 dL_1062 dL_1063 rfl (by decide) hi hn ?_
  refine z_call (M := ML) (idx := 124) (ci := 5) (k := 2) (st := []) (ctX5_feed w) (by decide +kernel) (by decide +kernel) (by decide) (by decide) rfl (prX5_feed w) (fun s a m h => h.2.2.2.2.2.2) hcs hss dL_1064 (as := [.ref (xA w), .int (xs (i + 1)), .int (xs (i + 2))]) (Nat.le_of_ble_eq_true rfl) ⟨rfl, h5⟩ ?_
  refine z_aload (i := 2) (a := mA w) dL_1067 rfl ?_
  refine z_arg (j := 1) dL_1068 dL_1069 dL_1070 dL_1071 dL_1072 rfl (by decide) hi hn ?_
  refine z_arg (j := 2) dL_1073 dL_1074 dL_1075 dL_1076 dL_1077 rfl (by decide) hi hn ?_
  refine z_call (M := ML) (idx := 127) (ci := 6) (k := 2) (st := [.int (rX5_feed (xs (i + 1)) (xs (i + 2)) u)]) (ctX6_feed w) (by decide +kernel) (by decide +kernel) (by decide) (by decide) rfl (prX6_feed w) (fun s a m h => h.2.2.2.2.2.2) hcs hss dL_1078 (as := [.ref (mA w), .int (xs (i + 1)), .int (xs (i + 2))]) (Nat.le_of_ble_eq_true rfl) ⟨rfl, h6⟩ ?_
  refine z_icmp_eq dL_1081 (t := 1466) (by decide) he ?_
  exact kk _ hr
theorem law_28 {w : WW} {b n cells slots i : Nat} {xs : Nat → Int32} (hw : wOk w) (hn : n ≤ 3072) (hi : i + 6 ≤ n) (hcs : cells ≤ 600000) (hss : slots ≤ 7302250) {u : MM} (hu : Rl u u) (kk : ∀ v, Rl v v → GZ w ML (XL w b n xs) (ZL b) (WO w v) cells slots 1466 (LLw w b i) []) : GZ w ML (XL w b n xs) (ZL b) (WO w u) cells slots 1086 (LLw w b i) [] := by
  obtain ⟨h5, h6, he, hr⟩ := two (p5 := fun u => pX5_wipe  u) (p6 := fun u => pX6_wipe  u) (r5 := fun u => rX5_wipe  u) (r6 := fun u => rX6_wipe  u) (m5 := fun u => mX5_wipe  u) (m6 := fun u => mX6_wipe  u) (fun u v h => go_wipe  h) hu
  refine z_aload (i := 1) (a := xA w) dL_1086 rfl ?_
  refine z_call (M := ML) (idx := 128) (ci := 5) (k := 0) (st := []) (ctX5_wipe w) (by decide +kernel) (by decide +kernel) (by decide) (by decide) rfl (prX5_wipe w) (fun s a m h => h.2.2.2.2.2.2) hcs hss dL_1087 (as := [.ref (xA w)]) (Nat.le_of_ble_eq_true rfl) ⟨rfl, h5⟩ ?_
  refine z_aload (i := 2) (a := mA w) dL_1090 rfl ?_
  refine z_call (M := ML) (idx := 132) (ci := 6) (k := 0) (st := [.int (rX5_wipe  u)]) (ctX6_wipe w) (by decide +kernel) (by decide +kernel) (by decide) (by decide) rfl (prX6_wipe w) (fun s a m h => h.2.2.2.2.2.2) hcs hss dL_1091 (as := [.ref (mA w)]) (Nat.le_of_ble_eq_true rfl) ⟨rfl, h6⟩ ?_
  refine z_icmp_eq dL_1094 (t := 1466) (by decide) he ?_
  exact kk _ hr
theorem law_29 {w : WW} {b n cells slots i : Nat} {xs : Nat → Int32} (hw : wOk w) (hn : n ≤ 3072) (hi : i + 6 ≤ n) (hcs : cells ≤ 600000) (hss : slots ≤ 7302250) {u : MM} (hu : Rl u u) (kk : ∀ v, Rl v v → GZ w ML (XL w b n xs) (ZL b) (WO w v) cells slots 1466 (LLw w b i) []) : GZ w ML (XL w b n xs) (ZL b) (WO w u) cells slots 1099 (LLw w b i) [] := by
  obtain ⟨h5, h6, he, hr⟩ := two (p5 := fun u => pX5_hall  u) (p6 := fun u => pX6_hall  u) (r5 := fun u => rX5_hall  u) (r6 := fun u => rX6_hall  u) (m5 := fun u => mX5_hall  u) (m6 := fun u => mX6_hall  u) (fun u v h => go_hall  h) hu
  refine z_aload (i := 1) (a := xA w) dL_1099 rfl ?_
  refine z_call (M := ML) (idx := 133) (ci := 5) (k := 0) (st := []) (ctX5_hall w) (by decide +kernel) (by decide +kernel) (by decide) (by decide) rfl (prX5_hall w) (fun s a m h => h.2.2.2.2.2.2) hcs hss dL_1100 (as := [.ref (xA w)]) (Nat.le_of_ble_eq_true rfl) ⟨rfl, hw, h5⟩ ?_
  refine z_aload (i := 2) (a := mA w) dL_1103 rfl ?_
  refine z_call (M := ML) (idx := 136) (ci := 6) (k := 0) (st := [.int (rX5_hall  u)]) (ctX6_hall w) (by decide +kernel) (by decide +kernel) (by decide) (by decide) rfl (prX6_hall w) (fun s a m h => h.2.2.2.2.2.2) hcs hss dL_1104 (as := [.ref (mA w)]) (Nat.le_of_ble_eq_true rfl) ⟨rfl, h6⟩ ?_
  refine z_icmp_eq dL_1107 (t := 1466) (by decide) he ?_
  exact kk _ hr
theorem law_30 {w : WW} {b n cells slots i : Nat} {xs : Nat → Int32} (hw : wOk w) (hn : n ≤ 3072) (hi : i + 6 ≤ n) (hcs : cells ≤ 600000) (hss : slots ≤ 7302250) {u : MM} (hu : Rl u u) (kk : ∀ v, Rl v v → GZ w ML (XL w b n xs) (ZL b) (WO w v) cells slots 1466 (LLw w b i) []) : GZ w ML (XL w b n xs) (ZL b) (WO w u) cells slots 1112 (LLw w b i) [] := by
  obtain ⟨h5, h6, he, hr⟩ := two (p5 := fun u => pX5_sheet (xs (i + 1)) (xs (i + 2)) (xs (i + 3)) u) (p6 := fun u => pX6_sheet (xs (i + 1)) (xs (i + 2)) (xs (i + 3)) u) (r5 := fun u => rX5_sheet (xs (i + 1)) (xs (i + 2)) (xs (i + 3)) u) (r6 := fun u => rX6_sheet (xs (i + 1)) (xs (i + 2)) (xs (i + 3)) u) (m5 := fun u => mX5_sheet (xs (i + 1)) (xs (i + 2)) (xs (i + 3)) u) (m6 := fun u => mX6_sheet (xs (i + 1)) (xs (i + 2)) (xs (i + 3)) u) (fun u v h => go_sheet (xs (i + 1)) (xs (i + 2)) (xs (i + 3)) h) hu
  refine z_aload (i := 1) (a := xA w) dL_1112 rfl ?_
  refine z_arg (j := 1) dL_1113 dL_1114 dL_1115 dL_1116 dL_1117 rfl (by decide) hi hn ?_
  refine z_arg (j := 2) dL_1118 dL_1119 dL_1120 dL_1121 dL_1122 rfl (by decide) hi hn ?_
  refine z_arg (j := 3) dL_1123 dL_1124 dL_1125 dL_1126 dL_1127 rfl (by decide) hi hn ?_
  refine z_call (M := ML) (idx := 137) (ci := 5) (k := 3) (st := []) (ctX5_sheet w) (by decide +kernel) (by decide +kernel) (by decide) (by decide) rfl (prX5_sheet w) (fun s a m h => h.2.2.2.2.2.2) hcs hss dL_1128 (as := [.ref (xA w), .int (xs (i + 1)), .int (xs (i + 2)), .int (xs (i + 3))]) (Nat.le_of_ble_eq_true rfl) ⟨rfl, h5⟩ ?_
  refine z_aload (i := 2) (a := mA w) dL_1131 rfl ?_
  refine z_arg (j := 1) dL_1132 dL_1133 dL_1134 dL_1135 dL_1136 rfl (by decide) hi hn ?_
  refine z_arg (j := 2) dL_1137 dL_1138 dL_1139 dL_1140 dL_1141 rfl (by decide) hi hn ?_
  refine z_arg (j := 3) dL_1142 dL_1143 dL_1144 dL_1145 dL_1146 rfl (by decide) hi hn ?_
  refine z_call (M := ML) (idx := 140) (ci := 6) (k := 3) (st := [.int (rX5_sheet (xs (i + 1)) (xs (i + 2)) (xs (i + 3)) u)]) (ctX6_sheet w) (by decide +kernel) (by decide +kernel) (by decide) (by decide) rfl (prX6_sheet w) (fun s a m h => h.2.2.2.2.2.2) hcs hss dL_1147 (as := [.ref (mA w), .int (xs (i + 1)), .int (xs (i + 2)), .int (xs (i + 3))]) (Nat.le_of_ble_eq_true rfl) ⟨rfl, h6⟩ ?_
  refine z_icmp_eq dL_1150 (t := 1466) (by decide) he ?_
  exact kk _ hr
