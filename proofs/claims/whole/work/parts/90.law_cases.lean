/-! ===== the law's cases ===== -/
abbrev LLw (w : WW) (b i : Nat) : LL := [some (.ref b), some (.ref (xA w)), some (.ref (mA w)), some (.int (nI i))]
theorem law_0 {w : WW} {b n cells slots i : Nat} {xs : Nat → Int32} (hw : wOk w) (hn : n ≤ 3072) (hi : i + 6 ≤ n) (hcs : cells ≤ 600000) (hss : slots ≤ 7302250) {u : MM} (hu : Rl u u) (kk : ∀ v, Rl v v → GZ w ML (XL w b n xs) (ZL b) (WO w v) cells slots 1466 (LLw w b i) []) : GZ w ML (XL w b n xs) (ZL b) (WO w u) cells slots 212 (LLw w b i) [] := by
  obtain ⟨h5, h6, he, hr⟩ := two (p5 := fun u => pX5_seat (xs (i + 1)) (xs (i + 2)) u) (p6 := fun u => pX6_seat (xs (i + 1)) (xs (i + 2)) u) (r5 := fun u => rX5_seat (xs (i + 1)) (xs (i + 2)) u) (r6 := fun u => rX6_seat (xs (i + 1)) (xs (i + 2)) u) (m5 := fun u => mX5_seat (xs (i + 1)) (xs (i + 2)) u) (m6 := fun u => mX6_seat (xs (i + 1)) (xs (i + 2)) u) (fun u v h => go_seat (xs (i + 1)) (xs (i + 2)) h) hu
  refine z_aload (i := 1) (a := xA w) dL_212 rfl ?_
  refine z_arg (j := 1) dL_213 dL_214 dL_215 dL_216 dL_217 rfl (by decide) hi hn ?_
  refine z_arg (j := 2) dL_218 dL_219 dL_220 dL_221 dL_222 rfl (by decide) hi hn ?_
  refine z_call (M := ML) (idx := 13) (ci := 5) (k := 2) (st := []) (ctX5_seat w) (by decide +kernel) (by decide +kernel) (by decide) (by decide) rfl (prX5_seat w) (fun s a m h => h.2.2.2.2.2.2) hcs hss dL_223 (as := [.ref (xA w), .int (xs (i + 1)), .int (xs (i + 2))]) (Nat.le_of_ble_eq_true rfl) ⟨rfl, h5⟩ ?_
  refine z_aload (i := 2) (a := mA w) dL_226 rfl ?_
  refine z_arg (j := 1) dL_227 dL_228 dL_229 dL_230 dL_231 rfl (by decide) hi hn ?_
  refine z_arg (j := 2) dL_232 dL_233 dL_234 dL_235 dL_236 rfl (by decide) hi hn ?_
  refine z_call (M := ML) (idx := 17) (ci := 6) (k := 2) (st := [.int (rX5_seat (xs (i + 1)) (xs (i + 2)) u)]) (ctX6_seat w) (by decide +kernel) (by decide +kernel) (by decide) (by decide) rfl (prX6_seat w) (fun s a m h => h.2.2.2.2.2.2) hcs hss dL_237 (as := [.ref (mA w), .int (xs (i + 1)), .int (xs (i + 2))]) (Nat.le_of_ble_eq_true rfl) ⟨rfl, h6⟩ ?_
  refine z_icmp_eq dL_240 (t := 1466) (by decide) he ?_
  exact kk _ hr
