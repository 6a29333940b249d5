/-! ===== the law's loop ===== -/
def offsL : Array Int := #[179, 212, 245, 278, 321, 354, 397, 430, 463, 496, 519, 542, 565, 588, 621, 654, 687, 720, 743, 776, 809, 842, 865, 888, 921, 954, 987, 1020, 1053, 1066, 1079, 1122, 1196, 1259, 1282, 1315, 1348, 1361, 1374, 1387, 1410]
def tgL (k : Nat) : Nat := [212, 245, 278, 311, 354, 387, 430, 463, 496, 529, 552, 575, 598, 621, 654, 687, 720, 753, 776, 809, 842, 875, 898, 921, 954, 987, 1020, 1053, 1086, 1099, 1112, 1155, 1229, 1292, 1315, 1348, 1381, 1394, 1407, 1420, 1443].getD k 1466
theorem offsL_ok : ∀ k, k < 41 → offsL[k]? = some ((tgL k : Int) - 33) := by decide +kernel
theorem law_k {w : WW} {b n cells slots i : Nat} {xs : Nat → Int32} (hw : wOk w) (hn : n ≤ 3072) (hi : i + 6 ≤ n) (hcs : cells ≤ 600000) (hss : slots ≤ 7302250) {u : MM} (hu : Rl u u) (kk : ∀ v, Rl v v → GZ w ML (XL w b n xs) (ZL b) (WO w v) cells slots 1466 (LLw w b i) []) : ∀ k, k < 41 → GZ w ML (XL w b n xs) (ZL b) (WO w u) cells slots (tgL k) (LLw w b i) []
  | 0, _ => law_0 hw hn hi hcs hss hu kk
  | 1, _ => law_1 hw hn hi hcs hss hu kk
  | 2, _ => law_2 hw hn hi hcs hss hu kk
  | 3, _ => law_3 hw hn hi hcs hss hu kk
  | 4, _ => law_4 hw hn hi hcs hss hu kk
  | 5, _ => law_5 hw hn hi hcs hss hu kk
  | 6, _ => law_6 hw hn hi hcs hss hu kk
  | 7, _ => law_7 hw hn hi hcs hss hu kk
  | 8, _ => law_8 hw hn hi hcs hss hu kk
  | 9, _ => law_9 hw hn hi hcs hss hu kk
  | 10, _ => law_10 hw hn hi hcs hss hu kk
  | 11, _ => law_11 hw hn hi hcs hss hu kk
  | 12, _ => law_12 hw hn hi hcs hss hu kk
  | 13, _ => law_13 hw hn hi hcs hss hu kk
  | 14, _ => law_14 hw hn hi hcs hss hu kk
  | 15, _ => law_15 hw hn hi hcs hss hu kk
  | 16, _ => law_16 hw hn hi hcs hss hu kk
  | 17, _ => law_17 hw hn hi hcs hss hu kk
  | 18, _ => law_18 hw hn hi hcs hss hu kk
  | 19, _ => law_19 hw hn hi hcs hss hu kk
  | 20, _ => law_20 hw hn hi hcs hss hu kk
  | 21, _ => law_21 hw hn hi hcs hss hu kk
  | 22, _ => law_22 hw hn hi hcs hss hu kk
  | 23, _ => law_23 hw hn hi hcs hss hu kk
  | 24, _ => law_24 hw hn hi hcs hss hu kk
  | 25, _ => law_25 hw hn hi hcs hss hu kk
  | 26, _ => law_26 hw hn hi hcs hss hu kk
  | 27, _ => law_27 hw hn hi hcs hss hu kk
  | 28, _ => law_28 hw hn hi hcs hss hu kk
  | 29, _ => law_29 hw hn hi hcs hss hu kk
  | 30, _ => law_30 hw hn hi hcs hss hu kk
  | 31, _ => law_31 hw hn hi hcs hss hu kk
  | 32, _ => law_32 hw hn hi hcs hss hu kk
  | 33, _ => law_33 hw hn hi hcs hss hu kk
  | 34, _ => law_34 hw hn hi hcs hss hu kk
  | 35, _ => law_35 hw hn hi hcs hss hu kk
  | 36, _ => law_36 hw hn hi hcs hss hu kk
  | 37, _ => law_37 hw hn hi hcs hss hu kk
  | 38, _ => law_38 hw hn hi hcs hss hu kk
  | 39, _ => law_39 hw hn hi hcs hss hu kk
  | 40, _ => law_40 hw hn hi hcs hss hu kk
  | k + 41, h => absurd h (by omega)
theorem le6s : ∀ n, n < 6 → ∀ i, i < 6 → nI i > Int32.ofNat n - (Int8.ofInt 6).toInt32 := by decide +kernel
theorem le6 {i n : Nat} (hn : n ≤ 3072) (hi : i ≤ n) (h : ¬ nI i > Int32.ofNat n - (Int8.ofInt 6).toInt32) : i + 6 ≤ n := by
  apply Classical.byContradiction
  intro q
  apply h
  by_cases h6 : n < 6
  · exact le6s n h6 i (by omega)
  · have e : Int32.ofNat n - (Int8.ofInt 6).toInt32 = nI (n - 6) := by
      have e1 : Int32.ofNat n = nI (n - 6) + nI 6 := by rw [nI_add, show n - 6 + 6 = n by omega]; rfl
      rw [e1]
      exact Int32.add_sub_cancel _ _
    rw [e]
    exact (nI_ltI (by omega) (by omega)).mpr (by omega)
theorem law_loop {w : WW} {b n cells slots : Nat} {xs : Nat → Int32} (hw : wOk w) (hn : n ≤ 3072) (hcs : cells ≤ 600000) (hss : slots ≤ 7302250) : ∀ (f i : Nat), i ≤ n → n < i + f → ∀ u : MM, Rl u u → GZ w ML (XL w b n xs) (ZL b) (WO w u) cells slots 18 (LLw w b i) []
  | 0, i, h1, h2, u, hu => absurd h2 (by omega)
  | f + 1, i, h1, h2, u, hu => by
    refine z_iload (i := 3) (v := nI i) dL_18 rfl ?_
    refine z_aload (i := 0) (a := b) dL_19 rfl ?_
    refine z_slen dL_20 ?_
    refine z_bipush dL_21 ?_
    refine z_isub dL_23 ?_
    refine z_icmp_gt dL_24 (t := 1472) (by decide) (fun _ => ?_) (fun hle => ?_)
    · refine z_iconst dL_1472 ?_
      exact z_lret dL_1473 hcs hss
    · have hi : i + 6 ≤ n := le6 hn h1 hle
      have kk : ∀ v, Rl v v → GZ w ML (XL w b n xs) (ZL b) (WO w v) cells slots 1466 (LLw w b i) [] := by
        intro v hv
        refine z_iinc (i := 3) (v := nI i) dL_1466 rfl ?_
        refine z_goto dL_1469 (t := 18) (by decide) ?_
        have e0 : nI i + Int32.ofInt 6 = nI (i + 6) := nI_add i 6
        have e : ls1 (LLw w b i) 3 (.int (nI i + Int32.ofInt 6)) = LLw w b (i + 6) := by rw [e0]; rfl
        rw [e]
        exact law_loop hw hn hcs hss f (i + 6) hi (by omega) v hv
      refine z_aload (i := 0) (a := b) dL_27 rfl ?_
      refine z_iload (i := 3) (v := nI i) dL_28 rfl ?_
      refine z_sld (vi_nI (by omega) (by omega)) dL_29 ?_
      refine z_bipush dL_30 ?_
      refine z_iand dL_32 ?_
      generalize xs (nI i).toNatClampNeg &&& (Int8.ofInt 63).toInt32 = x
      by_cases hx : x.toInt < 0 ∨ 40 < x.toInt
      · exact z_tOut (t := 1466) (offs := offsL) dL_33 hx (by decide) (kk u hu)
      · obtain ⟨k, hk⟩ : ∃ k : Nat, x.toInt = k := ⟨x.toInt.toNat, by omega⟩
        have hk40 : k < 41 := by omega
        have ho : offsL[(x.toInt - 0).toNat]? = some ((tgL k : Int) - 33) := by
          rw [hk, show ((k : Int) - 0).toNat = k by omega]; exact offsL_ok k hk40
        exact z_tIn (t := tgL k) (offs := offsL) (off := (tgL k : Int) - 33) dL_33 (by omega) (by omega) ho (by show ((33 : Nat) : Int) + ((tgL k : Int) - 33) = (tgL k : Int); omega) (law_k hw hn hi hcs hss hu kk k hk40)
