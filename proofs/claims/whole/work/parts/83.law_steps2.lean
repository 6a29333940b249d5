/-! ===== the law reads its script ===== -/
theorem z_arg {w : WW} {b n cells slots pc i : Nat} {Z : ZT} {P : Heap → Prop} {a x2 : Value} {xs : Nat → Int32} {M : MI} {j : Nat} {jj : Int} {st : List Value} (d0 : decode M.1 pc = .ok (.aload_n 0, 1)) (d1 : decode M.1 (pc + 1) = .ok (.iload_n 3, 1)) (d2 : decode M.1 (pc + 2) = .ok (.iconst jj, 1)) (d3 : decode M.1 (pc + 3) = .ok (.iadd, 1)) (d4 : decode M.1 (pc + 4) = .ok (.iaload, 1)) (hj : Int32.ofInt jj = nI j) (hj5 : j ≤ 5) (hi : i + 6 ≤ n) (hn : n ≤ 3072)
    (h : GZ w M (XL w b n xs) Z P cells slots (pc + 5) [some (.ref b), some a, some x2, some (.int (nI i))] (.int (xs (i + j)) :: st)) : GZ w M (XL w b n xs) Z P cells slots pc [some (.ref b), some a, some x2, some (.int (nI i))] st := by
  refine z_aload (i := 0) d0 rfl ?_
  refine z_iload (i := 3) d1 rfl ?_
  refine z_iconst d2 ?_
  refine z_iadd d3 ?_
  rw [hj, nI_add]
  refine z_sld (vi_nI (by omega) (by omega)) d4 ?_
  rw [show (nI (i + j)).toNatClampNeg = i + j from NN_nI (by omega)]
  exact h
