/-! ===== the law's walk: longs, the switch, a call with its results named ===== -/
section LWT
variable {w : WW} {X : XT} {Z : ZT} {P : Heap → Prop} {M : MI} {cells slots pc : Nat} {L : LL} {st : List Value} {b n : Nat} {xs : Nat → Int32}
theorem z_call1 {y : MethodName} {My : MI} {pre : List Value → MM → Prop} {res : List Value → MM → Option Value × MM} {k idx ci : Nat} {u u1 : MM} {v : Value} (hC : CT w y My pre res) (hw : ∀ x ∈ wV1 M.2.2.2.1 idx y My, x ∈ Gt) (hn : nmOk y k = true) (hr : rmOk M My = true) (hci : ci < 7) (hcl : (cQ ci).1 = y.cls)
    (hp : ∀ as u, pre as u → ∃ a r, as = .ref a :: r ∧ r.length = k ∧ okO w a ci) (hX : ∀ s args meth, X s args meth → RO w s) (hcs : cells ≤ M.2.2.2.2.cells) (hss : slots ≤ M.2.2.2.2.slots) (hd : decode M.1 pc = .ok (.invokevirtual idx, 3)) {as : List Value} (h1 : (st.map (fun v => v.category)).sum ≤ 8) (h2 : pre as u) (hres : res as u = (some v, u1))
    (h : GZ w M X Z (WO w u1) cells slots (pc + 3) L (v :: st)) : GZ w M X Z (WO w u) cells slots pc L (as.reverse ++ st) := by
  refine z_call hC hw hn hr hci hcl hp hX hcs hss hd h1 h2 ?_
  rw [hres]
  exact h
theorem z_i2l {x : Int32} (hd : decode M.1 pc = .ok (.i2l, 1)) (h : GZ w M X Z P cells slots (pc + 1) L (.long x.toInt64 :: st)) : GZ w M X Z P cells slots pc L (.int x :: st) := by
  intro p l e s m args below meth c C x H locs ls hP hS hl hL
  exact lv_i2l C.1 C.2.1 hd rfl (h p l e s m args below meth c C x H locs ls hP hS hl hL)
theorem z_lshl {x : Int64} {y : Int32} (hd : decode M.1 pc = .ok (.lshl, 1)) (h : GZ w M X Z P cells slots (pc + 1) L (.long (x <<< (y.toInt64 &&& 63)) :: st)) : GZ w M X Z P cells slots pc L (.int y :: .long x :: st) := by
  intro p l e s m args below meth c C x H locs ls hP hS hl hL
  exact lv_lshl C.1 C.2.1 hd rfl (h p l e s m args below meth c C x H locs ls hP hS hl hL)
theorem z_ldc {idx : Nat} {v : Int64} (hc : Cond.constantLong M.2.2.2.1 idx v ∈ Gt) (hd : decode M.1 pc = .ok (.ldc2_w idx, 3)) (h : GZ w M X Z P cells slots (pc + 3) L (.long v :: st)) : GZ w M X Z P cells slots pc L st := by
  intro p l e s m args below meth c C x H locs ls hP hS hl hL
  exact lv_ldc2 C.1 C.2.1 C.2.2.2.1 (C.2.2.2.2.1 _ hc) hd (h p l e s m args below meth c C x H locs ls hP hS hl hL)
theorem z_land {x y : Int64} (hd : decode M.1 pc = .ok (.land, 1)) (h : GZ w M X Z P cells slots (pc + 1) L (.long (x &&& y) :: st)) : GZ w M X Z P cells slots pc L (.long y :: .long x :: st) := by
  intro p l e s m args below meth c C x H locs ls hP hS hl hL
  exact lv_land C.1 C.2.1 hd (h p l e s m args below meth c C x H locs ls hP hS hl hL)
theorem z_lor {x y v : Int64} (hd : decode M.1 pc = .ok (.lor, 1)) (hv : x ||| y = v) (h : GZ w M X Z P cells slots (pc + 1) L (.long v :: st)) : GZ w M X Z P cells slots pc L (.long y :: .long x :: st) := by
  subst hv
  intro p l e s m args below meth c C x H locs ls hP hS hl hL
  exact lv_lor C.1 C.2.1 hd (h p l e s m args below meth c C x H locs ls hP hS hl hL)
theorem z_lcmp0 {x y : Int64} {d : Int} {t : Nat} (hd : decode M.1 pc = .ok (.lcmp, 1)) (hd1 : decode M.1 (pc + 1) = .ok (.ifCond .eq d, 3)) (hg : ((pc + 1 : Nat) : Int) + d = (t : Int)) (he : x = y) (h : GZ w M X Z P cells slots t L st) : GZ w M X Z P cells slots pc L (.long y :: .long x :: st) := by
  subst he
  intro p l e s m args below meth c C x' H locs ls hP hS hl hL
  refine W.lcmp C.1 C.2.1 hd ?_
  have e0 : lg_cmp x x = 0 := by
    unfold lg_cmp
    rw [if_neg (Int64.lt_irrefl), if_pos rfl]
  rw [e0]
  exact lv_if_eq C.1 C.2.1 hd1 hg (fun _ => h p l e s m args below meth c C x' H locs ls hP hS hl hL) (fun z => absurd rfl z)
theorem z_tIn {d lo hi : Int} {offs : Array Int} {len : Nat} {x : Int32} {off : Int} {t : Nat} (hd : decode M.1 pc = .ok (.tableswitch d lo hi offs, len)) (h1 : ¬ x.toInt < lo) (h2 : ¬ hi < x.toInt) (ho : offs[(x.toInt - lo).toNat]? = some off) (ht : (pc : Int) + off = (t : Int)) (h : GZ w M X Z P cells slots t L st) : GZ w M X Z P cells slots pc L (.int x :: st) := by
  intro p l e s m args below meth c C x H locs ls hP hS hl hL
  exact lv_tableIn C.1 C.2.1 hd h1 h2 ho ht (h p l e s m args below meth c C x H locs ls hP hS hl hL)
theorem z_tOut {d lo hi : Int} {offs : Array Int} {len : Nat} {x : Int32} {t : Nat} (hd : decode M.1 pc = .ok (.tableswitch d lo hi offs, len)) (h1 : x.toInt < lo ∨ hi < x.toInt) (ht : (pc : Int) + d = (t : Int)) (h : GZ w M X Z P cells slots t L st) : GZ w M X Z P cells slots pc L (.int x :: st) := by
  intro p l e s m args below meth c C x H locs ls hP hS hl hL
  exact lv_tableOut C.1 C.2.1 hd h1 ht (h p l e s m args below meth c C x H locs ls hP hS hl hL)
theorem z_toP {P' : Heap → Prop} (hP' : ∀ H, P H → P' H) (h : GZ w M X Z P' cells slots pc L st) : GZ w M X Z P cells slots pc L st := by
  intro p l e s m args below meth c C x H locs ls hP hS hl hL
  exact h p l e s m args below meth c C x H locs ls (hP' H hP) hS hl hL
end LWT
/-- two script numbers as one long -/
def lawJ (a b : Int32) : Int64 := (a.toInt64 <<< ((Int8.ofInt 32).toInt32.toInt64 &&& 63)) ||| (b.toInt64 &&& 4294967295)
