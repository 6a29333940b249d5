/-! ===== the reference: what its small methods answer ===== -/
def B6 (u : MM) : Nat := 1100 + NN (u.1 1000)
def atOk (u : MM) : Prop := u.1 1000 = 0 ∨ u.1 1000 = 91
abbrev RW (u : MM) : Nat → Int32 := vw u (B6 u)
def pX6_in (_ _ _ : Int32) (_ : MM) : Prop := True
def rX6_in (a b c : Int32) (_ : MM) : Int32 := bi (b ≤ a ∧ a ≤ c)
def pX6_finds (f : Int32) (_ : MM) : Prop := vp_in (-1000000001 - f) 7
def rX6_finds (f : Int32) (_ : MM) : Int32 := f
def mX6_finds (f : Int32) (u : MM) : MM := uI u (1300 + NN (-1000000001 - f)) (u.1 (1300 + NN (-1000000001 - f)) + 1)
def pX6_its (k : Int32) (u : MM) : Prop := atOk u ∧ vp_in k 3
def rX6_its (k : Int32) (u : MM) : Int32 := RW u (NN k)
def pX6_chair (s k : Int32) (u : MM) : Prop := atOk u ∧ vp_in s 6 ∧ vp_in k 3
def rX6_chair (s k : Int32) (u : MM) : Int32 := se (RW u) (NN s) (NN k)
def pX6_setsChair (s k _ : Int32) (u : MM) : Prop := atOk u ∧ vp_in s 6 ∧ vp_in k 3
def mX6_setsChair (s k v : Int32) (u : MM) : MM := pv u (B6 u) (sst (RW u) (NN s) (NN k) v)
def pX6_man (c k : Int32) (u : MM) : Prop := atOk u ∧ vp_in c 10 ∧ vp_in k 7
def rX6_man (c k : Int32) (u : MM) : Int32 := on (RW u) (NN c) (NN k)
def pX6_sets (c k _ : Int32) (u : MM) : Prop := atOk u ∧ vp_in c 10 ∧ vp_in k 7
def mX6_sets (c k v : Int32) (u : MM) : MM := pv u (B6 u) (ost (RW u) (NN c) (NN k) v)
def pX6_isSeat (_ : Int32) (u : MM) : Prop := atOk u
def rX6_isSeat (s : Int32) (u : MM) : Int32 := bi (0 ≤ s ∧ s ≤ RW u 1 - 1)
def pX6_isOne (_ : Int32) (u : MM) : Prop := atOk u
def rX6_isOne (s : Int32) (u : MM) : Int32 := bi (0 ≤ s ∧ s ≤ RW u 2 - 1)
def pX6_isSpot (_ : Int32) (_ : MM) : Prop := True
def rX6_isSpot (s : Int32) (_ : MM) : Int32 := bi (0 ≤ s ∧ s ≤ 99)
def pX6_isKind (_ : Int32) (_ : MM) : Prop := True
def rX6_isKind (s : Int32) (_ : MM) : Int32 := bi (0 ≤ s ∧ s ≤ 5)
def pX6_isTold (_ : Int32) (_ : MM) : Prop := True
def rX6_isTold (s : Int32) (_ : MM) : Int32 := bi (0 ≤ s ∧ s ≤ 99)
abbrev pOne (c : Int32) (u : MM) : Prop := atOk u ∧ vp_in c 10
def pX6_stands (c : Int32) (u : MM) : Prop := pOne c u
def rX6_stands (c : Int32) (u : MM) : Int32 := bi (on (RW u) (NN c) 5 < 0)
def pX6_isPage (c : Int32) (u : MM) : Prop := pOne c u
def rX6_isPage (c : Int32) (u : MM) : Int32 := bi (on (RW u) (NN c) 0 = 2)
def pX6_leans (c : Int32) (u : MM) : Prop := pOne c u
def rX6_leans (c : Int32) (u : MM) : Int32 := lean (on (RW u) (NN c) 0) (on (RW u) (NN c) 2)
def pX6_stays (c : Int32) (u : MM) : Prop := pOne c u
def rX6_stays (c : Int32) (u : MM) : Int32 := stay (on (RW u) (NN c) 0)
def pX6_goes (c : Int32) (u : MM) : Prop := pOne c u
def rX6_goes (c : Int32) (u : MM) : Int32 := goe (on (RW u) (NN c) 0) (RW u 0)
def pX6_apart (_ _ : Int32) (_ : MM) : Prop := True
def rX6_apart (a b : Int32) (_ : MM) : Int32 := if a < b then b - a else a - b
def pX6_farOf (c _ : Int32) (u : MM) : Prop := pOne c u
def rX6_farOf (c p : Int32) (u : MM) : Int32 := farP (RW u) (NN c) p
def pX6_isAhead (c d _ : Int32) (u : MM) : Prop := pOne c u ∧ vp_in d 10
def rX6_isAhead (c d p : Int32) (u : MM) : Int32 := bi (ahead (RW u) (NN c) (NN d) p)
/-- the court's count is a count -/
def crtOk (R : Nat → Int32) : Prop := ∃ K, K ≤ 10 ∧ R 2 = nI K
def pX6_nextBut (s _ : Int32) (u : MM) : Prop := atOk u ∧ vp_in s 6 ∧ crtOk (RW u)
def rX6_nextBut (s but : Int32) (u : MM) : Int32 := nx (RW u) (se (RW u) (NN s) 0) but (NN (RW u 2))
def flX6 : List (Nat × (Nat × Nat × Nat)) := [(7, (6, 0, 2)), (13, (6, 2, 2)), (16, (6, 3, 2)), (19, (6, 4, 2)), (22, (6, 12, 2)), (25, (6, 13, 2)), (28, (6, 14, 2)), (32, (6, 15, 2)), (35, (6, 16, 2)), (38, (6, 17, 2)), (42, (6, 1, 0)), (184, (6, 5, 0)), (187, (6, 8, 0)), (190, (6, 7, 0)), (202, (6, 6, 0)), (205, (6, 9, 1)), (209, (6, 10, 0)), (234, (6, 11, 3)), (290, (6, 18, 3))]
def ciX6 : List (Nat × Int32) := [(41, (-1000000001 : Int32)), (93, (-1000000005 : Int32)), (94, (-1000000002 : Int32)), (128, (-1000000003 : Int32)), (160, (-1000000004 : Int32)), (281, (-1000000007 : Int32)), (282, (-1000000006 : Int32))]
def clX6 : List (Nat × Int64) := [(212, (27 : Int64)), (214, (96 : Int64)), (216, (-1 : Int64)), (218, (37503660303 : Int64)), (224, (4421 : Int64)), (226, (315851 : Int64)), (228, (7656243178 : Int64)), (230, (2401198578 : Int64)), (232, (70400 : Int64)), (244, (12532058 : Int64)), (250, (404749 : Int64)), (252, (12253591 : Int64)), (254, (377669 : Int64)), (259, (1905074 : Int64))]
theorem flX6_ok : (flX6.all fun q => fOk RX6 q.1 q.2.1 q.2.2.1 q.2.2.2) = true := by decide +kernel
theorem ciX6_ok : (ciX6.all fun q => decide (Cond.constant RX6 q.1 q.2 ∈ Gt)) = true := by decide +kernel
theorem clX6_ok : (clX6.all fun q => decide (Cond.constantLong RX6 q.1 q.2 ∈ Gt)) = true := by decide +kernel
def MX6_in : MI := (cX6_in, 3, some .boolean, RX6, { frames := 0, cells := 0, slots := 0, locals := 0 })
def TX6_in : TB := [(0, .iload_n 0, 1, []), (1, .iload_n 1, 1, []), (2, .if_icmp .lt 12, 3, [14]), (5, .iload_n 0, 1, []), (6, .iload_n 2, 1, []), (7, .if_icmp .gt 7, 3, [14]), (10, .iconst 1, 1, []), (11, .goto 4, 3, [15]), (14, .iconst 0, 1, []), (15, .ireturn, 1, [])]
set_option maxRecDepth 20000 in
theorem TX6_in_ok : TX6_in.all (chk MX6_in.1) = true := by decide +kernel
theorem TX6_in_v : TX6_in.all vOk = true := by decide +kernel
def csX6_in (w : WW) : CS := (3, fun as u => match as with | [.int a0, .int a1, .int a2] => pX6_in a0 a1 a2 u | _ => False, fun as u => match as with | [.int a0, .int a1, .int a2] => (some (.int (rX6_in a0 a1 a2 u)), u) | _ => (none, u))
def MX6_finds : MI := (cX6_finds, 2, some .int, RX6, { frames := 0, cells := 0, slots := 0, locals := 0 })
def TX6_finds : TB := [(0, .aload_n 0, 1, []), (1, .getfield 13, 3, []), (4, .ldc 41, 2, []), (6, .iload_n 1, 1, []), (7, .isub, 1, []), (8, .dup2, 1, []), (9, .iaload, 1, []), (10, .iconst 1, 1, []), (11, .iadd, 1, []), (12, .iastore, 1, []), (13, .iload_n 1, 1, []), (14, .ireturn, 1, [])]
set_option maxRecDepth 20000 in
theorem TX6_finds_ok : TX6_finds.all (chk MX6_finds.1) = true := by decide +kernel
theorem TX6_finds_v : TX6_finds.all vOk = true := by decide +kernel
def csX6_finds (w : WW) : CS := (2, fun as u => match as with | [.ref a0, .int a1] => a0 = mA w ∧ pX6_finds a1 u | _ => False, fun as u => match as with | [.ref a0, .int a1] => (some (.int (rX6_finds a1 u)), (mX6_finds a1 u)) | _ => (none, u))
def MX6_its : MI := (cX6_its, 2, some .int, RX6, { frames := 0, cells := 0, slots := 0, locals := 0 })
def TX6_its : TB := [(0, .aload_n 0, 1, []), (1, .getfield 7, 3, []), (4, .aload_n 0, 1, []), (5, .getfield 42, 3, []), (8, .iload_n 1, 1, []), (9, .iadd, 1, []), (10, .iaload, 1, []), (11, .ireturn, 1, [])]
set_option maxRecDepth 20000 in
theorem TX6_its_ok : TX6_its.all (chk MX6_its.1) = true := by decide +kernel
theorem TX6_its_v : TX6_its.all vOk = true := by decide +kernel
def csX6_its (w : WW) : CS := (2, fun as u => match as with | [.ref a0, .int a1] => a0 = mA w ∧ pX6_its a1 u | _ => False, fun as u => match as with | [.ref a0, .int a1] => (some (.int (rX6_its a1 u)), u) | _ => (none, u))
def MX6_chair : MI := (cX6_chair, 3, some .int, RX6, { frames := 0, cells := 0, slots := 0, locals := 0 })
def TX6_chair : TB := [(0, .aload_n 0, 1, []), (1, .getfield 7, 3, []), (4, .aload_n 0, 1, []), (5, .getfield 42, 3, []), (8, .iconst 3, 1, []), (9, .iadd, 1, []), (10, .iconst 3, 1, []), (11, .iload_n 1, 1, []), (12, .imul, 1, []), (13, .iadd, 1, []), (14, .iload_n 2, 1, []), (15, .iadd, 1, []), (16, .iaload, 1, []), (17, .ireturn, 1, [])]
set_option maxRecDepth 20000 in
theorem TX6_chair_ok : TX6_chair.all (chk MX6_chair.1) = true := by decide +kernel
theorem TX6_chair_v : TX6_chair.all vOk = true := by decide +kernel
def csX6_chair (w : WW) : CS := (3, fun as u => match as with | [.ref a0, .int a1, .int a2] => a0 = mA w ∧ pX6_chair a1 a2 u | _ => False, fun as u => match as with | [.ref a0, .int a1, .int a2] => (some (.int (rX6_chair a1 a2 u)), u) | _ => (none, u))
def MX6_setsChair : MI := (cX6_setsChair, 4, none, RX6, { frames := 0, cells := 0, slots := 0, locals := 0 })
def TX6_setsChair : TB := [(0, .aload_n 0, 1, []), (1, .getfield 7, 3, []), (4, .aload_n 0, 1, []), (5, .getfield 42, 3, []), (8, .iconst 3, 1, []), (9, .iadd, 1, []), (10, .iconst 3, 1, []), (11, .iload_n 1, 1, []), (12, .imul, 1, []), (13, .iadd, 1, []), (14, .iload_n 2, 1, []), (15, .iadd, 1, []), (16, .iload_n 3, 1, []), (17, .iastore, 1, []), (18, .return_, 1, [])]
set_option maxRecDepth 20000 in
theorem TX6_setsChair_ok : TX6_setsChair.all (chk MX6_setsChair.1) = true := by decide +kernel
theorem TX6_setsChair_v : TX6_setsChair.all vOk = true := by decide +kernel
def csX6_setsChair (w : WW) : CS := (4, fun as u => match as with | [.ref a0, .int a1, .int a2, .int a3] => a0 = mA w ∧ pX6_setsChair a1 a2 a3 u | _ => False, fun as u => match as with | [.ref a0, .int a1, .int a2, .int a3] => (none, (mX6_setsChair a1 a2 a3 u)) | _ => (none, u))
def MX6_man : MI := (cX6_man, 3, some .int, RX6, { frames := 0, cells := 0, slots := 0, locals := 0 })
def TX6_man : TB := [(0, .aload_n 0, 1, []), (1, .getfield 7, 3, []), (4, .aload_n 0, 1, []), (5, .getfield 42, 3, []), (8, .bipush 21, 2, []), (10, .iadd, 1, []), (11, .bipush 7, 2, []), (13, .iload_n 1, 1, []), (14, .imul, 1, []), (15, .iadd, 1, []), (16, .iload_n 2, 1, []), (17, .iadd, 1, []), (18, .iaload, 1, []), (19, .ireturn, 1, [])]
set_option maxRecDepth 20000 in
theorem TX6_man_ok : TX6_man.all (chk MX6_man.1) = true := by decide +kernel
theorem TX6_man_v : TX6_man.all vOk = true := by decide +kernel
def csX6_man (w : WW) : CS := (3, fun as u => match as with | [.ref a0, .int a1, .int a2] => a0 = mA w ∧ pX6_man a1 a2 u | _ => False, fun as u => match as with | [.ref a0, .int a1, .int a2] => (some (.int (rX6_man a1 a2 u)), u) | _ => (none, u))
def MX6_sets : MI := (cX6_sets, 4, none, RX6, { frames := 0, cells := 0, slots := 0, locals := 0 })
def TX6_sets : TB := [(0, .aload_n 0, 1, []), (1, .getfield 7, 3, []), (4, .aload_n 0, 1, []), (5, .getfield 42, 3, []), (8, .bipush 21, 2, []), (10, .iadd, 1, []), (11, .bipush 7, 2, []), (13, .iload_n 1, 1, []), (14, .imul, 1, []), (15, .iadd, 1, []), (16, .iload_n 2, 1, []), (17, .iadd, 1, []), (18, .iload_n 3, 1, []), (19, .iastore, 1, []), (20, .return_, 1, [])]
set_option maxRecDepth 20000 in
theorem TX6_sets_ok : TX6_sets.all (chk MX6_sets.1) = true := by decide +kernel
theorem TX6_sets_v : TX6_sets.all vOk = true := by decide +kernel
def csX6_sets (w : WW) : CS := (4, fun as u => match as with | [.ref a0, .int a1, .int a2, .int a3] => a0 = mA w ∧ pX6_sets a1 a2 a3 u | _ => False, fun as u => match as with | [.ref a0, .int a1, .int a2, .int a3] => (none, (mX6_sets a1 a2 a3 u)) | _ => (none, u))
def MX6_isSeat : MI := (cX6_isSeat, 2, some .boolean, RX6, { frames := 1, cells := 0, slots := 0, locals := 22 })
def TX6_isSeat : TB := [(0, .iload_n 1, 1, []), (1, .iconst 0, 1, []), (2, .aload_n 0, 1, []), (3, .iconst 1, 1, []), (4, .invokevirtual 46, 3, []), (7, .iconst 1, 1, []), (8, .isub, 1, []), (9, .invokestatic 50, 3, []), (12, .ireturn, 1, [])]
set_option maxRecDepth 20000 in
theorem TX6_isSeat_ok : TX6_isSeat.all (chk MX6_isSeat.1) = true := by decide +kernel
theorem TX6_isSeat_v : TX6_isSeat.all vOk = true := by decide +kernel
def csX6_isSeat (w : WW) : CS := (2, fun as u => match as with | [.ref a0, .int a1] => a0 = mA w ∧ pX6_isSeat a1 u | _ => False, fun as u => match as with | [.ref a0, .int a1] => (some (.int (rX6_isSeat a1 u)), u) | _ => (none, u))
def MX6_isOne : MI := (cX6_isOne, 2, some .boolean, RX6, { frames := 1, cells := 0, slots := 0, locals := 22 })
def TX6_isOne : TB := [(0, .iload_n 1, 1, []), (1, .iconst 0, 1, []), (2, .aload_n 0, 1, []), (3, .iconst 2, 1, []), (4, .invokevirtual 46, 3, []), (7, .iconst 1, 1, []), (8, .isub, 1, []), (9, .invokestatic 50, 3, []), (12, .ireturn, 1, [])]
set_option maxRecDepth 20000 in
theorem TX6_isOne_ok : TX6_isOne.all (chk MX6_isOne.1) = true := by decide +kernel
theorem TX6_isOne_v : TX6_isOne.all vOk = true := by decide +kernel
def csX6_isOne (w : WW) : CS := (2, fun as u => match as with | [.ref a0, .int a1] => a0 = mA w ∧ pX6_isOne a1 u | _ => False, fun as u => match as with | [.ref a0, .int a1] => (some (.int (rX6_isOne a1 u)), u) | _ => (none, u))
def MX6_isSpot : MI := (cX6_isSpot, 1, some .boolean, RX6, { frames := 1, cells := 0, slots := 0, locals := 22 })
def TX6_isSpot : TB := [(0, .iload_n 0, 1, []), (1, .iconst 0, 1, []), (2, .bipush 99, 2, []), (4, .invokestatic 50, 3, []), (7, .ireturn, 1, [])]
set_option maxRecDepth 20000 in
theorem TX6_isSpot_ok : TX6_isSpot.all (chk MX6_isSpot.1) = true := by decide +kernel
theorem TX6_isSpot_v : TX6_isSpot.all vOk = true := by decide +kernel
def csX6_isSpot (w : WW) : CS := (1, fun as u => match as with | [.int a0] => pX6_isSpot a0 u | _ => False, fun as u => match as with | [.int a0] => (some (.int (rX6_isSpot a0 u)), u) | _ => (none, u))
def MX6_isKind : MI := (cX6_isKind, 1, some .boolean, RX6, { frames := 1, cells := 0, slots := 0, locals := 22 })
def TX6_isKind : TB := [(0, .iload_n 0, 1, []), (1, .iconst 0, 1, []), (2, .iconst 5, 1, []), (3, .invokestatic 50, 3, []), (6, .ireturn, 1, [])]
set_option maxRecDepth 20000 in
theorem TX6_isKind_ok : TX6_isKind.all (chk MX6_isKind.1) = true := by decide +kernel
theorem TX6_isKind_v : TX6_isKind.all vOk = true := by decide +kernel
def csX6_isKind (w : WW) : CS := (1, fun as u => match as with | [.int a0] => pX6_isKind a0 u | _ => False, fun as u => match as with | [.int a0] => (some (.int (rX6_isKind a0 u)), u) | _ => (none, u))
def MX6_isTold : MI := (cX6_isTold, 1, some .boolean, RX6, { frames := 1, cells := 0, slots := 0, locals := 22 })
def TX6_isTold : TB := [(0, .iload_n 0, 1, []), (1, .iconst 0, 1, []), (2, .bipush 99, 2, []), (4, .invokestatic 50, 3, []), (7, .ireturn, 1, [])]
set_option maxRecDepth 20000 in
theorem TX6_isTold_ok : TX6_isTold.all (chk MX6_isTold.1) = true := by decide +kernel
theorem TX6_isTold_v : TX6_isTold.all vOk = true := by decide +kernel
def csX6_isTold (w : WW) : CS := (1, fun as u => match as with | [.int a0] => pX6_isTold a0 u | _ => False, fun as u => match as with | [.int a0] => (some (.int (rX6_isTold a0 u)), u) | _ => (none, u))
def MX6_stands : MI := (cX6_stands, 2, some .boolean, RX6, { frames := 1, cells := 0, slots := 0, locals := 22 })
def TX6_stands : TB := [(0, .aload_n 0, 1, []), (1, .iload_n 1, 1, []), (2, .iconst 5, 1, []), (3, .invokevirtual 54, 3, []), (6, .ifCond .ge 7, 3, [13]), (9, .iconst 1, 1, []), (10, .goto 4, 3, [14]), (13, .iconst 0, 1, []), (14, .ireturn, 1, [])]
set_option maxRecDepth 20000 in
theorem TX6_stands_ok : TX6_stands.all (chk MX6_stands.1) = true := by decide +kernel
theorem TX6_stands_v : TX6_stands.all vOk = true := by decide +kernel
def csX6_stands (w : WW) : CS := (2, fun as u => match as with | [.ref a0, .int a1] => a0 = mA w ∧ pX6_stands a1 u | _ => False, fun as u => match as with | [.ref a0, .int a1] => (some (.int (rX6_stands a1 u)), u) | _ => (none, u))
def MX6_isPage : MI := (cX6_isPage, 2, some .boolean, RX6, { frames := 1, cells := 0, slots := 0, locals := 22 })
def TX6_isPage : TB := [(0, .aload_n 0, 1, []), (1, .iload_n 1, 1, []), (2, .iconst 0, 1, []), (3, .invokevirtual 54, 3, []), (6, .iconst 2, 1, []), (7, .if_icmp .ne 7, 3, [14]), (10, .iconst 1, 1, []), (11, .goto 4, 3, [15]), (14, .iconst 0, 1, []), (15, .ireturn, 1, [])]
set_option maxRecDepth 20000 in
theorem TX6_isPage_ok : TX6_isPage.all (chk MX6_isPage.1) = true := by decide +kernel
theorem TX6_isPage_v : TX6_isPage.all vOk = true := by decide +kernel
def csX6_isPage (w : WW) : CS := (2, fun as u => match as with | [.ref a0, .int a1] => a0 = mA w ∧ pX6_isPage a1 u | _ => False, fun as u => match as with | [.ref a0, .int a1] => (some (.int (rX6_isPage a1 u)), u) | _ => (none, u))
def MX6_leans : MI := (cX6_leans, 3, some .int, RX6, { frames := 1, cells := 0, slots := 0, locals := 22 })
def TX6_leans : TB := [(0, .aload_n 0, 1, []), (1, .iload_n 1, 1, []), (2, .iconst 2, 1, []), (3, .invokevirtual 54, 3, []), (6, .istore_n 2, 1, []), (7, .aload_n 0, 1, []), (8, .iload_n 1, 1, []), (9, .iconst 0, 1, []), (10, .invokevirtual 54, 3, []), (13, .tableswitch 51 1 5 #[35, 40, 51, 42, 46], 35, [64, 48, 53, 64, 55, 59]), (48, .iload_n 2, 1, []), (49, .bipush 30, 2, []), (51, .iadd, 1, []), (52, .ireturn, 1, []), (53, .iconst 0, 1, []), (54, .ireturn, 1, []), (55, .iconst 2, 1, []), (56, .iload_n 2, 1, []), (57, .imul, 1, []), (58, .ireturn, 1, []), (59, .iload_n 2, 1, []), (60, .bipush 50, 2, []), (62, .iadd, 1, []), (63, .ireturn, 1, []), (64, .iload_n 2, 1, []), (65, .ireturn, 1, [])]
set_option maxRecDepth 20000 in
theorem TX6_leans_ok : TX6_leans.all (chk MX6_leans.1) = true := by decide +kernel
theorem TX6_leans_v : TX6_leans.all vOk = true := by decide +kernel
def csX6_leans (w : WW) : CS := (2, fun as u => match as with | [.ref a0, .int a1] => a0 = mA w ∧ pX6_leans a1 u | _ => False, fun as u => match as with | [.ref a0, .int a1] => (some (.int (rX6_leans a1 u)), u) | _ => (none, u))
def MX6_stays : MI := (cX6_stays, 2, some .int, RX6, { frames := 1, cells := 0, slots := 0, locals := 22 })
def TX6_stays : TB := [(0, .aload_n 0, 1, []), (1, .iload_n 1, 1, []), (2, .iconst 0, 1, []), (3, .invokevirtual 54, 3, []), (6, .tableswitch 42 1 5 #[34, 42, 37, 40, 34], 34, [48, 40, 48, 43, 46, 40]), (40, .bipush 20, 2, []), (42, .ireturn, 1, []), (43, .bipush 15, 2, []), (45, .ireturn, 1, []), (46, .iconst 4, 1, []), (47, .ireturn, 1, []), (48, .bipush 10, 2, []), (50, .ireturn, 1, [])]
set_option maxRecDepth 20000 in
theorem TX6_stays_ok : TX6_stays.all (chk MX6_stays.1) = true := by decide +kernel
theorem TX6_stays_v : TX6_stays.all vOk = true := by decide +kernel
def csX6_stays (w : WW) : CS := (2, fun as u => match as with | [.ref a0, .int a1] => a0 = mA w ∧ pX6_stays a1 u | _ => False, fun as u => match as with | [.ref a0, .int a1] => (some (.int (rX6_stays a1 u)), u) | _ => (none, u))
def MX6_goes : MI := (cX6_goes, 2, some .int, RX6, { frames := 1, cells := 0, slots := 0, locals := 22 })
def TX6_goes : TB := [(0, .aload_n 0, 1, []), (1, .iload_n 1, 1, []), (2, .iconst 0, 1, []), (3, .invokevirtual 54, 3, []), (6, .tableswitch 68 1 5 #[34, 50, 52, 52, 34], 34, [74, 40, 56, 58, 58, 40]), (40, .aload_n 0, 1, []), (41, .iconst 0, 1, []), (42, .invokevirtual 46, 3, []), (45, .iconst 2, 1, []), (46, .irem, 1, []), (47, .ifCond .ne 7, 3, [54]), (50, .iconst 1, 1, []), (51, .goto 4, 3, [55]), (54, .iconst 0, 1, []), (55, .ireturn, 1, []), (56, .iconst 2, 1, []), (57, .ireturn, 1, []), (58, .aload_n 0, 1, []), (59, .iconst 0, 1, []), (60, .invokevirtual 46, 3, []), (63, .iconst 3, 1, []), (64, .irem, 1, []), (65, .ifCond .ne 7, 3, [72]), (68, .iconst 0, 1, []), (69, .goto 4, 3, [73]), (72, .iconst 1, 1, []), (73, .ireturn, 1, []), (74, .iconst 1, 1, []), (75, .ireturn, 1, [])]
set_option maxRecDepth 20000 in
theorem TX6_goes_ok : TX6_goes.all (chk MX6_goes.1) = true := by decide +kernel
theorem TX6_goes_v : TX6_goes.all vOk = true := by decide +kernel
def csX6_goes (w : WW) : CS := (2, fun as u => match as with | [.ref a0, .int a1] => a0 = mA w ∧ pX6_goes a1 u | _ => False, fun as u => match as with | [.ref a0, .int a1] => (some (.int (rX6_goes a1 u)), u) | _ => (none, u))
def MX6_apart : MI := (cX6_apart, 2, some .int, RX6, { frames := 0, cells := 0, slots := 0, locals := 0 })
def TX6_apart : TB := [(0, .iload_n 0, 1, []), (1, .iload_n 1, 1, []), (2, .if_icmp .ge 9, 3, [11]), (5, .iload_n 1, 1, []), (6, .iload_n 0, 1, []), (7, .isub, 1, []), (8, .goto 6, 3, [14]), (11, .iload_n 0, 1, []), (12, .iload_n 1, 1, []), (13, .isub, 1, []), (14, .ireturn, 1, [])]
set_option maxRecDepth 20000 in
theorem TX6_apart_ok : TX6_apart.all (chk MX6_apart.1) = true := by decide +kernel
theorem TX6_apart_v : TX6_apart.all vOk = true := by decide +kernel
def csX6_apart (w : WW) : CS := (2, fun as u => match as with | [.int a0, .int a1] => pX6_apart a0 a1 u | _ => False, fun as u => match as with | [.int a0, .int a1] => (some (.int (rX6_apart a0 a1 u)), u) | _ => (none, u))
def MX6_farOf : MI := (cX6_farOf, 5, some .int, RX6, { frames := 2, cells := 0, slots := 0, locals := 44 })
def TX6_farOf : TB := [(0, .aload_n 0, 1, []), (1, .iload_n 1, 1, []), (2, .iconst 1, 1, []), (3, .invokevirtual 54, 3, []), (6, .bipush 10, 2, []), (8, .idiv, 1, []), (9, .iload_n 2, 1, []), (10, .bipush 10, 2, []), (12, .idiv, 1, []), (13, .isub, 1, []), (14, .istore_n 3, 1, []), (15, .aload_n 0, 1, []), (16, .iload_n 1, 1, []), (17, .iconst 1, 1, []), (18, .invokevirtual 54, 3, []), (21, .bipush 10, 2, []), (23, .irem, 1, []), (24, .iload_n 2, 1, []), (25, .bipush 10, 2, []), (27, .irem, 1, []), (28, .isub, 1, []), (29, .istore 4, 2, []), (31, .bipush 100, 2, []), (33, .iload_n 3, 1, []), (34, .iload_n 3, 1, []), (35, .imul, 1, []), (36, .iload 4, 2, []), (38, .iload 4, 2, []), (40, .imul, 1, []), (41, .iadd, 1, []), (42, .imul, 1, []), (43, .aload_n 0, 1, []), (44, .iload_n 1, 1, []), (45, .invokevirtual 58, 3, []), (48, .isub, 1, []), (49, .ireturn, 1, [])]
set_option maxRecDepth 20000 in
theorem TX6_farOf_ok : TX6_farOf.all (chk MX6_farOf.1) = true := by decide +kernel
theorem TX6_farOf_v : TX6_farOf.all vOk = true := by decide +kernel
def csX6_farOf (w : WW) : CS := (3, fun as u => match as with | [.ref a0, .int a1, .int a2] => a0 = mA w ∧ pX6_farOf a1 a2 u | _ => False, fun as u => match as with | [.ref a0, .int a1, .int a2] => (some (.int (rX6_farOf a1 a2 u)), u) | _ => (none, u))
def MX6_isAhead : MI := (cX6_isAhead, 6, some .boolean, RX6, { frames := 3, cells := 0, slots := 0, locals := 68 })
def TX6_isAhead : TB := [(0, .aload_n 0, 1, []), (1, .iload_n 1, 1, []), (2, .iload_n 3, 1, []), (3, .invokevirtual 61, 3, []), (6, .istore 4, 2, []), (8, .aload_n 0, 1, []), (9, .iload_n 2, 1, []), (10, .iload_n 3, 1, []), (11, .invokevirtual 61, 3, []), (14, .istore 5, 2, []), (16, .iload 4, 2, []), (18, .iload 5, 2, []), (20, .if_icmp .lt 25, 3, [45]), (23, .iload 4, 2, []), (25, .iload 5, 2, []), (27, .if_icmp .ne 22, 3, [49]), (30, .aload_n 0, 1, []), (31, .iload_n 1, 1, []), (32, .iconst 2, 1, []), (33, .invokevirtual 54, 3, []), (36, .aload_n 0, 1, []), (37, .iload_n 2, 1, []), (38, .iconst 2, 1, []), (39, .invokevirtual 54, 3, []), (42, .if_icmp .le 7, 3, [49]), (45, .iconst 1, 1, []), (46, .goto 4, 3, [50]), (49, .iconst 0, 1, []), (50, .ireturn, 1, [])]
set_option maxRecDepth 20000 in
theorem TX6_isAhead_ok : TX6_isAhead.all (chk MX6_isAhead.1) = true := by decide +kernel
theorem TX6_isAhead_v : TX6_isAhead.all vOk = true := by decide +kernel
def csX6_isAhead (w : WW) : CS := (4, fun as u => match as with | [.ref a0, .int a1, .int a2, .int a3] => a0 = mA w ∧ pX6_isAhead a1 a2 a3 u | _ => False, fun as u => match as with | [.ref a0, .int a1, .int a2, .int a3] => (some (.int (rX6_isAhead a1 a2 a3 u)), u) | _ => (none, u))
def MX6_nextBut : MI := (cX6_nextBut, 6, some .int, RX6, { frames := 4, cells := 0, slots := 0, locals := 93 })
def TX6_nextBut : TB := [(0, .iconst (-1), 1, []), (1, .istore_n 3, 1, []), (2, .iconst 0, 1, []), (3, .istore 4, 2, []), (5, .iload 4, 2, []), (7, .aload_n 0, 1, []), (8, .iconst 2, 1, []), (9, .invokevirtual 46, 3, []), (12, .if_icmp .ge 72, 3, [84]), (15, .iload 4, 2, []), (17, .iload_n 2, 1, []), (18, .if_icmp .eq 25, 3, [43]), (21, .aload_n 0, 1, []), (22, .iload 4, 2, []), (24, .invokevirtual 64, 3, []), (27, .ifCond .eq 16, 3, [43]), (30, .aload_n 0, 1, []), (31, .iload 4, 2, []), (33, .invokevirtual 68, 3, []), (36, .ifCond .ne 7, 3, [43]), (39, .iconst 1, 1, []), (40, .goto 4, 3, [44]), (43, .iconst 0, 1, []), (44, .istore 5, 2, []), (46, .iload 5, 2, []), (48, .ifCond .eq 28, 3, [76]), (51, .iload_n 3, 1, []), (52, .ifCond .lt 19, 3, [71]), (55, .aload_n 0, 1, []), (56, .iload 4, 2, []), (58, .iload_n 3, 1, []), (59, .aload_n 0, 1, []), (60, .iload_n 1, 1, []), (61, .iconst 0, 1, []), (62, .invokevirtual 71, 3, []), (65, .invokevirtual 74, 3, []), (68, .ifCond .eq 8, 3, [76]), (71, .iload 4, 2, []), (73, .goto 4, 3, [77]), (76, .iload_n 3, 1, []), (77, .istore_n 3, 1, []), (78, .iinc 4 1, 3, []), (81, .goto (-76), 3, [5]), (84, .iload_n 3, 1, []), (85, .ireturn, 1, [])]
set_option maxRecDepth 20000 in
theorem TX6_nextBut_ok : TX6_nextBut.all (chk MX6_nextBut.1) = true := by decide +kernel
theorem TX6_nextBut_v : TX6_nextBut.all vOk = true := by decide +kernel
def csX6_nextBut (w : WW) : CS := (3, fun as u => match as with | [.ref a0, .int a1, .int a2] => a0 = mA w ∧ pX6_nextBut a1 a2 u | _ => False, fun as u => match as with | [.ref a0, .int a1, .int a2] => (some (.int (rX6_nextBut a1 a2 u)), u) | _ => (none, u))
def KX6_in (w : WW) : KT := (al flX6, al ciX6, al clX6, fun _ => none, fun _ => none, al [])
abbrev GX6_in (w : WW) (Q : Option Value → MM → Prop) : Nat → LL → List Value → MM → Prop := WP w MX6_in TX6_in (KX6_in w) Q
section
variable {w : WW} {Q : Option Value → MM → Prop} {u : MM}
theorem eX6_in_0 {l1 l2 : Option Value} {st : List Value} {x : Int32} : GX6_in w Q 0 [some (.int x), l1, l2] st u ↔ GX6_in w Q 1 [some (.int x), l1, l2] (.int x :: st) u := WP_u (.iload_n 0) [] rfl
theorem eX6_in_1 {l0 l2 : Option Value} {st : List Value} {x : Int32} : GX6_in w Q 1 [l0, some (.int x), l2] st u ↔ GX6_in w Q 2 [l0, some (.int x), l2] (.int x :: st) u := WP_u (.iload_n 1) [] rfl
theorem eX6_in_2 {l0 l1 l2 : Option Value} {st : List Value} {x y : Int32} : GX6_in w Q 2 [l0, l1, l2] (.int y :: .int x :: st) u ↔ (x < y → GX6_in w Q 14 [l0, l1, l2] st u) ∧ (¬ (x < y) → GX6_in w Q 5 [l0, l1, l2] st u) := (WP_u (.if_icmp .lt 12) [14] rfl).trans ex_br
theorem eX6_in_5 {l1 l2 : Option Value} {st : List Value} {x : Int32} : GX6_in w Q 5 [some (.int x), l1, l2] st u ↔ GX6_in w Q 6 [some (.int x), l1, l2] (.int x :: st) u := WP_u (.iload_n 0) [] rfl
theorem eX6_in_6 {l0 l1 : Option Value} {st : List Value} {x : Int32} : GX6_in w Q 6 [l0, l1, some (.int x)] st u ↔ GX6_in w Q 7 [l0, l1, some (.int x)] (.int x :: st) u := WP_u (.iload_n 2) [] rfl
theorem eX6_in_7 {l0 l1 l2 : Option Value} {st : List Value} {x y : Int32} : GX6_in w Q 7 [l0, l1, l2] (.int y :: .int x :: st) u ↔ (y < x → GX6_in w Q 14 [l0, l1, l2] st u) ∧ (¬ (y < x) → GX6_in w Q 10 [l0, l1, l2] st u) := (WP_u (.if_icmp .gt 7) [14] rfl).trans ex_br
theorem eX6_in_10 {l0 l1 l2 : Option Value} {st : List Value} : GX6_in w Q 10 [l0, l1, l2] st u ↔ GX6_in w Q 11 [l0, l1, l2] (.int 1 :: st) u := WP_iconst rfl (by decide)
theorem eX6_in_11 {l0 l1 l2 : Option Value} {st : List Value} : GX6_in w Q 11 [l0, l1, l2] st u ↔ GX6_in w Q 15 [l0, l1, l2] st u := WP_u (.goto 4) [15] rfl
theorem eX6_in_14 {l0 l1 l2 : Option Value} {st : List Value} : GX6_in w Q 14 [l0, l1, l2] st u ↔ GX6_in w Q 15 [l0, l1, l2] (.int 0 :: st) u := WP_iconst rfl (by decide)
theorem eX6_in_15 {l0 l1 l2 : Option Value} {x : Int32} : GX6_in w Q 15 [l0, l1, l2] [.int x] u ↔ nb x ∧ Q (some (.int x)) u := (WP_u (.ireturn) [] rfl).trans ex_k
end
def VX6_in (w : WW) : Prop := ∀ (a0 : Int32) (a1 : Int32) (a2 : Int32) (u : MM), pX6_in a0 a1 a2 u → GX6_in w (fun r u' => r = some (.int (rX6_in a0 a1 a2 u)) ∧ u' = u) 0 [some (.int a0), some (.int a1), some (.int a2)] [] u
def KX6_finds (w : WW) : KT := (al flX6, al ciX6, al clX6, fun _ => none, fun _ => none, al [])
abbrev GX6_finds (w : WW) (Q : Option Value → MM → Prop) : Nat → LL → List Value → MM → Prop := WP w MX6_finds TX6_finds (KX6_finds w) Q
section
variable {w : WW} {Q : Option Value → MM → Prop} {u : MM}
theorem eX6_finds_0 {l1 : Option Value} {st : List Value} {x : Nat} : GX6_finds w Q 0 [some (.ref x), l1] st u ↔ GX6_finds w Q 1 [some (.ref x), l1] (.ref x :: st) u := WP_u (.aload_n 0) [] rfl
theorem eX6_finds_1 {l0 l1 : Option Value} {st : List Value} {a : Nat} : GX6_finds w Q 1 [l0, l1] (.ref a :: st) u ↔ okR w a 6 2 ∧ GX6_finds w Q 4 [l0, l1] (.ref (rfF w a 2) :: st) u := (WP_u (.getfield 13) [] rfl).trans ex_and
theorem eX6_finds_4 {l0 l1 : Option Value} {st : List Value} : GX6_finds w Q 4 [l0, l1] st u ↔ GX6_finds w Q 6 [l0, l1] (.int (-1000000001) :: st) u := WP_u (.ldc 41) [] rfl
theorem eX6_finds_6 {l0 : Option Value} {st : List Value} {x : Int32} : GX6_finds w Q 6 [l0, some (.int x)] st u ↔ GX6_finds w Q 7 [l0, some (.int x)] (.int x :: st) u := WP_u (.iload_n 1) [] rfl
theorem eX6_finds_7 {l0 l1 : Option Value} {st : List Value} {x y : Int32} : GX6_finds w Q 7 [l0, l1] (.int y :: .int x :: st) u ↔ GX6_finds w Q 8 [l0, l1] (.int (x - y) :: st) u := WP_u (.isub) [] rfl
theorem eX6_finds_8 {l0 l1 : Option Value} {st : List Value} {x : Int32} {y : Nat} : GX6_finds w Q 8 [l0, l1] (.int x :: .ref y :: st) u ↔ GX6_finds w Q 9 [l0, l1] (.int x :: .ref y :: .int x :: .ref y :: st) u := (WP_u (.dup2) [] rfl).trans (ex_drop ⟨rfl, rfl⟩)
theorem eX6_finds_9 {l0 l1 : Option Value} {st : List Value} {a : Nat} {i : Int32} : GX6_finds w Q 9 [l0, l1] (.int i :: .ref a :: st) u ↔ okAI w a i ∧ GX6_finds w Q 10 [l0, l1] (.int (rdA w u a i) :: st) u := (WP_u (.iaload) [] rfl).trans ex_and
theorem eX6_finds_10 {l0 l1 : Option Value} {st : List Value} : GX6_finds w Q 10 [l0, l1] st u ↔ GX6_finds w Q 11 [l0, l1] (.int 1 :: st) u := WP_iconst rfl (by decide)
theorem eX6_finds_11 {l0 l1 : Option Value} {st : List Value} {x y : Int32} : GX6_finds w Q 11 [l0, l1] (.int y :: .int x :: st) u ↔ GX6_finds w Q 12 [l0, l1] (.int (x + y) :: st) u := WP_u (.iadd) [] rfl
theorem eX6_finds_12 {l0 l1 : Option Value} {st : List Value} {a : Nat} {i x : Int32} : GX6_finds w Q 12 [l0, l1] (.int x :: .int i :: .ref a :: st) u ↔ okAS w a i ∧ GX6_finds w Q 13 [l0, l1] st (uI u (ixA w a i) x) := (WP_u (.iastore) [] rfl).trans ex_and
theorem eX6_finds_13 {l0 : Option Value} {st : List Value} {x : Int32} : GX6_finds w Q 13 [l0, some (.int x)] st u ↔ GX6_finds w Q 14 [l0, some (.int x)] (.int x :: st) u := WP_u (.iload_n 1) [] rfl
theorem eX6_finds_14 {l0 l1 : Option Value} {x : Int32} : GX6_finds w Q 14 [l0, l1] [.int x] u ↔ Q (some (.int x)) u := (WP_u (.ireturn) [] rfl).trans (ex_ret rfl)
end
def VX6_finds (w : WW) : Prop := ∀ (a1 : Int32) (u : MM), pX6_finds a1 u → GX6_finds w (fun r u' => r = some (.int (rX6_finds a1 u)) ∧ u' = (mX6_finds a1 u)) 0 [some (.ref (mA w)), some (.int a1)] [] u
def KX6_its (w : WW) : KT := (al flX6, al ciX6, al clX6, fun _ => none, fun _ => none, al [])
abbrev GX6_its (w : WW) (Q : Option Value → MM → Prop) : Nat → LL → List Value → MM → Prop := WP w MX6_its TX6_its (KX6_its w) Q
section
variable {w : WW} {Q : Option Value → MM → Prop} {u : MM}
theorem eX6_its_0 {l1 : Option Value} {st : List Value} {x : Nat} : GX6_its w Q 0 [some (.ref x), l1] st u ↔ GX6_its w Q 1 [some (.ref x), l1] (.ref x :: st) u := WP_u (.aload_n 0) [] rfl
theorem eX6_its_1 {l0 l1 : Option Value} {st : List Value} {a : Nat} : GX6_its w Q 1 [l0, l1] (.ref a :: st) u ↔ okR w a 6 0 ∧ GX6_its w Q 4 [l0, l1] (.ref (rfF w a 0) :: st) u := (WP_u (.getfield 7) [] rfl).trans ex_and
theorem eX6_its_4 {l1 : Option Value} {st : List Value} {x : Nat} : GX6_its w Q 4 [some (.ref x), l1] st u ↔ GX6_its w Q 5 [some (.ref x), l1] (.ref x :: st) u := WP_u (.aload_n 0) [] rfl
theorem eX6_its_5 {l0 l1 : Option Value} {st : List Value} {a : Nat} : GX6_its w Q 5 [l0, l1] (.ref a :: st) u ↔ okI w a 6 1 ∧ GX6_its w Q 8 [l0, l1] (.int (u.1 (ixI w a 1)) :: st) u := (WP_u (.getfield 42) [] rfl).trans ex_and
theorem eX6_its_8 {l0 : Option Value} {st : List Value} {x : Int32} : GX6_its w Q 8 [l0, some (.int x)] st u ↔ GX6_its w Q 9 [l0, some (.int x)] (.int x :: st) u := WP_u (.iload_n 1) [] rfl
theorem eX6_its_9 {l0 l1 : Option Value} {st : List Value} {x y : Int32} : GX6_its w Q 9 [l0, l1] (.int y :: .int x :: st) u ↔ GX6_its w Q 10 [l0, l1] (.int (x + y) :: st) u := WP_u (.iadd) [] rfl
theorem eX6_its_10 {l0 l1 : Option Value} {st : List Value} {a : Nat} {i : Int32} : GX6_its w Q 10 [l0, l1] (.int i :: .ref a :: st) u ↔ okAI w a i ∧ GX6_its w Q 11 [l0, l1] (.int (rdA w u a i) :: st) u := (WP_u (.iaload) [] rfl).trans ex_and
theorem eX6_its_11 {l0 l1 : Option Value} {x : Int32} : GX6_its w Q 11 [l0, l1] [.int x] u ↔ Q (some (.int x)) u := (WP_u (.ireturn) [] rfl).trans (ex_ret rfl)
end
def VX6_its (w : WW) : Prop := ∀ (a1 : Int32) (u : MM), pX6_its a1 u → GX6_its w (fun r u' => r = some (.int (rX6_its a1 u)) ∧ u' = u) 0 [some (.ref (mA w)), some (.int a1)] [] u
def KX6_chair (w : WW) : KT := (al flX6, al ciX6, al clX6, fun _ => none, fun _ => none, al [])
abbrev GX6_chair (w : WW) (Q : Option Value → MM → Prop) : Nat → LL → List Value → MM → Prop := WP w MX6_chair TX6_chair (KX6_chair w) Q
section
variable {w : WW} {Q : Option Value → MM → Prop} {u : MM}
theorem eX6_chair_0 {l1 l2 : Option Value} {st : List Value} {x : Nat} : GX6_chair w Q 0 [some (.ref x), l1, l2] st u ↔ GX6_chair w Q 1 [some (.ref x), l1, l2] (.ref x :: st) u := WP_u (.aload_n 0) [] rfl
theorem eX6_chair_1 {l0 l1 l2 : Option Value} {st : List Value} {a : Nat} : GX6_chair w Q 1 [l0, l1, l2] (.ref a :: st) u ↔ okR w a 6 0 ∧ GX6_chair w Q 4 [l0, l1, l2] (.ref (rfF w a 0) :: st) u := (WP_u (.getfield 7) [] rfl).trans ex_and
theorem eX6_chair_4 {l1 l2 : Option Value} {st : List Value} {x : Nat} : GX6_chair w Q 4 [some (.ref x), l1, l2] st u ↔ GX6_chair w Q 5 [some (.ref x), l1, l2] (.ref x :: st) u := WP_u (.aload_n 0) [] rfl
theorem eX6_chair_5 {l0 l1 l2 : Option Value} {st : List Value} {a : Nat} : GX6_chair w Q 5 [l0, l1, l2] (.ref a :: st) u ↔ okI w a 6 1 ∧ GX6_chair w Q 8 [l0, l1, l2] (.int (u.1 (ixI w a 1)) :: st) u := (WP_u (.getfield 42) [] rfl).trans ex_and
theorem eX6_chair_8 {l0 l1 l2 : Option Value} {st : List Value} : GX6_chair w Q 8 [l0, l1, l2] st u ↔ GX6_chair w Q 9 [l0, l1, l2] (.int 3 :: st) u := WP_iconst rfl (by decide)
theorem eX6_chair_9 {l0 l1 l2 : Option Value} {st : List Value} {x y : Int32} : GX6_chair w Q 9 [l0, l1, l2] (.int y :: .int x :: st) u ↔ GX6_chair w Q 10 [l0, l1, l2] (.int (x + y) :: st) u := WP_u (.iadd) [] rfl
theorem eX6_chair_10 {l0 l1 l2 : Option Value} {st : List Value} : GX6_chair w Q 10 [l0, l1, l2] st u ↔ GX6_chair w Q 11 [l0, l1, l2] (.int 3 :: st) u := WP_iconst rfl (by decide)
theorem eX6_chair_11 {l0 l2 : Option Value} {st : List Value} {x : Int32} : GX6_chair w Q 11 [l0, some (.int x), l2] st u ↔ GX6_chair w Q 12 [l0, some (.int x), l2] (.int x :: st) u := WP_u (.iload_n 1) [] rfl
theorem eX6_chair_12 {l0 l1 l2 : Option Value} {st : List Value} {x y : Int32} : GX6_chair w Q 12 [l0, l1, l2] (.int y :: .int x :: st) u ↔ GX6_chair w Q 13 [l0, l1, l2] (.int (x * y) :: st) u := WP_u (.imul) [] rfl
theorem eX6_chair_13 {l0 l1 l2 : Option Value} {st : List Value} {x y : Int32} : GX6_chair w Q 13 [l0, l1, l2] (.int y :: .int x :: st) u ↔ GX6_chair w Q 14 [l0, l1, l2] (.int (x + y) :: st) u := WP_u (.iadd) [] rfl
theorem eX6_chair_14 {l0 l1 : Option Value} {st : List Value} {x : Int32} : GX6_chair w Q 14 [l0, l1, some (.int x)] st u ↔ GX6_chair w Q 15 [l0, l1, some (.int x)] (.int x :: st) u := WP_u (.iload_n 2) [] rfl
theorem eX6_chair_15 {l0 l1 l2 : Option Value} {st : List Value} {x y : Int32} : GX6_chair w Q 15 [l0, l1, l2] (.int y :: .int x :: st) u ↔ GX6_chair w Q 16 [l0, l1, l2] (.int (x + y) :: st) u := WP_u (.iadd) [] rfl
theorem eX6_chair_16 {l0 l1 l2 : Option Value} {st : List Value} {a : Nat} {i : Int32} : GX6_chair w Q 16 [l0, l1, l2] (.int i :: .ref a :: st) u ↔ okAI w a i ∧ GX6_chair w Q 17 [l0, l1, l2] (.int (rdA w u a i) :: st) u := (WP_u (.iaload) [] rfl).trans ex_and
theorem eX6_chair_17 {l0 l1 l2 : Option Value} {x : Int32} : GX6_chair w Q 17 [l0, l1, l2] [.int x] u ↔ Q (some (.int x)) u := (WP_u (.ireturn) [] rfl).trans (ex_ret rfl)
end
def VX6_chair (w : WW) : Prop := ∀ (a1 : Int32) (a2 : Int32) (u : MM), pX6_chair a1 a2 u → GX6_chair w (fun r u' => r = some (.int (rX6_chair a1 a2 u)) ∧ u' = u) 0 [some (.ref (mA w)), some (.int a1), some (.int a2)] [] u
def KX6_setsChair (w : WW) : KT := (al flX6, al ciX6, al clX6, fun _ => none, fun _ => none, al [])
abbrev GX6_setsChair (w : WW) (Q : Option Value → MM → Prop) : Nat → LL → List Value → MM → Prop := WP w MX6_setsChair TX6_setsChair (KX6_setsChair w) Q
section
variable {w : WW} {Q : Option Value → MM → Prop} {u : MM}
theorem eX6_setsChair_0 {l1 l2 l3 : Option Value} {st : List Value} {x : Nat} : GX6_setsChair w Q 0 [some (.ref x), l1, l2, l3] st u ↔ GX6_setsChair w Q 1 [some (.ref x), l1, l2, l3] (.ref x :: st) u := WP_u (.aload_n 0) [] rfl
theorem eX6_setsChair_1 {l0 l1 l2 l3 : Option Value} {st : List Value} {a : Nat} : GX6_setsChair w Q 1 [l0, l1, l2, l3] (.ref a :: st) u ↔ okR w a 6 0 ∧ GX6_setsChair w Q 4 [l0, l1, l2, l3] (.ref (rfF w a 0) :: st) u := (WP_u (.getfield 7) [] rfl).trans ex_and
theorem eX6_setsChair_4 {l1 l2 l3 : Option Value} {st : List Value} {x : Nat} : GX6_setsChair w Q 4 [some (.ref x), l1, l2, l3] st u ↔ GX6_setsChair w Q 5 [some (.ref x), l1, l2, l3] (.ref x :: st) u := WP_u (.aload_n 0) [] rfl
theorem eX6_setsChair_5 {l0 l1 l2 l3 : Option Value} {st : List Value} {a : Nat} : GX6_setsChair w Q 5 [l0, l1, l2, l3] (.ref a :: st) u ↔ okI w a 6 1 ∧ GX6_setsChair w Q 8 [l0, l1, l2, l3] (.int (u.1 (ixI w a 1)) :: st) u := (WP_u (.getfield 42) [] rfl).trans ex_and
theorem eX6_setsChair_8 {l0 l1 l2 l3 : Option Value} {st : List Value} : GX6_setsChair w Q 8 [l0, l1, l2, l3] st u ↔ GX6_setsChair w Q 9 [l0, l1, l2, l3] (.int 3 :: st) u := WP_iconst rfl (by decide)
theorem eX6_setsChair_9 {l0 l1 l2 l3 : Option Value} {st : List Value} {x y : Int32} : GX6_setsChair w Q 9 [l0, l1, l2, l3] (.int y :: .int x :: st) u ↔ GX6_setsChair w Q 10 [l0, l1, l2, l3] (.int (x + y) :: st) u := WP_u (.iadd) [] rfl
theorem eX6_setsChair_10 {l0 l1 l2 l3 : Option Value} {st : List Value} : GX6_setsChair w Q 10 [l0, l1, l2, l3] st u ↔ GX6_setsChair w Q 11 [l0, l1, l2, l3] (.int 3 :: st) u := WP_iconst rfl (by decide)
theorem eX6_setsChair_11 {l0 l2 l3 : Option Value} {st : List Value} {x : Int32} : GX6_setsChair w Q 11 [l0, some (.int x), l2, l3] st u ↔ GX6_setsChair w Q 12 [l0, some (.int x), l2, l3] (.int x :: st) u := WP_u (.iload_n 1) [] rfl
theorem eX6_setsChair_12 {l0 l1 l2 l3 : Option Value} {st : List Value} {x y : Int32} : GX6_setsChair w Q 12 [l0, l1, l2, l3] (.int y :: .int x :: st) u ↔ GX6_setsChair w Q 13 [l0, l1, l2, l3] (.int (x * y) :: st) u := WP_u (.imul) [] rfl
theorem eX6_setsChair_13 {l0 l1 l2 l3 : Option Value} {st : List Value} {x y : Int32} : GX6_setsChair w Q 13 [l0, l1, l2, l3] (.int y :: .int x :: st) u ↔ GX6_setsChair w Q 14 [l0, l1, l2, l3] (.int (x + y) :: st) u := WP_u (.iadd) [] rfl
theorem eX6_setsChair_14 {l0 l1 l3 : Option Value} {st : List Value} {x : Int32} : GX6_setsChair w Q 14 [l0, l1, some (.int x), l3] st u ↔ GX6_setsChair w Q 15 [l0, l1, some (.int x), l3] (.int x :: st) u := WP_u (.iload_n 2) [] rfl
theorem eX6_setsChair_15 {l0 l1 l2 l3 : Option Value} {st : List Value} {x y : Int32} : GX6_setsChair w Q 15 [l0, l1, l2, l3] (.int y :: .int x :: st) u ↔ GX6_setsChair w Q 16 [l0, l1, l2, l3] (.int (x + y) :: st) u := WP_u (.iadd) [] rfl
theorem eX6_setsChair_16 {l0 l1 l2 : Option Value} {st : List Value} {x : Int32} : GX6_setsChair w Q 16 [l0, l1, l2, some (.int x)] st u ↔ GX6_setsChair w Q 17 [l0, l1, l2, some (.int x)] (.int x :: st) u := WP_u (.iload_n 3) [] rfl
theorem eX6_setsChair_17 {l0 l1 l2 l3 : Option Value} {st : List Value} {a : Nat} {i x : Int32} : GX6_setsChair w Q 17 [l0, l1, l2, l3] (.int x :: .int i :: .ref a :: st) u ↔ okAS w a i ∧ GX6_setsChair w Q 18 [l0, l1, l2, l3] st (uI u (ixA w a i) x) := (WP_u (.iastore) [] rfl).trans ex_and
theorem eX6_setsChair_18 {l0 l1 l2 l3 : Option Value} : GX6_setsChair w Q 18 [l0, l1, l2, l3] [] u ↔ Q none u := (WP_u (.return_) [] rfl).trans ex_k
end
def VX6_setsChair (w : WW) : Prop := ∀ (a1 : Int32) (a2 : Int32) (a3 : Int32) (u : MM), pX6_setsChair a1 a2 a3 u → GX6_setsChair w (fun r u' => r = none ∧ u' = (mX6_setsChair a1 a2 a3 u)) 0 [some (.ref (mA w)), some (.int a1), some (.int a2), some (.int a3)] [] u
def KX6_man (w : WW) : KT := (al flX6, al ciX6, al clX6, fun _ => none, fun _ => none, al [])
abbrev GX6_man (w : WW) (Q : Option Value → MM → Prop) : Nat → LL → List Value → MM → Prop := WP w MX6_man TX6_man (KX6_man w) Q
section
variable {w : WW} {Q : Option Value → MM → Prop} {u : MM}
theorem eX6_man_0 {l1 l2 : Option Value} {st : List Value} {x : Nat} : GX6_man w Q 0 [some (.ref x), l1, l2] st u ↔ GX6_man w Q 1 [some (.ref x), l1, l2] (.ref x :: st) u := WP_u (.aload_n 0) [] rfl
theorem eX6_man_1 {l0 l1 l2 : Option Value} {st : List Value} {a : Nat} : GX6_man w Q 1 [l0, l1, l2] (.ref a :: st) u ↔ okR w a 6 0 ∧ GX6_man w Q 4 [l0, l1, l2] (.ref (rfF w a 0) :: st) u := (WP_u (.getfield 7) [] rfl).trans ex_and
theorem eX6_man_4 {l1 l2 : Option Value} {st : List Value} {x : Nat} : GX6_man w Q 4 [some (.ref x), l1, l2] st u ↔ GX6_man w Q 5 [some (.ref x), l1, l2] (.ref x :: st) u := WP_u (.aload_n 0) [] rfl
theorem eX6_man_5 {l0 l1 l2 : Option Value} {st : List Value} {a : Nat} : GX6_man w Q 5 [l0, l1, l2] (.ref a :: st) u ↔ okI w a 6 1 ∧ GX6_man w Q 8 [l0, l1, l2] (.int (u.1 (ixI w a 1)) :: st) u := (WP_u (.getfield 42) [] rfl).trans ex_and
theorem eX6_man_8 {l0 l1 l2 : Option Value} {st : List Value} : GX6_man w Q 8 [l0, l1, l2] st u ↔ GX6_man w Q 10 [l0, l1, l2] (.int 21 :: st) u := WP_bipush rfl (by decide)
theorem eX6_man_10 {l0 l1 l2 : Option Value} {st : List Value} {x y : Int32} : GX6_man w Q 10 [l0, l1, l2] (.int y :: .int x :: st) u ↔ GX6_man w Q 11 [l0, l1, l2] (.int (x + y) :: st) u := WP_u (.iadd) [] rfl
theorem eX6_man_11 {l0 l1 l2 : Option Value} {st : List Value} : GX6_man w Q 11 [l0, l1, l2] st u ↔ GX6_man w Q 13 [l0, l1, l2] (.int 7 :: st) u := WP_bipush rfl (by decide)
theorem eX6_man_13 {l0 l2 : Option Value} {st : List Value} {x : Int32} : GX6_man w Q 13 [l0, some (.int x), l2] st u ↔ GX6_man w Q 14 [l0, some (.int x), l2] (.int x :: st) u := WP_u (.iload_n 1) [] rfl
theorem eX6_man_14 {l0 l1 l2 : Option Value} {st : List Value} {x y : Int32} : GX6_man w Q 14 [l0, l1, l2] (.int y :: .int x :: st) u ↔ GX6_man w Q 15 [l0, l1, l2] (.int (x * y) :: st) u := WP_u (.imul) [] rfl
theorem eX6_man_15 {l0 l1 l2 : Option Value} {st : List Value} {x y : Int32} : GX6_man w Q 15 [l0, l1, l2] (.int y :: .int x :: st) u ↔ GX6_man w Q 16 [l0, l1, l2] (.int (x + y) :: st) u := WP_u (.iadd) [] rfl
theorem eX6_man_16 {l0 l1 : Option Value} {st : List Value} {x : Int32} : GX6_man w Q 16 [l0, l1, some (.int x)] st u ↔ GX6_man w Q 17 [l0, l1, some (.int x)] (.int x :: st) u := WP_u (.iload_n 2) [] rfl
theorem eX6_man_17 {l0 l1 l2 : Option Value} {st : List Value} {x y : Int32} : GX6_man w Q 17 [l0, l1, l2] (.int y :: .int x :: st) u ↔ GX6_man w Q 18 [l0, l1, l2] (.int (x + y) :: st) u := WP_u (.iadd) [] rfl
theorem eX6_man_18 {l0 l1 l2 : Option Value} {st : List Value} {a : Nat} {i : Int32} : GX6_man w Q 18 [l0, l1, l2] (.int i :: .ref a :: st) u ↔ okAI w a i ∧ GX6_man w Q 19 [l0, l1, l2] (.int (rdA w u a i) :: st) u := (WP_u (.iaload) [] rfl).trans ex_and
theorem eX6_man_19 {l0 l1 l2 : Option Value} {x : Int32} : GX6_man w Q 19 [l0, l1, l2] [.int x] u ↔ Q (some (.int x)) u := (WP_u (.ireturn) [] rfl).trans (ex_ret rfl)
end
def VX6_man (w : WW) : Prop := ∀ (a1 : Int32) (a2 : Int32) (u : MM), pX6_man a1 a2 u → GX6_man w (fun r u' => r = some (.int (rX6_man a1 a2 u)) ∧ u' = u) 0 [some (.ref (mA w)), some (.int a1), some (.int a2)] [] u
def KX6_sets (w : WW) : KT := (al flX6, al ciX6, al clX6, fun _ => none, fun _ => none, al [])
abbrev GX6_sets (w : WW) (Q : Option Value → MM → Prop) : Nat → LL → List Value → MM → Prop := WP w MX6_sets TX6_sets (KX6_sets w) Q
section
variable {w : WW} {Q : Option Value → MM → Prop} {u : MM}
theorem eX6_sets_0 {l1 l2 l3 : Option Value} {st : List Value} {x : Nat} : GX6_sets w Q 0 [some (.ref x), l1, l2, l3] st u ↔ GX6_sets w Q 1 [some (.ref x), l1, l2, l3] (.ref x :: st) u := WP_u (.aload_n 0) [] rfl
theorem eX6_sets_1 {l0 l1 l2 l3 : Option Value} {st : List Value} {a : Nat} : GX6_sets w Q 1 [l0, l1, l2, l3] (.ref a :: st) u ↔ okR w a 6 0 ∧ GX6_sets w Q 4 [l0, l1, l2, l3] (.ref (rfF w a 0) :: st) u := (WP_u (.getfield 7) [] rfl).trans ex_and
theorem eX6_sets_4 {l1 l2 l3 : Option Value} {st : List Value} {x : Nat} : GX6_sets w Q 4 [some (.ref x), l1, l2, l3] st u ↔ GX6_sets w Q 5 [some (.ref x), l1, l2, l3] (.ref x :: st) u := WP_u (.aload_n 0) [] rfl
theorem eX6_sets_5 {l0 l1 l2 l3 : Option Value} {st : List Value} {a : Nat} : GX6_sets w Q 5 [l0, l1, l2, l3] (.ref a :: st) u ↔ okI w a 6 1 ∧ GX6_sets w Q 8 [l0, l1, l2, l3] (.int (u.1 (ixI w a 1)) :: st) u := (WP_u (.getfield 42) [] rfl).trans ex_and
theorem eX6_sets_8 {l0 l1 l2 l3 : Option Value} {st : List Value} : GX6_sets w Q 8 [l0, l1, l2, l3] st u ↔ GX6_sets w Q 10 [l0, l1, l2, l3] (.int 21 :: st) u := WP_bipush rfl (by decide)
theorem eX6_sets_10 {l0 l1 l2 l3 : Option Value} {st : List Value} {x y : Int32} : GX6_sets w Q 10 [l0, l1, l2, l3] (.int y :: .int x :: st) u ↔ GX6_sets w Q 11 [l0, l1, l2, l3] (.int (x + y) :: st) u := WP_u (.iadd) [] rfl
theorem eX6_sets_11 {l0 l1 l2 l3 : Option Value} {st : List Value} : GX6_sets w Q 11 [l0, l1, l2, l3] st u ↔ GX6_sets w Q 13 [l0, l1, l2, l3] (.int 7 :: st) u := WP_bipush rfl (by decide)
theorem eX6_sets_13 {l0 l2 l3 : Option Value} {st : List Value} {x : Int32} : GX6_sets w Q 13 [l0, some (.int x), l2, l3] st u ↔ GX6_sets w Q 14 [l0, some (.int x), l2, l3] (.int x :: st) u := WP_u (.iload_n 1) [] rfl
theorem eX6_sets_14 {l0 l1 l2 l3 : Option Value} {st : List Value} {x y : Int32} : GX6_sets w Q 14 [l0, l1, l2, l3] (.int y :: .int x :: st) u ↔ GX6_sets w Q 15 [l0, l1, l2, l3] (.int (x * y) :: st) u := WP_u (.imul) [] rfl
theorem eX6_sets_15 {l0 l1 l2 l3 : Option Value} {st : List Value} {x y : Int32} : GX6_sets w Q 15 [l0, l1, l2, l3] (.int y :: .int x :: st) u ↔ GX6_sets w Q 16 [l0, l1, l2, l3] (.int (x + y) :: st) u := WP_u (.iadd) [] rfl
theorem eX6_sets_16 {l0 l1 l3 : Option Value} {st : List Value} {x : Int32} : GX6_sets w Q 16 [l0, l1, some (.int x), l3] st u ↔ GX6_sets w Q 17 [l0, l1, some (.int x), l3] (.int x :: st) u := WP_u (.iload_n 2) [] rfl
theorem eX6_sets_17 {l0 l1 l2 l3 : Option Value} {st : List Value} {x y : Int32} : GX6_sets w Q 17 [l0, l1, l2, l3] (.int y :: .int x :: st) u ↔ GX6_sets w Q 18 [l0, l1, l2, l3] (.int (x + y) :: st) u := WP_u (.iadd) [] rfl
theorem eX6_sets_18 {l0 l1 l2 : Option Value} {st : List Value} {x : Int32} : GX6_sets w Q 18 [l0, l1, l2, some (.int x)] st u ↔ GX6_sets w Q 19 [l0, l1, l2, some (.int x)] (.int x :: st) u := WP_u (.iload_n 3) [] rfl
theorem eX6_sets_19 {l0 l1 l2 l3 : Option Value} {st : List Value} {a : Nat} {i x : Int32} : GX6_sets w Q 19 [l0, l1, l2, l3] (.int x :: .int i :: .ref a :: st) u ↔ okAS w a i ∧ GX6_sets w Q 20 [l0, l1, l2, l3] st (uI u (ixA w a i) x) := (WP_u (.iastore) [] rfl).trans ex_and
theorem eX6_sets_20 {l0 l1 l2 l3 : Option Value} : GX6_sets w Q 20 [l0, l1, l2, l3] [] u ↔ Q none u := (WP_u (.return_) [] rfl).trans ex_k
end
def VX6_sets (w : WW) : Prop := ∀ (a1 : Int32) (a2 : Int32) (a3 : Int32) (u : MM), pX6_sets a1 a2 a3 u → GX6_sets w (fun r u' => r = none ∧ u' = (mX6_sets a1 a2 a3 u)) 0 [some (.ref (mA w)), some (.int a1), some (.int a2), some (.int a3)] [] u
def KX6_isSeat (w : WW) : KT := (al flX6, al ciX6, al clX6, fun _ => none, fun _ => none, al [(46, csX6_its w), (65586, csX6_in w)])
abbrev GX6_isSeat (w : WW) (Q : Option Value → MM → Prop) : Nat → LL → List Value → MM → Prop := WP w MX6_isSeat TX6_isSeat (KX6_isSeat w) Q
section
variable {w : WW} {Q : Option Value → MM → Prop} {u : MM}
theorem eX6_isSeat_0 {l0 : Option Value} {st : List Value} {x : Int32} : GX6_isSeat w Q 0 [l0, some (.int x)] st u ↔ GX6_isSeat w Q 1 [l0, some (.int x)] (.int x :: st) u := WP_u (.iload_n 1) [] rfl
theorem eX6_isSeat_1 {l0 l1 : Option Value} {st : List Value} : GX6_isSeat w Q 1 [l0, l1] st u ↔ GX6_isSeat w Q 2 [l0, l1] (.int 0 :: st) u := WP_iconst rfl (by decide)
theorem eX6_isSeat_2 {l1 : Option Value} {st : List Value} {x : Nat} : GX6_isSeat w Q 2 [some (.ref x), l1] st u ↔ GX6_isSeat w Q 3 [some (.ref x), l1] (.ref x :: st) u := WP_u (.aload_n 0) [] rfl
theorem eX6_isSeat_3 {l0 l1 : Option Value} {st : List Value} : GX6_isSeat w Q 3 [l0, l1] st u ↔ GX6_isSeat w Q 4 [l0, l1] (.int 1 :: st) u := WP_iconst rfl (by decide)
theorem eX6_isSeat_4 {l0 l1 : Option Value} {x0 : Int32} {x1 : Nat} {x2 : Int32} {x3 : Int32} : GX6_isSeat w Q 4 [l0, l1] [.int x0, .ref x1, .int x2, .int x3] u ↔ (x1 = mA w ∧ pX6_its x0 u) ∧ GX6_isSeat w Q 7 [l0, l1] [.int (rX6_its x0 u), .int x2, .int x3] u := (WP_u (.invokevirtual 46) [] rfl).trans (ex_call ⟨Nat.le_of_ble_eq_true rfl, Nat.le_of_ble_eq_true rfl⟩)
theorem eX6_isSeat_7 {l0 l1 : Option Value} {st : List Value} : GX6_isSeat w Q 7 [l0, l1] st u ↔ GX6_isSeat w Q 8 [l0, l1] (.int 1 :: st) u := WP_iconst rfl (by decide)
theorem eX6_isSeat_8 {l0 l1 : Option Value} {st : List Value} {x y : Int32} : GX6_isSeat w Q 8 [l0, l1] (.int y :: .int x :: st) u ↔ GX6_isSeat w Q 9 [l0, l1] (.int (x - y) :: st) u := WP_u (.isub) [] rfl
theorem eX6_isSeat_9 {l0 l1 : Option Value} {x0 : Int32} {x1 : Int32} {x2 : Int32} : GX6_isSeat w Q 9 [l0, l1] [.int x0, .int x1, .int x2] u ↔ (pX6_in x2 x1 x0 u) ∧ GX6_isSeat w Q 12 [l0, l1] [.int (rX6_in x2 x1 x0 u)] u := (WP_u (.invokestatic 50) [] rfl).trans (ex_call ⟨Nat.le_of_ble_eq_true rfl, Nat.le_of_ble_eq_true rfl⟩)
theorem eX6_isSeat_12 {l0 l1 : Option Value} {x : Int32} : GX6_isSeat w Q 12 [l0, l1] [.int x] u ↔ nb x ∧ Q (some (.int x)) u := (WP_u (.ireturn) [] rfl).trans ex_k
end
def VX6_isSeat (w : WW) : Prop := ∀ (a1 : Int32) (u : MM), pX6_isSeat a1 u → GX6_isSeat w (fun r u' => r = some (.int (rX6_isSeat a1 u)) ∧ u' = u) 0 [some (.ref (mA w)), some (.int a1)] [] u
def KX6_isOne (w : WW) : KT := (al flX6, al ciX6, al clX6, fun _ => none, fun _ => none, al [(46, csX6_its w), (65586, csX6_in w)])
abbrev GX6_isOne (w : WW) (Q : Option Value → MM → Prop) : Nat → LL → List Value → MM → Prop := WP w MX6_isOne TX6_isOne (KX6_isOne w) Q
section
variable {w : WW} {Q : Option Value → MM → Prop} {u : MM}
theorem eX6_isOne_0 {l0 : Option Value} {st : List Value} {x : Int32} : GX6_isOne w Q 0 [l0, some (.int x)] st u ↔ GX6_isOne w Q 1 [l0, some (.int x)] (.int x :: st) u := WP_u (.iload_n 1) [] rfl
theorem eX6_isOne_1 {l0 l1 : Option Value} {st : List Value} : GX6_isOne w Q 1 [l0, l1] st u ↔ GX6_isOne w Q 2 [l0, l1] (.int 0 :: st) u := WP_iconst rfl (by decide)
theorem eX6_isOne_2 {l1 : Option Value} {st : List Value} {x : Nat} : GX6_isOne w Q 2 [some (.ref x), l1] st u ↔ GX6_isOne w Q 3 [some (.ref x), l1] (.ref x :: st) u := WP_u (.aload_n 0) [] rfl
theorem eX6_isOne_3 {l0 l1 : Option Value} {st : List Value} : GX6_isOne w Q 3 [l0, l1] st u ↔ GX6_isOne w Q 4 [l0, l1] (.int 2 :: st) u := WP_iconst rfl (by decide)
theorem eX6_isOne_4 {l0 l1 : Option Value} {x0 : Int32} {x1 : Nat} {x2 : Int32} {x3 : Int32} : GX6_isOne w Q 4 [l0, l1] [.int x0, .ref x1, .int x2, .int x3] u ↔ (x1 = mA w ∧ pX6_its x0 u) ∧ GX6_isOne w Q 7 [l0, l1] [.int (rX6_its x0 u), .int x2, .int x3] u := (WP_u (.invokevirtual 46) [] rfl).trans (ex_call ⟨Nat.le_of_ble_eq_true rfl, Nat.le_of_ble_eq_true rfl⟩)
theorem eX6_isOne_7 {l0 l1 : Option Value} {st : List Value} : GX6_isOne w Q 7 [l0, l1] st u ↔ GX6_isOne w Q 8 [l0, l1] (.int 1 :: st) u := WP_iconst rfl (by decide)
theorem eX6_isOne_8 {l0 l1 : Option Value} {st : List Value} {x y : Int32} : GX6_isOne w Q 8 [l0, l1] (.int y :: .int x :: st) u ↔ GX6_isOne w Q 9 [l0, l1] (.int (x - y) :: st) u := WP_u (.isub) [] rfl
theorem eX6_isOne_9 {l0 l1 : Option Value} {x0 : Int32} {x1 : Int32} {x2 : Int32} : GX6_isOne w Q 9 [l0, l1] [.int x0, .int x1, .int x2] u ↔ (pX6_in x2 x1 x0 u) ∧ GX6_isOne w Q 12 [l0, l1] [.int (rX6_in x2 x1 x0 u)] u := (WP_u (.invokestatic 50) [] rfl).trans (ex_call ⟨Nat.le_of_ble_eq_true rfl, Nat.le_of_ble_eq_true rfl⟩)
theorem eX6_isOne_12 {l0 l1 : Option Value} {x : Int32} : GX6_isOne w Q 12 [l0, l1] [.int x] u ↔ nb x ∧ Q (some (.int x)) u := (WP_u (.ireturn) [] rfl).trans ex_k
end
def VX6_isOne (w : WW) : Prop := ∀ (a1 : Int32) (u : MM), pX6_isOne a1 u → GX6_isOne w (fun r u' => r = some (.int (rX6_isOne a1 u)) ∧ u' = u) 0 [some (.ref (mA w)), some (.int a1)] [] u
def KX6_isSpot (w : WW) : KT := (al flX6, al ciX6, al clX6, fun _ => none, fun _ => none, al [(65586, csX6_in w)])
abbrev GX6_isSpot (w : WW) (Q : Option Value → MM → Prop) : Nat → LL → List Value → MM → Prop := WP w MX6_isSpot TX6_isSpot (KX6_isSpot w) Q
section
variable {w : WW} {Q : Option Value → MM → Prop} {u : MM}
theorem eX6_isSpot_0 {st : List Value} {x : Int32} : GX6_isSpot w Q 0 [some (.int x)] st u ↔ GX6_isSpot w Q 1 [some (.int x)] (.int x :: st) u := WP_u (.iload_n 0) [] rfl
theorem eX6_isSpot_1 {l0 : Option Value} {st : List Value} : GX6_isSpot w Q 1 [l0] st u ↔ GX6_isSpot w Q 2 [l0] (.int 0 :: st) u := WP_iconst rfl (by decide)
theorem eX6_isSpot_2 {l0 : Option Value} {st : List Value} : GX6_isSpot w Q 2 [l0] st u ↔ GX6_isSpot w Q 4 [l0] (.int 99 :: st) u := WP_bipush rfl (by decide)
theorem eX6_isSpot_4 {l0 : Option Value} {x0 : Int32} {x1 : Int32} {x2 : Int32} : GX6_isSpot w Q 4 [l0] [.int x0, .int x1, .int x2] u ↔ (pX6_in x2 x1 x0 u) ∧ GX6_isSpot w Q 7 [l0] [.int (rX6_in x2 x1 x0 u)] u := (WP_u (.invokestatic 50) [] rfl).trans (ex_call ⟨Nat.le_of_ble_eq_true rfl, Nat.le_of_ble_eq_true rfl⟩)
theorem eX6_isSpot_7 {l0 : Option Value} {x : Int32} : GX6_isSpot w Q 7 [l0] [.int x] u ↔ nb x ∧ Q (some (.int x)) u := (WP_u (.ireturn) [] rfl).trans ex_k
end
def VX6_isSpot (w : WW) : Prop := ∀ (a0 : Int32) (u : MM), pX6_isSpot a0 u → GX6_isSpot w (fun r u' => r = some (.int (rX6_isSpot a0 u)) ∧ u' = u) 0 [some (.int a0)] [] u
def KX6_isKind (w : WW) : KT := (al flX6, al ciX6, al clX6, fun _ => none, fun _ => none, al [(65586, csX6_in w)])
abbrev GX6_isKind (w : WW) (Q : Option Value → MM → Prop) : Nat → LL → List Value → MM → Prop := WP w MX6_isKind TX6_isKind (KX6_isKind w) Q
section
variable {w : WW} {Q : Option Value → MM → Prop} {u : MM}
theorem eX6_isKind_0 {st : List Value} {x : Int32} : GX6_isKind w Q 0 [some (.int x)] st u ↔ GX6_isKind w Q 1 [some (.int x)] (.int x :: st) u := WP_u (.iload_n 0) [] rfl
theorem eX6_isKind_1 {l0 : Option Value} {st : List Value} : GX6_isKind w Q 1 [l0] st u ↔ GX6_isKind w Q 2 [l0] (.int 0 :: st) u := WP_iconst rfl (by decide)
theorem eX6_isKind_2 {l0 : Option Value} {st : List Value} : GX6_isKind w Q 2 [l0] st u ↔ GX6_isKind w Q 3 [l0] (.int 5 :: st) u := WP_iconst rfl (by decide)
theorem eX6_isKind_3 {l0 : Option Value} {x0 : Int32} {x1 : Int32} {x2 : Int32} : GX6_isKind w Q 3 [l0] [.int x0, .int x1, .int x2] u ↔ (pX6_in x2 x1 x0 u) ∧ GX6_isKind w Q 6 [l0] [.int (rX6_in x2 x1 x0 u)] u := (WP_u (.invokestatic 50) [] rfl).trans (ex_call ⟨Nat.le_of_ble_eq_true rfl, Nat.le_of_ble_eq_true rfl⟩)
theorem eX6_isKind_6 {l0 : Option Value} {x : Int32} : GX6_isKind w Q 6 [l0] [.int x] u ↔ nb x ∧ Q (some (.int x)) u := (WP_u (.ireturn) [] rfl).trans ex_k
end
def VX6_isKind (w : WW) : Prop := ∀ (a0 : Int32) (u : MM), pX6_isKind a0 u → GX6_isKind w (fun r u' => r = some (.int (rX6_isKind a0 u)) ∧ u' = u) 0 [some (.int a0)] [] u
def KX6_isTold (w : WW) : KT := (al flX6, al ciX6, al clX6, fun _ => none, fun _ => none, al [(65586, csX6_in w)])
abbrev GX6_isTold (w : WW) (Q : Option Value → MM → Prop) : Nat → LL → List Value → MM → Prop := WP w MX6_isTold TX6_isTold (KX6_isTold w) Q
section
variable {w : WW} {Q : Option Value → MM → Prop} {u : MM}
theorem eX6_isTold_0 {st : List Value} {x : Int32} : GX6_isTold w Q 0 [some (.int x)] st u ↔ GX6_isTold w Q 1 [some (.int x)] (.int x :: st) u := WP_u (.iload_n 0) [] rfl
theorem eX6_isTold_1 {l0 : Option Value} {st : List Value} : GX6_isTold w Q 1 [l0] st u ↔ GX6_isTold w Q 2 [l0] (.int 0 :: st) u := WP_iconst rfl (by decide)
theorem eX6_isTold_2 {l0 : Option Value} {st : List Value} : GX6_isTold w Q 2 [l0] st u ↔ GX6_isTold w Q 4 [l0] (.int 99 :: st) u := WP_bipush rfl (by decide)
theorem eX6_isTold_4 {l0 : Option Value} {x0 : Int32} {x1 : Int32} {x2 : Int32} : GX6_isTold w Q 4 [l0] [.int x0, .int x1, .int x2] u ↔ (pX6_in x2 x1 x0 u) ∧ GX6_isTold w Q 7 [l0] [.int (rX6_in x2 x1 x0 u)] u := (WP_u (.invokestatic 50) [] rfl).trans (ex_call ⟨Nat.le_of_ble_eq_true rfl, Nat.le_of_ble_eq_true rfl⟩)
theorem eX6_isTold_7 {l0 : Option Value} {x : Int32} : GX6_isTold w Q 7 [l0] [.int x] u ↔ nb x ∧ Q (some (.int x)) u := (WP_u (.ireturn) [] rfl).trans ex_k
end
def VX6_isTold (w : WW) : Prop := ∀ (a0 : Int32) (u : MM), pX6_isTold a0 u → GX6_isTold w (fun r u' => r = some (.int (rX6_isTold a0 u)) ∧ u' = u) 0 [some (.int a0)] [] u
def KX6_stands (w : WW) : KT := (al flX6, al ciX6, al clX6, fun _ => none, fun _ => none, al [(54, csX6_man w)])
abbrev GX6_stands (w : WW) (Q : Option Value → MM → Prop) : Nat → LL → List Value → MM → Prop := WP w MX6_stands TX6_stands (KX6_stands w) Q
section
variable {w : WW} {Q : Option Value → MM → Prop} {u : MM}
theorem eX6_stands_0 {l1 : Option Value} {st : List Value} {x : Nat} : GX6_stands w Q 0 [some (.ref x), l1] st u ↔ GX6_stands w Q 1 [some (.ref x), l1] (.ref x :: st) u := WP_u (.aload_n 0) [] rfl
theorem eX6_stands_1 {l0 : Option Value} {st : List Value} {x : Int32} : GX6_stands w Q 1 [l0, some (.int x)] st u ↔ GX6_stands w Q 2 [l0, some (.int x)] (.int x :: st) u := WP_u (.iload_n 1) [] rfl
theorem eX6_stands_2 {l0 l1 : Option Value} {st : List Value} : GX6_stands w Q 2 [l0, l1] st u ↔ GX6_stands w Q 3 [l0, l1] (.int 5 :: st) u := WP_iconst rfl (by decide)
theorem eX6_stands_3 {l0 l1 : Option Value} {x0 : Int32} {x1 : Int32} {x2 : Nat} : GX6_stands w Q 3 [l0, l1] [.int x0, .int x1, .ref x2] u ↔ (x2 = mA w ∧ pX6_man x1 x0 u) ∧ GX6_stands w Q 6 [l0, l1] [.int (rX6_man x1 x0 u)] u := (WP_u (.invokevirtual 54) [] rfl).trans (ex_call ⟨Nat.le_of_ble_eq_true rfl, Nat.le_of_ble_eq_true rfl⟩)
theorem eX6_stands_6 {l0 l1 : Option Value} {st : List Value} {x : Int32} : GX6_stands w Q 6 [l0, l1] (.int x :: st) u ↔ (0 ≤ x → GX6_stands w Q 13 [l0, l1] st u) ∧ (¬ (0 ≤ x) → GX6_stands w Q 9 [l0, l1] st u) := (WP_u (.ifCond .ge 7) [13] rfl).trans ex_br
theorem eX6_stands_9 {l0 l1 : Option Value} {st : List Value} : GX6_stands w Q 9 [l0, l1] st u ↔ GX6_stands w Q 10 [l0, l1] (.int 1 :: st) u := WP_iconst rfl (by decide)
theorem eX6_stands_10 {l0 l1 : Option Value} {st : List Value} : GX6_stands w Q 10 [l0, l1] st u ↔ GX6_stands w Q 14 [l0, l1] st u := WP_u (.goto 4) [14] rfl
theorem eX6_stands_13 {l0 l1 : Option Value} {st : List Value} : GX6_stands w Q 13 [l0, l1] st u ↔ GX6_stands w Q 14 [l0, l1] (.int 0 :: st) u := WP_iconst rfl (by decide)
theorem eX6_stands_14 {l0 l1 : Option Value} {x : Int32} : GX6_stands w Q 14 [l0, l1] [.int x] u ↔ nb x ∧ Q (some (.int x)) u := (WP_u (.ireturn) [] rfl).trans ex_k
end
def VX6_stands (w : WW) : Prop := ∀ (a1 : Int32) (u : MM), pX6_stands a1 u → GX6_stands w (fun r u' => r = some (.int (rX6_stands a1 u)) ∧ u' = u) 0 [some (.ref (mA w)), some (.int a1)] [] u
def KX6_isPage (w : WW) : KT := (al flX6, al ciX6, al clX6, fun _ => none, fun _ => none, al [(54, csX6_man w)])
abbrev GX6_isPage (w : WW) (Q : Option Value → MM → Prop) : Nat → LL → List Value → MM → Prop := WP w MX6_isPage TX6_isPage (KX6_isPage w) Q
section
variable {w : WW} {Q : Option Value → MM → Prop} {u : MM}
theorem eX6_isPage_0 {l1 : Option Value} {st : List Value} {x : Nat} : GX6_isPage w Q 0 [some (.ref x), l1] st u ↔ GX6_isPage w Q 1 [some (.ref x), l1] (.ref x :: st) u := WP_u (.aload_n 0) [] rfl
theorem eX6_isPage_1 {l0 : Option Value} {st : List Value} {x : Int32} : GX6_isPage w Q 1 [l0, some (.int x)] st u ↔ GX6_isPage w Q 2 [l0, some (.int x)] (.int x :: st) u := WP_u (.iload_n 1) [] rfl
theorem eX6_isPage_2 {l0 l1 : Option Value} {st : List Value} : GX6_isPage w Q 2 [l0, l1] st u ↔ GX6_isPage w Q 3 [l0, l1] (.int 0 :: st) u := WP_iconst rfl (by decide)
theorem eX6_isPage_3 {l0 l1 : Option Value} {x0 : Int32} {x1 : Int32} {x2 : Nat} : GX6_isPage w Q 3 [l0, l1] [.int x0, .int x1, .ref x2] u ↔ (x2 = mA w ∧ pX6_man x1 x0 u) ∧ GX6_isPage w Q 6 [l0, l1] [.int (rX6_man x1 x0 u)] u := (WP_u (.invokevirtual 54) [] rfl).trans (ex_call ⟨Nat.le_of_ble_eq_true rfl, Nat.le_of_ble_eq_true rfl⟩)
theorem eX6_isPage_6 {l0 l1 : Option Value} {st : List Value} : GX6_isPage w Q 6 [l0, l1] st u ↔ GX6_isPage w Q 7 [l0, l1] (.int 2 :: st) u := WP_iconst rfl (by decide)
theorem eX6_isPage_7 {l0 l1 : Option Value} {st : List Value} {x y : Int32} : GX6_isPage w Q 7 [l0, l1] (.int y :: .int x :: st) u ↔ (¬ x = y → GX6_isPage w Q 14 [l0, l1] st u) ∧ (¬ (¬ x = y) → GX6_isPage w Q 10 [l0, l1] st u) := (WP_u (.if_icmp .ne 7) [14] rfl).trans ex_br
theorem eX6_isPage_10 {l0 l1 : Option Value} {st : List Value} : GX6_isPage w Q 10 [l0, l1] st u ↔ GX6_isPage w Q 11 [l0, l1] (.int 1 :: st) u := WP_iconst rfl (by decide)
theorem eX6_isPage_11 {l0 l1 : Option Value} {st : List Value} : GX6_isPage w Q 11 [l0, l1] st u ↔ GX6_isPage w Q 15 [l0, l1] st u := WP_u (.goto 4) [15] rfl
theorem eX6_isPage_14 {l0 l1 : Option Value} {st : List Value} : GX6_isPage w Q 14 [l0, l1] st u ↔ GX6_isPage w Q 15 [l0, l1] (.int 0 :: st) u := WP_iconst rfl (by decide)
theorem eX6_isPage_15 {l0 l1 : Option Value} {x : Int32} : GX6_isPage w Q 15 [l0, l1] [.int x] u ↔ nb x ∧ Q (some (.int x)) u := (WP_u (.ireturn) [] rfl).trans ex_k
end
def VX6_isPage (w : WW) : Prop := ∀ (a1 : Int32) (u : MM), pX6_isPage a1 u → GX6_isPage w (fun r u' => r = some (.int (rX6_isPage a1 u)) ∧ u' = u) 0 [some (.ref (mA w)), some (.int a1)] [] u
def KX6_leans (w : WW) : KT := (al flX6, al ciX6, al clX6, fun _ => none, fun _ => none, al [(54, csX6_man w)])
abbrev GX6_leans (w : WW) (Q : Option Value → MM → Prop) : Nat → LL → List Value → MM → Prop := WP w MX6_leans TX6_leans (KX6_leans w) Q
section
variable {w : WW} {Q : Option Value → MM → Prop} {u : MM}
theorem eX6_leans_0 {l1 l2 : Option Value} {st : List Value} {x : Nat} : GX6_leans w Q 0 [some (.ref x), l1, l2] st u ↔ GX6_leans w Q 1 [some (.ref x), l1, l2] (.ref x :: st) u := WP_u (.aload_n 0) [] rfl
theorem eX6_leans_1 {l0 l2 : Option Value} {st : List Value} {x : Int32} : GX6_leans w Q 1 [l0, some (.int x), l2] st u ↔ GX6_leans w Q 2 [l0, some (.int x), l2] (.int x :: st) u := WP_u (.iload_n 1) [] rfl
theorem eX6_leans_2 {l0 l1 l2 : Option Value} {st : List Value} : GX6_leans w Q 2 [l0, l1, l2] st u ↔ GX6_leans w Q 3 [l0, l1, l2] (.int 2 :: st) u := WP_iconst rfl (by decide)
theorem eX6_leans_3 {l0 l1 l2 : Option Value} {x0 : Int32} {x1 : Int32} {x2 : Nat} : GX6_leans w Q 3 [l0, l1, l2] [.int x0, .int x1, .ref x2] u ↔ (x2 = mA w ∧ pX6_man x1 x0 u) ∧ GX6_leans w Q 6 [l0, l1, l2] [.int (rX6_man x1 x0 u)] u := (WP_u (.invokevirtual 54) [] rfl).trans (ex_call ⟨Nat.le_of_ble_eq_true rfl, Nat.le_of_ble_eq_true rfl⟩)
theorem eX6_leans_6 {l0 l1 l2 : Option Value} {st : List Value} {x : Int32} : GX6_leans w Q 6 [l0, l1, l2] (.int x :: st) u ↔ GX6_leans w Q 7 [l0, kl l1, some (.int x)] st u := (WP_u (.istore_n 2) [] rfl).trans (ex_drop (Nat.le_of_ble_eq_true rfl))
theorem eX6_leans_7 {l1 l2 : Option Value} {st : List Value} {x : Nat} : GX6_leans w Q 7 [some (.ref x), l1, l2] st u ↔ GX6_leans w Q 8 [some (.ref x), l1, l2] (.ref x :: st) u := WP_u (.aload_n 0) [] rfl
theorem eX6_leans_8 {l0 l2 : Option Value} {st : List Value} {x : Int32} : GX6_leans w Q 8 [l0, some (.int x), l2] st u ↔ GX6_leans w Q 9 [l0, some (.int x), l2] (.int x :: st) u := WP_u (.iload_n 1) [] rfl
theorem eX6_leans_9 {l0 l1 l2 : Option Value} {st : List Value} : GX6_leans w Q 9 [l0, l1, l2] st u ↔ GX6_leans w Q 10 [l0, l1, l2] (.int 0 :: st) u := WP_iconst rfl (by decide)
theorem eX6_leans_10 {l0 l1 l2 : Option Value} {x0 : Int32} {x1 : Int32} {x2 : Nat} : GX6_leans w Q 10 [l0, l1, l2] [.int x0, .int x1, .ref x2] u ↔ (x2 = mA w ∧ pX6_man x1 x0 u) ∧ GX6_leans w Q 13 [l0, l1, l2] [.int (rX6_man x1 x0 u)] u := (WP_u (.invokevirtual 54) [] rfl).trans (ex_call ⟨Nat.le_of_ble_eq_true rfl, Nat.le_of_ble_eq_true rfl⟩)
theorem eX6_leans_13 {l0 l1 l2 : Option Value} {st : List Value} {x : Int32} : GX6_leans w Q 13 [l0, l1, l2] (.int x :: st) u ↔ (x = 1 → GX6_leans w Q 48 [l0, l1, l2] st u) ∧ (¬ x = 1 → ((x = 2 → GX6_leans w Q 53 [l0, l1, l2] st u) ∧ (¬ x = 2 → ((x = 3 → GX6_leans w Q 64 [l0, l1, l2] st u) ∧ (¬ x = 3 → ((x = 4 → GX6_leans w Q 55 [l0, l1, l2] st u) ∧ (¬ x = 4 → ((x = 5 → GX6_leans w Q 59 [l0, l1, l2] st u) ∧ (¬ x = 5 → GX6_leans w Q 64 [l0, l1, l2] st u))))))))) := (WP_u (.tableswitch 51 1 5 #[35, 40, 51, 42, 46]) [64, 48, 53, 64, 55, 59] rfl).trans ((ex_swc (f := fun t n => wp w MX6_leans TX6_leans (KX6_leans w) Q n t [l0, l1, l2] st u) (d := fun n => wp w MX6_leans TX6_leans (KX6_leans w) Q n 64 [l0, l1, l2] st u) [48, 53, 64, 55, 59] 1).trans Iff.rfl)
theorem eX6_leans_48 {l0 l1 : Option Value} {st : List Value} {x : Int32} : GX6_leans w Q 48 [l0, l1, some (.int x)] st u ↔ GX6_leans w Q 49 [l0, l1, some (.int x)] (.int x :: st) u := WP_u (.iload_n 2) [] rfl
theorem eX6_leans_49 {l0 l1 l2 : Option Value} {st : List Value} : GX6_leans w Q 49 [l0, l1, l2] st u ↔ GX6_leans w Q 51 [l0, l1, l2] (.int 30 :: st) u := WP_bipush rfl (by decide)
theorem eX6_leans_51 {l0 l1 l2 : Option Value} {st : List Value} {x y : Int32} : GX6_leans w Q 51 [l0, l1, l2] (.int y :: .int x :: st) u ↔ GX6_leans w Q 52 [l0, l1, l2] (.int (x + y) :: st) u := WP_u (.iadd) [] rfl
theorem eX6_leans_52 {l0 l1 l2 : Option Value} {x : Int32} : GX6_leans w Q 52 [l0, l1, l2] [.int x] u ↔ Q (some (.int x)) u := (WP_u (.ireturn) [] rfl).trans (ex_ret rfl)
theorem eX6_leans_53 {l0 l1 l2 : Option Value} {st : List Value} : GX6_leans w Q 53 [l0, l1, l2] st u ↔ GX6_leans w Q 54 [l0, l1, l2] (.int 0 :: st) u := WP_iconst rfl (by decide)
theorem eX6_leans_54 {l0 l1 l2 : Option Value} {x : Int32} : GX6_leans w Q 54 [l0, l1, l2] [.int x] u ↔ Q (some (.int x)) u := (WP_u (.ireturn) [] rfl).trans (ex_ret rfl)
theorem eX6_leans_55 {l0 l1 l2 : Option Value} {st : List Value} : GX6_leans w Q 55 [l0, l1, l2] st u ↔ GX6_leans w Q 56 [l0, l1, l2] (.int 2 :: st) u := WP_iconst rfl (by decide)
theorem eX6_leans_56 {l0 l1 : Option Value} {st : List Value} {x : Int32} : GX6_leans w Q 56 [l0, l1, some (.int x)] st u ↔ GX6_leans w Q 57 [l0, l1, some (.int x)] (.int x :: st) u := WP_u (.iload_n 2) [] rfl
theorem eX6_leans_57 {l0 l1 l2 : Option Value} {st : List Value} {x y : Int32} : GX6_leans w Q 57 [l0, l1, l2] (.int y :: .int x :: st) u ↔ GX6_leans w Q 58 [l0, l1, l2] (.int (x * y) :: st) u := WP_u (.imul) [] rfl
theorem eX6_leans_58 {l0 l1 l2 : Option Value} {x : Int32} : GX6_leans w Q 58 [l0, l1, l2] [.int x] u ↔ Q (some (.int x)) u := (WP_u (.ireturn) [] rfl).trans (ex_ret rfl)
theorem eX6_leans_59 {l0 l1 : Option Value} {st : List Value} {x : Int32} : GX6_leans w Q 59 [l0, l1, some (.int x)] st u ↔ GX6_leans w Q 60 [l0, l1, some (.int x)] (.int x :: st) u := WP_u (.iload_n 2) [] rfl
theorem eX6_leans_60 {l0 l1 l2 : Option Value} {st : List Value} : GX6_leans w Q 60 [l0, l1, l2] st u ↔ GX6_leans w Q 62 [l0, l1, l2] (.int 50 :: st) u := WP_bipush rfl (by decide)
theorem eX6_leans_62 {l0 l1 l2 : Option Value} {st : List Value} {x y : Int32} : GX6_leans w Q 62 [l0, l1, l2] (.int y :: .int x :: st) u ↔ GX6_leans w Q 63 [l0, l1, l2] (.int (x + y) :: st) u := WP_u (.iadd) [] rfl
theorem eX6_leans_63 {l0 l1 l2 : Option Value} {x : Int32} : GX6_leans w Q 63 [l0, l1, l2] [.int x] u ↔ Q (some (.int x)) u := (WP_u (.ireturn) [] rfl).trans (ex_ret rfl)
theorem eX6_leans_64 {l0 l1 : Option Value} {st : List Value} {x : Int32} : GX6_leans w Q 64 [l0, l1, some (.int x)] st u ↔ GX6_leans w Q 65 [l0, l1, some (.int x)] (.int x :: st) u := WP_u (.iload_n 2) [] rfl
theorem eX6_leans_65 {l0 l1 l2 : Option Value} {x : Int32} : GX6_leans w Q 65 [l0, l1, l2] [.int x] u ↔ Q (some (.int x)) u := (WP_u (.ireturn) [] rfl).trans (ex_ret rfl)
end
def VX6_leans (w : WW) : Prop := ∀ (a1 : Int32) (u : MM), pX6_leans a1 u → GX6_leans w (fun r u' => r = some (.int (rX6_leans a1 u)) ∧ u' = u) 0 [some (.ref (mA w)), some (.int a1), none] [] u
def KX6_stays (w : WW) : KT := (al flX6, al ciX6, al clX6, fun _ => none, fun _ => none, al [(54, csX6_man w)])
abbrev GX6_stays (w : WW) (Q : Option Value → MM → Prop) : Nat → LL → List Value → MM → Prop := WP w MX6_stays TX6_stays (KX6_stays w) Q
section
variable {w : WW} {Q : Option Value → MM → Prop} {u : MM}
theorem eX6_stays_0 {l1 : Option Value} {st : List Value} {x : Nat} : GX6_stays w Q 0 [some (.ref x), l1] st u ↔ GX6_stays w Q 1 [some (.ref x), l1] (.ref x :: st) u := WP_u (.aload_n 0) [] rfl
theorem eX6_stays_1 {l0 : Option Value} {st : List Value} {x : Int32} : GX6_stays w Q 1 [l0, some (.int x)] st u ↔ GX6_stays w Q 2 [l0, some (.int x)] (.int x :: st) u := WP_u (.iload_n 1) [] rfl
theorem eX6_stays_2 {l0 l1 : Option Value} {st : List Value} : GX6_stays w Q 2 [l0, l1] st u ↔ GX6_stays w Q 3 [l0, l1] (.int 0 :: st) u := WP_iconst rfl (by decide)
theorem eX6_stays_3 {l0 l1 : Option Value} {x0 : Int32} {x1 : Int32} {x2 : Nat} : GX6_stays w Q 3 [l0, l1] [.int x0, .int x1, .ref x2] u ↔ (x2 = mA w ∧ pX6_man x1 x0 u) ∧ GX6_stays w Q 6 [l0, l1] [.int (rX6_man x1 x0 u)] u := (WP_u (.invokevirtual 54) [] rfl).trans (ex_call ⟨Nat.le_of_ble_eq_true rfl, Nat.le_of_ble_eq_true rfl⟩)
theorem eX6_stays_6 {l0 l1 : Option Value} {st : List Value} {x : Int32} : GX6_stays w Q 6 [l0, l1] (.int x :: st) u ↔ (x = 1 → GX6_stays w Q 40 [l0, l1] st u) ∧ (¬ x = 1 → ((x = 2 → GX6_stays w Q 48 [l0, l1] st u) ∧ (¬ x = 2 → ((x = 3 → GX6_stays w Q 43 [l0, l1] st u) ∧ (¬ x = 3 → ((x = 4 → GX6_stays w Q 46 [l0, l1] st u) ∧ (¬ x = 4 → ((x = 5 → GX6_stays w Q 40 [l0, l1] st u) ∧ (¬ x = 5 → GX6_stays w Q 48 [l0, l1] st u))))))))) := (WP_u (.tableswitch 42 1 5 #[34, 42, 37, 40, 34]) [48, 40, 48, 43, 46, 40] rfl).trans ((ex_swc (f := fun t n => wp w MX6_stays TX6_stays (KX6_stays w) Q n t [l0, l1] st u) (d := fun n => wp w MX6_stays TX6_stays (KX6_stays w) Q n 48 [l0, l1] st u) [40, 48, 43, 46, 40] 1).trans Iff.rfl)
theorem eX6_stays_40 {l0 l1 : Option Value} {st : List Value} : GX6_stays w Q 40 [l0, l1] st u ↔ GX6_stays w Q 42 [l0, l1] (.int 20 :: st) u := WP_bipush rfl (by decide)
theorem eX6_stays_42 {l0 l1 : Option Value} {x : Int32} : GX6_stays w Q 42 [l0, l1] [.int x] u ↔ Q (some (.int x)) u := (WP_u (.ireturn) [] rfl).trans (ex_ret rfl)
theorem eX6_stays_43 {l0 l1 : Option Value} {st : List Value} : GX6_stays w Q 43 [l0, l1] st u ↔ GX6_stays w Q 45 [l0, l1] (.int 15 :: st) u := WP_bipush rfl (by decide)
theorem eX6_stays_45 {l0 l1 : Option Value} {x : Int32} : GX6_stays w Q 45 [l0, l1] [.int x] u ↔ Q (some (.int x)) u := (WP_u (.ireturn) [] rfl).trans (ex_ret rfl)
theorem eX6_stays_46 {l0 l1 : Option Value} {st : List Value} : GX6_stays w Q 46 [l0, l1] st u ↔ GX6_stays w Q 47 [l0, l1] (.int 4 :: st) u := WP_iconst rfl (by decide)
theorem eX6_stays_47 {l0 l1 : Option Value} {x : Int32} : GX6_stays w Q 47 [l0, l1] [.int x] u ↔ Q (some (.int x)) u := (WP_u (.ireturn) [] rfl).trans (ex_ret rfl)
theorem eX6_stays_48 {l0 l1 : Option Value} {st : List Value} : GX6_stays w Q 48 [l0, l1] st u ↔ GX6_stays w Q 50 [l0, l1] (.int 10 :: st) u := WP_bipush rfl (by decide)
theorem eX6_stays_50 {l0 l1 : Option Value} {x : Int32} : GX6_stays w Q 50 [l0, l1] [.int x] u ↔ Q (some (.int x)) u := (WP_u (.ireturn) [] rfl).trans (ex_ret rfl)
end
def VX6_stays (w : WW) : Prop := ∀ (a1 : Int32) (u : MM), pX6_stays a1 u → GX6_stays w (fun r u' => r = some (.int (rX6_stays a1 u)) ∧ u' = u) 0 [some (.ref (mA w)), some (.int a1)] [] u
def KX6_goes (w : WW) : KT := (al flX6, al ciX6, al clX6, fun _ => none, fun _ => none, al [(46, csX6_its w), (54, csX6_man w)])
abbrev GX6_goes (w : WW) (Q : Option Value → MM → Prop) : Nat → LL → List Value → MM → Prop := WP w MX6_goes TX6_goes (KX6_goes w) Q
section
variable {w : WW} {Q : Option Value → MM → Prop} {u : MM}
theorem eX6_goes_0 {l1 : Option Value} {st : List Value} {x : Nat} : GX6_goes w Q 0 [some (.ref x), l1] st u ↔ GX6_goes w Q 1 [some (.ref x), l1] (.ref x :: st) u := WP_u (.aload_n 0) [] rfl
theorem eX6_goes_1 {l0 : Option Value} {st : List Value} {x : Int32} : GX6_goes w Q 1 [l0, some (.int x)] st u ↔ GX6_goes w Q 2 [l0, some (.int x)] (.int x :: st) u := WP_u (.iload_n 1) [] rfl
theorem eX6_goes_2 {l0 l1 : Option Value} {st : List Value} : GX6_goes w Q 2 [l0, l1] st u ↔ GX6_goes w Q 3 [l0, l1] (.int 0 :: st) u := WP_iconst rfl (by decide)
theorem eX6_goes_3 {l0 l1 : Option Value} {x0 : Int32} {x1 : Int32} {x2 : Nat} : GX6_goes w Q 3 [l0, l1] [.int x0, .int x1, .ref x2] u ↔ (x2 = mA w ∧ pX6_man x1 x0 u) ∧ GX6_goes w Q 6 [l0, l1] [.int (rX6_man x1 x0 u)] u := (WP_u (.invokevirtual 54) [] rfl).trans (ex_call ⟨Nat.le_of_ble_eq_true rfl, Nat.le_of_ble_eq_true rfl⟩)
theorem eX6_goes_6 {l0 l1 : Option Value} {st : List Value} {x : Int32} : GX6_goes w Q 6 [l0, l1] (.int x :: st) u ↔ (x = 1 → GX6_goes w Q 40 [l0, l1] st u) ∧ (¬ x = 1 → ((x = 2 → GX6_goes w Q 56 [l0, l1] st u) ∧ (¬ x = 2 → ((x = 3 → GX6_goes w Q 58 [l0, l1] st u) ∧ (¬ x = 3 → ((x = 4 → GX6_goes w Q 58 [l0, l1] st u) ∧ (¬ x = 4 → ((x = 5 → GX6_goes w Q 40 [l0, l1] st u) ∧ (¬ x = 5 → GX6_goes w Q 74 [l0, l1] st u))))))))) := (WP_u (.tableswitch 68 1 5 #[34, 50, 52, 52, 34]) [74, 40, 56, 58, 58, 40] rfl).trans ((ex_swc (f := fun t n => wp w MX6_goes TX6_goes (KX6_goes w) Q n t [l0, l1] st u) (d := fun n => wp w MX6_goes TX6_goes (KX6_goes w) Q n 74 [l0, l1] st u) [40, 56, 58, 58, 40] 1).trans Iff.rfl)
theorem eX6_goes_40 {l1 : Option Value} {st : List Value} {x : Nat} : GX6_goes w Q 40 [some (.ref x), l1] st u ↔ GX6_goes w Q 41 [some (.ref x), l1] (.ref x :: st) u := WP_u (.aload_n 0) [] rfl
theorem eX6_goes_41 {l0 l1 : Option Value} {st : List Value} : GX6_goes w Q 41 [l0, l1] st u ↔ GX6_goes w Q 42 [l0, l1] (.int 0 :: st) u := WP_iconst rfl (by decide)
theorem eX6_goes_42 {l0 l1 : Option Value} {x0 : Int32} {x1 : Nat} : GX6_goes w Q 42 [l0, l1] [.int x0, .ref x1] u ↔ (x1 = mA w ∧ pX6_its x0 u) ∧ GX6_goes w Q 45 [l0, l1] [.int (rX6_its x0 u)] u := (WP_u (.invokevirtual 46) [] rfl).trans (ex_call ⟨Nat.le_of_ble_eq_true rfl, Nat.le_of_ble_eq_true rfl⟩)
theorem eX6_goes_45 {l0 l1 : Option Value} {st : List Value} : GX6_goes w Q 45 [l0, l1] st u ↔ GX6_goes w Q 46 [l0, l1] (.int 2 :: st) u := WP_iconst rfl (by decide)
theorem eX6_goes_46 {l0 l1 : Option Value} {st : List Value} {x y : Int32} : GX6_goes w Q 46 [l0, l1] (.int y :: .int x :: st) u ↔ ¬ y = 0 ∧ GX6_goes w Q 47 [l0, l1] (.int (x - x / y * y) :: st) u := (WP_u (.irem) [] rfl).trans ex_and
theorem eX6_goes_47 {l0 l1 : Option Value} {st : List Value} {x : Int32} : GX6_goes w Q 47 [l0, l1] (.int x :: st) u ↔ (¬ x = 0 → GX6_goes w Q 54 [l0, l1] st u) ∧ (¬ (¬ x = 0) → GX6_goes w Q 50 [l0, l1] st u) := (WP_u (.ifCond .ne 7) [54] rfl).trans ex_br
theorem eX6_goes_50 {l0 l1 : Option Value} {st : List Value} : GX6_goes w Q 50 [l0, l1] st u ↔ GX6_goes w Q 51 [l0, l1] (.int 1 :: st) u := WP_iconst rfl (by decide)
theorem eX6_goes_51 {l0 l1 : Option Value} {st : List Value} : GX6_goes w Q 51 [l0, l1] st u ↔ GX6_goes w Q 55 [l0, l1] st u := WP_u (.goto 4) [55] rfl
theorem eX6_goes_54 {l0 l1 : Option Value} {st : List Value} : GX6_goes w Q 54 [l0, l1] st u ↔ GX6_goes w Q 55 [l0, l1] (.int 0 :: st) u := WP_iconst rfl (by decide)
theorem eX6_goes_55 {l0 l1 : Option Value} {x : Int32} : GX6_goes w Q 55 [l0, l1] [.int x] u ↔ Q (some (.int x)) u := (WP_u (.ireturn) [] rfl).trans (ex_ret rfl)
theorem eX6_goes_56 {l0 l1 : Option Value} {st : List Value} : GX6_goes w Q 56 [l0, l1] st u ↔ GX6_goes w Q 57 [l0, l1] (.int 2 :: st) u := WP_iconst rfl (by decide)
theorem eX6_goes_57 {l0 l1 : Option Value} {x : Int32} : GX6_goes w Q 57 [l0, l1] [.int x] u ↔ Q (some (.int x)) u := (WP_u (.ireturn) [] rfl).trans (ex_ret rfl)
theorem eX6_goes_58 {l1 : Option Value} {st : List Value} {x : Nat} : GX6_goes w Q 58 [some (.ref x), l1] st u ↔ GX6_goes w Q 59 [some (.ref x), l1] (.ref x :: st) u := WP_u (.aload_n 0) [] rfl
theorem eX6_goes_59 {l0 l1 : Option Value} {st : List Value} : GX6_goes w Q 59 [l0, l1] st u ↔ GX6_goes w Q 60 [l0, l1] (.int 0 :: st) u := WP_iconst rfl (by decide)
theorem eX6_goes_60 {l0 l1 : Option Value} {x0 : Int32} {x1 : Nat} : GX6_goes w Q 60 [l0, l1] [.int x0, .ref x1] u ↔ (x1 = mA w ∧ pX6_its x0 u) ∧ GX6_goes w Q 63 [l0, l1] [.int (rX6_its x0 u)] u := (WP_u (.invokevirtual 46) [] rfl).trans (ex_call ⟨Nat.le_of_ble_eq_true rfl, Nat.le_of_ble_eq_true rfl⟩)
theorem eX6_goes_63 {l0 l1 : Option Value} {st : List Value} : GX6_goes w Q 63 [l0, l1] st u ↔ GX6_goes w Q 64 [l0, l1] (.int 3 :: st) u := WP_iconst rfl (by decide)
theorem eX6_goes_64 {l0 l1 : Option Value} {st : List Value} {x y : Int32} : GX6_goes w Q 64 [l0, l1] (.int y :: .int x :: st) u ↔ ¬ y = 0 ∧ GX6_goes w Q 65 [l0, l1] (.int (x - x / y * y) :: st) u := (WP_u (.irem) [] rfl).trans ex_and
theorem eX6_goes_65 {l0 l1 : Option Value} {st : List Value} {x : Int32} : GX6_goes w Q 65 [l0, l1] (.int x :: st) u ↔ (¬ x = 0 → GX6_goes w Q 72 [l0, l1] st u) ∧ (¬ (¬ x = 0) → GX6_goes w Q 68 [l0, l1] st u) := (WP_u (.ifCond .ne 7) [72] rfl).trans ex_br
theorem eX6_goes_68 {l0 l1 : Option Value} {st : List Value} : GX6_goes w Q 68 [l0, l1] st u ↔ GX6_goes w Q 69 [l0, l1] (.int 0 :: st) u := WP_iconst rfl (by decide)
theorem eX6_goes_69 {l0 l1 : Option Value} {st : List Value} : GX6_goes w Q 69 [l0, l1] st u ↔ GX6_goes w Q 73 [l0, l1] st u := WP_u (.goto 4) [73] rfl
theorem eX6_goes_72 {l0 l1 : Option Value} {st : List Value} : GX6_goes w Q 72 [l0, l1] st u ↔ GX6_goes w Q 73 [l0, l1] (.int 1 :: st) u := WP_iconst rfl (by decide)
theorem eX6_goes_73 {l0 l1 : Option Value} {x : Int32} : GX6_goes w Q 73 [l0, l1] [.int x] u ↔ Q (some (.int x)) u := (WP_u (.ireturn) [] rfl).trans (ex_ret rfl)
theorem eX6_goes_74 {l0 l1 : Option Value} {st : List Value} : GX6_goes w Q 74 [l0, l1] st u ↔ GX6_goes w Q 75 [l0, l1] (.int 1 :: st) u := WP_iconst rfl (by decide)
theorem eX6_goes_75 {l0 l1 : Option Value} {x : Int32} : GX6_goes w Q 75 [l0, l1] [.int x] u ↔ Q (some (.int x)) u := (WP_u (.ireturn) [] rfl).trans (ex_ret rfl)
end
def VX6_goes (w : WW) : Prop := ∀ (a1 : Int32) (u : MM), pX6_goes a1 u → GX6_goes w (fun r u' => r = some (.int (rX6_goes a1 u)) ∧ u' = u) 0 [some (.ref (mA w)), some (.int a1)] [] u
def KX6_apart (w : WW) : KT := (al flX6, al ciX6, al clX6, fun _ => none, fun _ => none, al [])
abbrev GX6_apart (w : WW) (Q : Option Value → MM → Prop) : Nat → LL → List Value → MM → Prop := WP w MX6_apart TX6_apart (KX6_apart w) Q
section
variable {w : WW} {Q : Option Value → MM → Prop} {u : MM}
theorem eX6_apart_0 {l1 : Option Value} {st : List Value} {x : Int32} : GX6_apart w Q 0 [some (.int x), l1] st u ↔ GX6_apart w Q 1 [some (.int x), l1] (.int x :: st) u := WP_u (.iload_n 0) [] rfl
theorem eX6_apart_1 {l0 : Option Value} {st : List Value} {x : Int32} : GX6_apart w Q 1 [l0, some (.int x)] st u ↔ GX6_apart w Q 2 [l0, some (.int x)] (.int x :: st) u := WP_u (.iload_n 1) [] rfl
theorem eX6_apart_2 {l0 l1 : Option Value} {st : List Value} {x y : Int32} : GX6_apart w Q 2 [l0, l1] (.int y :: .int x :: st) u ↔ (y ≤ x → GX6_apart w Q 11 [l0, l1] st u) ∧ (¬ (y ≤ x) → GX6_apart w Q 5 [l0, l1] st u) := (WP_u (.if_icmp .ge 9) [11] rfl).trans ex_br
theorem eX6_apart_5 {l0 : Option Value} {st : List Value} {x : Int32} : GX6_apart w Q 5 [l0, some (.int x)] st u ↔ GX6_apart w Q 6 [l0, some (.int x)] (.int x :: st) u := WP_u (.iload_n 1) [] rfl
theorem eX6_apart_6 {l1 : Option Value} {st : List Value} {x : Int32} : GX6_apart w Q 6 [some (.int x), l1] st u ↔ GX6_apart w Q 7 [some (.int x), l1] (.int x :: st) u := WP_u (.iload_n 0) [] rfl
theorem eX6_apart_7 {l0 l1 : Option Value} {st : List Value} {x y : Int32} : GX6_apart w Q 7 [l0, l1] (.int y :: .int x :: st) u ↔ GX6_apart w Q 8 [l0, l1] (.int (x - y) :: st) u := WP_u (.isub) [] rfl
theorem eX6_apart_8 {l0 l1 : Option Value} {st : List Value} : GX6_apart w Q 8 [l0, l1] st u ↔ GX6_apart w Q 14 [l0, l1] st u := WP_u (.goto 6) [14] rfl
theorem eX6_apart_11 {l1 : Option Value} {st : List Value} {x : Int32} : GX6_apart w Q 11 [some (.int x), l1] st u ↔ GX6_apart w Q 12 [some (.int x), l1] (.int x :: st) u := WP_u (.iload_n 0) [] rfl
theorem eX6_apart_12 {l0 : Option Value} {st : List Value} {x : Int32} : GX6_apart w Q 12 [l0, some (.int x)] st u ↔ GX6_apart w Q 13 [l0, some (.int x)] (.int x :: st) u := WP_u (.iload_n 1) [] rfl
theorem eX6_apart_13 {l0 l1 : Option Value} {st : List Value} {x y : Int32} : GX6_apart w Q 13 [l0, l1] (.int y :: .int x :: st) u ↔ GX6_apart w Q 14 [l0, l1] (.int (x - y) :: st) u := WP_u (.isub) [] rfl
theorem eX6_apart_14 {l0 l1 : Option Value} {x : Int32} : GX6_apart w Q 14 [l0, l1] [.int x] u ↔ Q (some (.int x)) u := (WP_u (.ireturn) [] rfl).trans (ex_ret rfl)
end
def VX6_apart (w : WW) : Prop := ∀ (a0 : Int32) (a1 : Int32) (u : MM), pX6_apart a0 a1 u → GX6_apart w (fun r u' => r = some (.int (rX6_apart a0 a1 u)) ∧ u' = u) 0 [some (.int a0), some (.int a1)] [] u
def KX6_farOf (w : WW) : KT := (al flX6, al ciX6, al clX6, fun _ => none, fun _ => none, al [(54, csX6_man w), (58, csX6_leans w)])
abbrev GX6_farOf (w : WW) (Q : Option Value → MM → Prop) : Nat → LL → List Value → MM → Prop := WP w MX6_farOf TX6_farOf (KX6_farOf w) Q
section
variable {w : WW} {Q : Option Value → MM → Prop} {u : MM}
theorem eX6_farOf_0 {l1 l2 l3 l4 : Option Value} {st : List Value} {x : Nat} : GX6_farOf w Q 0 [some (.ref x), l1, l2, l3, l4] st u ↔ GX6_farOf w Q 1 [some (.ref x), l1, l2, l3, l4] (.ref x :: st) u := WP_u (.aload_n 0) [] rfl
theorem eX6_farOf_1 {l0 l2 l3 l4 : Option Value} {st : List Value} {x : Int32} : GX6_farOf w Q 1 [l0, some (.int x), l2, l3, l4] st u ↔ GX6_farOf w Q 2 [l0, some (.int x), l2, l3, l4] (.int x :: st) u := WP_u (.iload_n 1) [] rfl
theorem eX6_farOf_2 {l0 l1 l2 l3 l4 : Option Value} {st : List Value} : GX6_farOf w Q 2 [l0, l1, l2, l3, l4] st u ↔ GX6_farOf w Q 3 [l0, l1, l2, l3, l4] (.int 1 :: st) u := WP_iconst rfl (by decide)
theorem eX6_farOf_3 {l0 l1 l2 l3 l4 : Option Value} {x0 : Int32} {x1 : Int32} {x2 : Nat} : GX6_farOf w Q 3 [l0, l1, l2, l3, l4] [.int x0, .int x1, .ref x2] u ↔ (x2 = mA w ∧ pX6_man x1 x0 u) ∧ GX6_farOf w Q 6 [l0, l1, l2, l3, l4] [.int (rX6_man x1 x0 u)] u := (WP_u (.invokevirtual 54) [] rfl).trans (ex_call ⟨Nat.le_of_ble_eq_true rfl, Nat.le_of_ble_eq_true rfl⟩)
theorem eX6_farOf_6 {l0 l1 l2 l3 l4 : Option Value} {st : List Value} : GX6_farOf w Q 6 [l0, l1, l2, l3, l4] st u ↔ GX6_farOf w Q 8 [l0, l1, l2, l3, l4] (.int 10 :: st) u := WP_bipush rfl (by decide)
theorem eX6_farOf_8 {l0 l1 l2 l3 l4 : Option Value} {st : List Value} {x y : Int32} : GX6_farOf w Q 8 [l0, l1, l2, l3, l4] (.int y :: .int x :: st) u ↔ ¬ y = 0 ∧ GX6_farOf w Q 9 [l0, l1, l2, l3, l4] (.int (x / y) :: st) u := (WP_u (.idiv) [] rfl).trans ex_and
theorem eX6_farOf_9 {l0 l1 l3 l4 : Option Value} {st : List Value} {x : Int32} : GX6_farOf w Q 9 [l0, l1, some (.int x), l3, l4] st u ↔ GX6_farOf w Q 10 [l0, l1, some (.int x), l3, l4] (.int x :: st) u := WP_u (.iload_n 2) [] rfl
theorem eX6_farOf_10 {l0 l1 l2 l3 l4 : Option Value} {st : List Value} : GX6_farOf w Q 10 [l0, l1, l2, l3, l4] st u ↔ GX6_farOf w Q 12 [l0, l1, l2, l3, l4] (.int 10 :: st) u := WP_bipush rfl (by decide)
theorem eX6_farOf_12 {l0 l1 l2 l3 l4 : Option Value} {st : List Value} {x y : Int32} : GX6_farOf w Q 12 [l0, l1, l2, l3, l4] (.int y :: .int x :: st) u ↔ ¬ y = 0 ∧ GX6_farOf w Q 13 [l0, l1, l2, l3, l4] (.int (x / y) :: st) u := (WP_u (.idiv) [] rfl).trans ex_and
theorem eX6_farOf_13 {l0 l1 l2 l3 l4 : Option Value} {st : List Value} {x y : Int32} : GX6_farOf w Q 13 [l0, l1, l2, l3, l4] (.int y :: .int x :: st) u ↔ GX6_farOf w Q 14 [l0, l1, l2, l3, l4] (.int (x - y) :: st) u := WP_u (.isub) [] rfl
theorem eX6_farOf_14 {l0 l1 l2 l3 l4 : Option Value} {st : List Value} {x : Int32} : GX6_farOf w Q 14 [l0, l1, l2, l3, l4] (.int x :: st) u ↔ GX6_farOf w Q 15 [l0, l1, kl l2, some (.int x), l4] st u := (WP_u (.istore_n 3) [] rfl).trans (ex_drop (Nat.le_of_ble_eq_true rfl))
theorem eX6_farOf_15 {l1 l2 l3 l4 : Option Value} {st : List Value} {x : Nat} : GX6_farOf w Q 15 [some (.ref x), l1, l2, l3, l4] st u ↔ GX6_farOf w Q 16 [some (.ref x), l1, l2, l3, l4] (.ref x :: st) u := WP_u (.aload_n 0) [] rfl
theorem eX6_farOf_16 {l0 l2 l3 l4 : Option Value} {st : List Value} {x : Int32} : GX6_farOf w Q 16 [l0, some (.int x), l2, l3, l4] st u ↔ GX6_farOf w Q 17 [l0, some (.int x), l2, l3, l4] (.int x :: st) u := WP_u (.iload_n 1) [] rfl
theorem eX6_farOf_17 {l0 l1 l2 l3 l4 : Option Value} {st : List Value} : GX6_farOf w Q 17 [l0, l1, l2, l3, l4] st u ↔ GX6_farOf w Q 18 [l0, l1, l2, l3, l4] (.int 1 :: st) u := WP_iconst rfl (by decide)
theorem eX6_farOf_18 {l0 l1 l2 l3 l4 : Option Value} {x0 : Int32} {x1 : Int32} {x2 : Nat} : GX6_farOf w Q 18 [l0, l1, l2, l3, l4] [.int x0, .int x1, .ref x2] u ↔ (x2 = mA w ∧ pX6_man x1 x0 u) ∧ GX6_farOf w Q 21 [l0, l1, l2, l3, l4] [.int (rX6_man x1 x0 u)] u := (WP_u (.invokevirtual 54) [] rfl).trans (ex_call ⟨Nat.le_of_ble_eq_true rfl, Nat.le_of_ble_eq_true rfl⟩)
theorem eX6_farOf_21 {l0 l1 l2 l3 l4 : Option Value} {st : List Value} : GX6_farOf w Q 21 [l0, l1, l2, l3, l4] st u ↔ GX6_farOf w Q 23 [l0, l1, l2, l3, l4] (.int 10 :: st) u := WP_bipush rfl (by decide)
theorem eX6_farOf_23 {l0 l1 l2 l3 l4 : Option Value} {st : List Value} {x y : Int32} : GX6_farOf w Q 23 [l0, l1, l2, l3, l4] (.int y :: .int x :: st) u ↔ ¬ y = 0 ∧ GX6_farOf w Q 24 [l0, l1, l2, l3, l4] (.int (x - x / y * y) :: st) u := (WP_u (.irem) [] rfl).trans ex_and
theorem eX6_farOf_24 {l0 l1 l3 l4 : Option Value} {st : List Value} {x : Int32} : GX6_farOf w Q 24 [l0, l1, some (.int x), l3, l4] st u ↔ GX6_farOf w Q 25 [l0, l1, some (.int x), l3, l4] (.int x :: st) u := WP_u (.iload_n 2) [] rfl
theorem eX6_farOf_25 {l0 l1 l2 l3 l4 : Option Value} {st : List Value} : GX6_farOf w Q 25 [l0, l1, l2, l3, l4] st u ↔ GX6_farOf w Q 27 [l0, l1, l2, l3, l4] (.int 10 :: st) u := WP_bipush rfl (by decide)
theorem eX6_farOf_27 {l0 l1 l2 l3 l4 : Option Value} {st : List Value} {x y : Int32} : GX6_farOf w Q 27 [l0, l1, l2, l3, l4] (.int y :: .int x :: st) u ↔ ¬ y = 0 ∧ GX6_farOf w Q 28 [l0, l1, l2, l3, l4] (.int (x - x / y * y) :: st) u := (WP_u (.irem) [] rfl).trans ex_and
theorem eX6_farOf_28 {l0 l1 l2 l3 l4 : Option Value} {st : List Value} {x y : Int32} : GX6_farOf w Q 28 [l0, l1, l2, l3, l4] (.int y :: .int x :: st) u ↔ GX6_farOf w Q 29 [l0, l1, l2, l3, l4] (.int (x - y) :: st) u := WP_u (.isub) [] rfl
theorem eX6_farOf_29 {l0 l1 l2 l3 l4 : Option Value} {st : List Value} {x : Int32} : GX6_farOf w Q 29 [l0, l1, l2, l3, l4] (.int x :: st) u ↔ GX6_farOf w Q 31 [l0, l1, l2, kl l3, some (.int x)] st u := (WP_u (.istore 4) [] rfl).trans (ex_drop (Nat.le_of_ble_eq_true rfl))
theorem eX6_farOf_31 {l0 l1 l2 l3 l4 : Option Value} {st : List Value} : GX6_farOf w Q 31 [l0, l1, l2, l3, l4] st u ↔ GX6_farOf w Q 33 [l0, l1, l2, l3, l4] (.int 100 :: st) u := WP_bipush rfl (by decide)
theorem eX6_farOf_33 {l0 l1 l2 l4 : Option Value} {st : List Value} {x : Int32} : GX6_farOf w Q 33 [l0, l1, l2, some (.int x), l4] st u ↔ GX6_farOf w Q 34 [l0, l1, l2, some (.int x), l4] (.int x :: st) u := WP_u (.iload_n 3) [] rfl
theorem eX6_farOf_34 {l0 l1 l2 l4 : Option Value} {st : List Value} {x : Int32} : GX6_farOf w Q 34 [l0, l1, l2, some (.int x), l4] st u ↔ GX6_farOf w Q 35 [l0, l1, l2, some (.int x), l4] (.int x :: st) u := WP_u (.iload_n 3) [] rfl
theorem eX6_farOf_35 {l0 l1 l2 l3 l4 : Option Value} {st : List Value} {x y : Int32} : GX6_farOf w Q 35 [l0, l1, l2, l3, l4] (.int y :: .int x :: st) u ↔ GX6_farOf w Q 36 [l0, l1, l2, l3, l4] (.int (x * y) :: st) u := WP_u (.imul) [] rfl
theorem eX6_farOf_36 {l0 l1 l2 l3 : Option Value} {st : List Value} {x : Int32} : GX6_farOf w Q 36 [l0, l1, l2, l3, some (.int x)] st u ↔ GX6_farOf w Q 38 [l0, l1, l2, l3, some (.int x)] (.int x :: st) u := WP_u (.iload 4) [] rfl
theorem eX6_farOf_38 {l0 l1 l2 l3 : Option Value} {st : List Value} {x : Int32} : GX6_farOf w Q 38 [l0, l1, l2, l3, some (.int x)] st u ↔ GX6_farOf w Q 40 [l0, l1, l2, l3, some (.int x)] (.int x :: st) u := WP_u (.iload 4) [] rfl
theorem eX6_farOf_40 {l0 l1 l2 l3 l4 : Option Value} {st : List Value} {x y : Int32} : GX6_farOf w Q 40 [l0, l1, l2, l3, l4] (.int y :: .int x :: st) u ↔ GX6_farOf w Q 41 [l0, l1, l2, l3, l4] (.int (x * y) :: st) u := WP_u (.imul) [] rfl
theorem eX6_farOf_41 {l0 l1 l2 l3 l4 : Option Value} {st : List Value} {x y : Int32} : GX6_farOf w Q 41 [l0, l1, l2, l3, l4] (.int y :: .int x :: st) u ↔ GX6_farOf w Q 42 [l0, l1, l2, l3, l4] (.int (x + y) :: st) u := WP_u (.iadd) [] rfl
theorem eX6_farOf_42 {l0 l1 l2 l3 l4 : Option Value} {st : List Value} {x y : Int32} : GX6_farOf w Q 42 [l0, l1, l2, l3, l4] (.int y :: .int x :: st) u ↔ GX6_farOf w Q 43 [l0, l1, l2, l3, l4] (.int (x * y) :: st) u := WP_u (.imul) [] rfl
theorem eX6_farOf_43 {l1 l2 l3 l4 : Option Value} {st : List Value} {x : Nat} : GX6_farOf w Q 43 [some (.ref x), l1, l2, l3, l4] st u ↔ GX6_farOf w Q 44 [some (.ref x), l1, l2, l3, l4] (.ref x :: st) u := WP_u (.aload_n 0) [] rfl
theorem eX6_farOf_44 {l0 l2 l3 l4 : Option Value} {st : List Value} {x : Int32} : GX6_farOf w Q 44 [l0, some (.int x), l2, l3, l4] st u ↔ GX6_farOf w Q 45 [l0, some (.int x), l2, l3, l4] (.int x :: st) u := WP_u (.iload_n 1) [] rfl
theorem eX6_farOf_45 {l0 l1 l2 l3 l4 : Option Value} {x0 : Int32} {x1 : Nat} {x2 : Int32} : GX6_farOf w Q 45 [l0, l1, l2, l3, l4] [.int x0, .ref x1, .int x2] u ↔ (x1 = mA w ∧ pX6_leans x0 u) ∧ GX6_farOf w Q 48 [l0, l1, l2, l3, l4] [.int (rX6_leans x0 u), .int x2] u := (WP_u (.invokevirtual 58) [] rfl).trans (ex_call ⟨Nat.le_of_ble_eq_true rfl, Nat.le_of_ble_eq_true rfl⟩)
theorem eX6_farOf_48 {l0 l1 l2 l3 l4 : Option Value} {st : List Value} {x y : Int32} : GX6_farOf w Q 48 [l0, l1, l2, l3, l4] (.int y :: .int x :: st) u ↔ GX6_farOf w Q 49 [l0, l1, l2, l3, l4] (.int (x - y) :: st) u := WP_u (.isub) [] rfl
theorem eX6_farOf_49 {l0 l1 l2 l3 l4 : Option Value} {x : Int32} : GX6_farOf w Q 49 [l0, l1, l2, l3, l4] [.int x] u ↔ Q (some (.int x)) u := (WP_u (.ireturn) [] rfl).trans (ex_ret rfl)
end
def VX6_farOf (w : WW) : Prop := ∀ (a1 : Int32) (a2 : Int32) (u : MM), pX6_farOf a1 a2 u → GX6_farOf w (fun r u' => r = some (.int (rX6_farOf a1 a2 u)) ∧ u' = u) 0 [some (.ref (mA w)), some (.int a1), some (.int a2), none, none] [] u
def KX6_isAhead (w : WW) : KT := (al flX6, al ciX6, al clX6, fun _ => none, fun _ => none, al [(54, csX6_man w), (61, csX6_farOf w)])
abbrev GX6_isAhead (w : WW) (Q : Option Value → MM → Prop) : Nat → LL → List Value → MM → Prop := WP w MX6_isAhead TX6_isAhead (KX6_isAhead w) Q
section
variable {w : WW} {Q : Option Value → MM → Prop} {u : MM}
theorem eX6_isAhead_0 {l1 l2 l3 l4 l5 : Option Value} {st : List Value} {x : Nat} : GX6_isAhead w Q 0 [some (.ref x), l1, l2, l3, l4, l5] st u ↔ GX6_isAhead w Q 1 [some (.ref x), l1, l2, l3, l4, l5] (.ref x :: st) u := WP_u (.aload_n 0) [] rfl
theorem eX6_isAhead_1 {l0 l2 l3 l4 l5 : Option Value} {st : List Value} {x : Int32} : GX6_isAhead w Q 1 [l0, some (.int x), l2, l3, l4, l5] st u ↔ GX6_isAhead w Q 2 [l0, some (.int x), l2, l3, l4, l5] (.int x :: st) u := WP_u (.iload_n 1) [] rfl
theorem eX6_isAhead_2 {l0 l1 l2 l4 l5 : Option Value} {st : List Value} {x : Int32} : GX6_isAhead w Q 2 [l0, l1, l2, some (.int x), l4, l5] st u ↔ GX6_isAhead w Q 3 [l0, l1, l2, some (.int x), l4, l5] (.int x :: st) u := WP_u (.iload_n 3) [] rfl
theorem eX6_isAhead_3 {l0 l1 l2 l3 l4 l5 : Option Value} {x0 : Int32} {x1 : Int32} {x2 : Nat} : GX6_isAhead w Q 3 [l0, l1, l2, l3, l4, l5] [.int x0, .int x1, .ref x2] u ↔ (x2 = mA w ∧ pX6_farOf x1 x0 u) ∧ GX6_isAhead w Q 6 [l0, l1, l2, l3, l4, l5] [.int (rX6_farOf x1 x0 u)] u := (WP_u (.invokevirtual 61) [] rfl).trans (ex_call ⟨Nat.le_of_ble_eq_true rfl, Nat.le_of_ble_eq_true rfl⟩)
theorem eX6_isAhead_6 {l0 l1 l2 l3 l4 l5 : Option Value} {st : List Value} {x : Int32} : GX6_isAhead w Q 6 [l0, l1, l2, l3, l4, l5] (.int x :: st) u ↔ GX6_isAhead w Q 8 [l0, l1, l2, kl l3, some (.int x), l5] st u := (WP_u (.istore 4) [] rfl).trans (ex_drop (Nat.le_of_ble_eq_true rfl))
theorem eX6_isAhead_8 {l1 l2 l3 l4 l5 : Option Value} {st : List Value} {x : Nat} : GX6_isAhead w Q 8 [some (.ref x), l1, l2, l3, l4, l5] st u ↔ GX6_isAhead w Q 9 [some (.ref x), l1, l2, l3, l4, l5] (.ref x :: st) u := WP_u (.aload_n 0) [] rfl
theorem eX6_isAhead_9 {l0 l1 l3 l4 l5 : Option Value} {st : List Value} {x : Int32} : GX6_isAhead w Q 9 [l0, l1, some (.int x), l3, l4, l5] st u ↔ GX6_isAhead w Q 10 [l0, l1, some (.int x), l3, l4, l5] (.int x :: st) u := WP_u (.iload_n 2) [] rfl
theorem eX6_isAhead_10 {l0 l1 l2 l4 l5 : Option Value} {st : List Value} {x : Int32} : GX6_isAhead w Q 10 [l0, l1, l2, some (.int x), l4, l5] st u ↔ GX6_isAhead w Q 11 [l0, l1, l2, some (.int x), l4, l5] (.int x :: st) u := WP_u (.iload_n 3) [] rfl
theorem eX6_isAhead_11 {l0 l1 l2 l3 l4 l5 : Option Value} {x0 : Int32} {x1 : Int32} {x2 : Nat} : GX6_isAhead w Q 11 [l0, l1, l2, l3, l4, l5] [.int x0, .int x1, .ref x2] u ↔ (x2 = mA w ∧ pX6_farOf x1 x0 u) ∧ GX6_isAhead w Q 14 [l0, l1, l2, l3, l4, l5] [.int (rX6_farOf x1 x0 u)] u := (WP_u (.invokevirtual 61) [] rfl).trans (ex_call ⟨Nat.le_of_ble_eq_true rfl, Nat.le_of_ble_eq_true rfl⟩)
theorem eX6_isAhead_14 {l0 l1 l2 l3 l4 l5 : Option Value} {st : List Value} {x : Int32} : GX6_isAhead w Q 14 [l0, l1, l2, l3, l4, l5] (.int x :: st) u ↔ GX6_isAhead w Q 16 [l0, l1, l2, l3, kl l4, some (.int x)] st u := (WP_u (.istore 5) [] rfl).trans (ex_drop (Nat.le_of_ble_eq_true rfl))
theorem eX6_isAhead_16 {l0 l1 l2 l3 l5 : Option Value} {st : List Value} {x : Int32} : GX6_isAhead w Q 16 [l0, l1, l2, l3, some (.int x), l5] st u ↔ GX6_isAhead w Q 18 [l0, l1, l2, l3, some (.int x), l5] (.int x :: st) u := WP_u (.iload 4) [] rfl
theorem eX6_isAhead_18 {l0 l1 l2 l3 l4 : Option Value} {st : List Value} {x : Int32} : GX6_isAhead w Q 18 [l0, l1, l2, l3, l4, some (.int x)] st u ↔ GX6_isAhead w Q 20 [l0, l1, l2, l3, l4, some (.int x)] (.int x :: st) u := WP_u (.iload 5) [] rfl
theorem eX6_isAhead_20 {l0 l1 l2 l3 l4 l5 : Option Value} {st : List Value} {x y : Int32} : GX6_isAhead w Q 20 [l0, l1, l2, l3, l4, l5] (.int y :: .int x :: st) u ↔ (x < y → GX6_isAhead w Q 45 [l0, l1, l2, l3, l4, l5] st u) ∧ (¬ (x < y) → GX6_isAhead w Q 23 [l0, l1, l2, l3, l4, l5] st u) := (WP_u (.if_icmp .lt 25) [45] rfl).trans ex_br
theorem eX6_isAhead_23 {l0 l1 l2 l3 l5 : Option Value} {st : List Value} {x : Int32} : GX6_isAhead w Q 23 [l0, l1, l2, l3, some (.int x), l5] st u ↔ GX6_isAhead w Q 25 [l0, l1, l2, l3, some (.int x), l5] (.int x :: st) u := WP_u (.iload 4) [] rfl
theorem eX6_isAhead_25 {l0 l1 l2 l3 l4 : Option Value} {st : List Value} {x : Int32} : GX6_isAhead w Q 25 [l0, l1, l2, l3, l4, some (.int x)] st u ↔ GX6_isAhead w Q 27 [l0, l1, l2, l3, l4, some (.int x)] (.int x :: st) u := WP_u (.iload 5) [] rfl
theorem eX6_isAhead_27 {l0 l1 l2 l3 l4 l5 : Option Value} {st : List Value} {x y : Int32} : GX6_isAhead w Q 27 [l0, l1, l2, l3, l4, l5] (.int y :: .int x :: st) u ↔ (¬ x = y → GX6_isAhead w Q 49 [l0, l1, l2, l3, l4, l5] st u) ∧ (¬ (¬ x = y) → GX6_isAhead w Q 30 [l0, l1, l2, l3, l4, l5] st u) := (WP_u (.if_icmp .ne 22) [49] rfl).trans ex_br
theorem eX6_isAhead_30 {l1 l2 l3 l4 l5 : Option Value} {st : List Value} {x : Nat} : GX6_isAhead w Q 30 [some (.ref x), l1, l2, l3, l4, l5] st u ↔ GX6_isAhead w Q 31 [some (.ref x), l1, l2, l3, l4, l5] (.ref x :: st) u := WP_u (.aload_n 0) [] rfl
theorem eX6_isAhead_31 {l0 l2 l3 l4 l5 : Option Value} {st : List Value} {x : Int32} : GX6_isAhead w Q 31 [l0, some (.int x), l2, l3, l4, l5] st u ↔ GX6_isAhead w Q 32 [l0, some (.int x), l2, l3, l4, l5] (.int x :: st) u := WP_u (.iload_n 1) [] rfl
theorem eX6_isAhead_32 {l0 l1 l2 l3 l4 l5 : Option Value} {st : List Value} : GX6_isAhead w Q 32 [l0, l1, l2, l3, l4, l5] st u ↔ GX6_isAhead w Q 33 [l0, l1, l2, l3, l4, l5] (.int 2 :: st) u := WP_iconst rfl (by decide)
theorem eX6_isAhead_33 {l0 l1 l2 l3 l4 l5 : Option Value} {x0 : Int32} {x1 : Int32} {x2 : Nat} : GX6_isAhead w Q 33 [l0, l1, l2, l3, l4, l5] [.int x0, .int x1, .ref x2] u ↔ (x2 = mA w ∧ pX6_man x1 x0 u) ∧ GX6_isAhead w Q 36 [l0, l1, l2, l3, l4, l5] [.int (rX6_man x1 x0 u)] u := (WP_u (.invokevirtual 54) [] rfl).trans (ex_call ⟨Nat.le_of_ble_eq_true rfl, Nat.le_of_ble_eq_true rfl⟩)
theorem eX6_isAhead_36 {l1 l2 l3 l4 l5 : Option Value} {st : List Value} {x : Nat} : GX6_isAhead w Q 36 [some (.ref x), l1, l2, l3, l4, l5] st u ↔ GX6_isAhead w Q 37 [some (.ref x), l1, l2, l3, l4, l5] (.ref x :: st) u := WP_u (.aload_n 0) [] rfl
theorem eX6_isAhead_37 {l0 l1 l3 l4 l5 : Option Value} {st : List Value} {x : Int32} : GX6_isAhead w Q 37 [l0, l1, some (.int x), l3, l4, l5] st u ↔ GX6_isAhead w Q 38 [l0, l1, some (.int x), l3, l4, l5] (.int x :: st) u := WP_u (.iload_n 2) [] rfl
theorem eX6_isAhead_38 {l0 l1 l2 l3 l4 l5 : Option Value} {st : List Value} : GX6_isAhead w Q 38 [l0, l1, l2, l3, l4, l5] st u ↔ GX6_isAhead w Q 39 [l0, l1, l2, l3, l4, l5] (.int 2 :: st) u := WP_iconst rfl (by decide)
theorem eX6_isAhead_39 {l0 l1 l2 l3 l4 l5 : Option Value} {x0 : Int32} {x1 : Int32} {x2 : Nat} {x3 : Int32} : GX6_isAhead w Q 39 [l0, l1, l2, l3, l4, l5] [.int x0, .int x1, .ref x2, .int x3] u ↔ (x2 = mA w ∧ pX6_man x1 x0 u) ∧ GX6_isAhead w Q 42 [l0, l1, l2, l3, l4, l5] [.int (rX6_man x1 x0 u), .int x3] u := (WP_u (.invokevirtual 54) [] rfl).trans (ex_call ⟨Nat.le_of_ble_eq_true rfl, Nat.le_of_ble_eq_true rfl⟩)
theorem eX6_isAhead_42 {l0 l1 l2 l3 l4 l5 : Option Value} {st : List Value} {x y : Int32} : GX6_isAhead w Q 42 [l0, l1, l2, l3, l4, l5] (.int y :: .int x :: st) u ↔ (x ≤ y → GX6_isAhead w Q 49 [l0, l1, l2, l3, l4, l5] st u) ∧ (¬ (x ≤ y) → GX6_isAhead w Q 45 [l0, l1, l2, l3, l4, l5] st u) := (WP_u (.if_icmp .le 7) [49] rfl).trans ex_br
theorem eX6_isAhead_45 {l0 l1 l2 l3 l4 l5 : Option Value} {st : List Value} : GX6_isAhead w Q 45 [l0, l1, l2, l3, l4, l5] st u ↔ GX6_isAhead w Q 46 [l0, l1, l2, l3, l4, l5] (.int 1 :: st) u := WP_iconst rfl (by decide)
theorem eX6_isAhead_46 {l0 l1 l2 l3 l4 l5 : Option Value} {st : List Value} : GX6_isAhead w Q 46 [l0, l1, l2, l3, l4, l5] st u ↔ GX6_isAhead w Q 50 [l0, l1, l2, l3, l4, l5] st u := WP_u (.goto 4) [50] rfl
theorem eX6_isAhead_49 {l0 l1 l2 l3 l4 l5 : Option Value} {st : List Value} : GX6_isAhead w Q 49 [l0, l1, l2, l3, l4, l5] st u ↔ GX6_isAhead w Q 50 [l0, l1, l2, l3, l4, l5] (.int 0 :: st) u := WP_iconst rfl (by decide)
theorem eX6_isAhead_50 {l0 l1 l2 l3 l4 l5 : Option Value} {x : Int32} : GX6_isAhead w Q 50 [l0, l1, l2, l3, l4, l5] [.int x] u ↔ nb x ∧ Q (some (.int x)) u := (WP_u (.ireturn) [] rfl).trans ex_k
end
def VX6_isAhead (w : WW) : Prop := ∀ (a1 : Int32) (a2 : Int32) (a3 : Int32) (u : MM), pX6_isAhead a1 a2 a3 u → GX6_isAhead w (fun r u' => r = some (.int (rX6_isAhead a1 a2 a3 u)) ∧ u' = u) 0 [some (.ref (mA w)), some (.int a1), some (.int a2), some (.int a3), none, none] [] u
def KX6_nextBut (w : WW) : KT := (al flX6, al ciX6, al clX6, fun _ => none, fun _ => none, al [(46, csX6_its w), (64, csX6_stands w), (68, csX6_isPage w), (71, csX6_chair w), (74, csX6_isAhead w)])
abbrev GX6_nextBut (w : WW) (Q : Option Value → MM → Prop) : Nat → LL → List Value → MM → Prop := WP w MX6_nextBut TX6_nextBut (KX6_nextBut w) Q
section
variable {w : WW} {Q : Option Value → MM → Prop} {u : MM}
theorem eX6_nextBut_0 {l0 l1 l2 l3 l4 l5 : Option Value} {st : List Value} : GX6_nextBut w Q 0 [l0, l1, l2, l3, l4, l5] st u ↔ GX6_nextBut w Q 1 [l0, l1, l2, l3, l4, l5] (.int (-1) :: st) u := WP_iconst rfl (by decide)
theorem eX6_nextBut_1 {l0 l1 l2 l3 l4 l5 : Option Value} {st : List Value} {x : Int32} : GX6_nextBut w Q 1 [l0, l1, l2, l3, l4, l5] (.int x :: st) u ↔ GX6_nextBut w Q 2 [l0, l1, kl l2, some (.int x), l4, l5] st u := (WP_u (.istore_n 3) [] rfl).trans (ex_drop (Nat.le_of_ble_eq_true rfl))
theorem eX6_nextBut_2 {l0 l1 l2 l3 l4 l5 : Option Value} {st : List Value} : GX6_nextBut w Q 2 [l0, l1, l2, l3, l4, l5] st u ↔ GX6_nextBut w Q 3 [l0, l1, l2, l3, l4, l5] (.int 0 :: st) u := WP_iconst rfl (by decide)
theorem eX6_nextBut_3 {l0 l1 l2 l3 l4 l5 : Option Value} {st : List Value} {x : Int32} : GX6_nextBut w Q 3 [l0, l1, l2, l3, l4, l5] (.int x :: st) u ↔ GX6_nextBut w Q 5 [l0, l1, l2, kl l3, some (.int x), l5] st u := (WP_u (.istore 4) [] rfl).trans (ex_drop (Nat.le_of_ble_eq_true rfl))
theorem eX6_nextBut_5 {l0 l1 l2 l3 l5 : Option Value} {st : List Value} {x : Int32} : GX6_nextBut w Q 5 [l0, l1, l2, l3, some (.int x), l5] st u ↔ GX6_nextBut w Q 7 [l0, l1, l2, l3, some (.int x), l5] (.int x :: st) u := WP_u (.iload 4) [] rfl
theorem eX6_nextBut_7 {l1 l2 l3 l4 l5 : Option Value} {st : List Value} {x : Nat} : GX6_nextBut w Q 7 [some (.ref x), l1, l2, l3, l4, l5] st u ↔ GX6_nextBut w Q 8 [some (.ref x), l1, l2, l3, l4, l5] (.ref x :: st) u := WP_u (.aload_n 0) [] rfl
theorem eX6_nextBut_8 {l0 l1 l2 l3 l4 l5 : Option Value} {st : List Value} : GX6_nextBut w Q 8 [l0, l1, l2, l3, l4, l5] st u ↔ GX6_nextBut w Q 9 [l0, l1, l2, l3, l4, l5] (.int 2 :: st) u := WP_iconst rfl (by decide)
theorem eX6_nextBut_9 {l0 l1 l2 l3 l4 l5 : Option Value} {x0 : Int32} {x1 : Nat} {x2 : Int32} : GX6_nextBut w Q 9 [l0, l1, l2, l3, l4, l5] [.int x0, .ref x1, .int x2] u ↔ (x1 = mA w ∧ pX6_its x0 u) ∧ GX6_nextBut w Q 12 [l0, l1, l2, l3, l4, l5] [.int (rX6_its x0 u), .int x2] u := (WP_u (.invokevirtual 46) [] rfl).trans (ex_call ⟨Nat.le_of_ble_eq_true rfl, Nat.le_of_ble_eq_true rfl⟩)
theorem eX6_nextBut_12 {l0 l1 l2 l3 l4 l5 : Option Value} {st : List Value} {x y : Int32} : GX6_nextBut w Q 12 [l0, l1, l2, l3, l4, l5] (.int y :: .int x :: st) u ↔ (y ≤ x → GX6_nextBut w Q 84 [l0, l1, l2, l3, l4, l5] st u) ∧ (¬ (y ≤ x) → GX6_nextBut w Q 15 [l0, l1, l2, l3, l4, l5] st u) := (WP_u (.if_icmp .ge 72) [84] rfl).trans ex_br
theorem eX6_nextBut_15 {l0 l1 l2 l3 l5 : Option Value} {st : List Value} {x : Int32} : GX6_nextBut w Q 15 [l0, l1, l2, l3, some (.int x), l5] st u ↔ GX6_nextBut w Q 17 [l0, l1, l2, l3, some (.int x), l5] (.int x :: st) u := WP_u (.iload 4) [] rfl
theorem eX6_nextBut_17 {l0 l1 l3 l4 l5 : Option Value} {st : List Value} {x : Int32} : GX6_nextBut w Q 17 [l0, l1, some (.int x), l3, l4, l5] st u ↔ GX6_nextBut w Q 18 [l0, l1, some (.int x), l3, l4, l5] (.int x :: st) u := WP_u (.iload_n 2) [] rfl
theorem eX6_nextBut_18 {l0 l1 l2 l3 l4 l5 : Option Value} {st : List Value} {x y : Int32} : GX6_nextBut w Q 18 [l0, l1, l2, l3, l4, l5] (.int y :: .int x :: st) u ↔ (x = y → GX6_nextBut w Q 43 [l0, l1, l2, l3, l4, l5] st u) ∧ (¬ (x = y) → GX6_nextBut w Q 21 [l0, l1, l2, l3, l4, l5] st u) := (WP_u (.if_icmp .eq 25) [43] rfl).trans ex_br
theorem eX6_nextBut_21 {l1 l2 l3 l4 l5 : Option Value} {st : List Value} {x : Nat} : GX6_nextBut w Q 21 [some (.ref x), l1, l2, l3, l4, l5] st u ↔ GX6_nextBut w Q 22 [some (.ref x), l1, l2, l3, l4, l5] (.ref x :: st) u := WP_u (.aload_n 0) [] rfl
theorem eX6_nextBut_22 {l0 l1 l2 l3 l5 : Option Value} {st : List Value} {x : Int32} : GX6_nextBut w Q 22 [l0, l1, l2, l3, some (.int x), l5] st u ↔ GX6_nextBut w Q 24 [l0, l1, l2, l3, some (.int x), l5] (.int x :: st) u := WP_u (.iload 4) [] rfl
theorem eX6_nextBut_24 {l0 l1 l2 l3 l4 l5 : Option Value} {x0 : Int32} {x1 : Nat} : GX6_nextBut w Q 24 [l0, l1, l2, l3, l4, l5] [.int x0, .ref x1] u ↔ (x1 = mA w ∧ pX6_stands x0 u) ∧ GX6_nextBut w Q 27 [l0, l1, l2, l3, l4, l5] [.int (rX6_stands x0 u)] u := (WP_u (.invokevirtual 64) [] rfl).trans (ex_call ⟨Nat.le_of_ble_eq_true rfl, Nat.le_of_ble_eq_true rfl⟩)
theorem eX6_nextBut_27 {l0 l1 l2 l3 l4 l5 : Option Value} {st : List Value} {x : Int32} : GX6_nextBut w Q 27 [l0, l1, l2, l3, l4, l5] (.int x :: st) u ↔ (x = 0 → GX6_nextBut w Q 43 [l0, l1, l2, l3, l4, l5] st u) ∧ (¬ (x = 0) → GX6_nextBut w Q 30 [l0, l1, l2, l3, l4, l5] st u) := (WP_u (.ifCond .eq 16) [43] rfl).trans ex_br
theorem eX6_nextBut_30 {l1 l2 l3 l4 l5 : Option Value} {st : List Value} {x : Nat} : GX6_nextBut w Q 30 [some (.ref x), l1, l2, l3, l4, l5] st u ↔ GX6_nextBut w Q 31 [some (.ref x), l1, l2, l3, l4, l5] (.ref x :: st) u := WP_u (.aload_n 0) [] rfl
theorem eX6_nextBut_31 {l0 l1 l2 l3 l5 : Option Value} {st : List Value} {x : Int32} : GX6_nextBut w Q 31 [l0, l1, l2, l3, some (.int x), l5] st u ↔ GX6_nextBut w Q 33 [l0, l1, l2, l3, some (.int x), l5] (.int x :: st) u := WP_u (.iload 4) [] rfl
theorem eX6_nextBut_33 {l0 l1 l2 l3 l4 l5 : Option Value} {x0 : Int32} {x1 : Nat} : GX6_nextBut w Q 33 [l0, l1, l2, l3, l4, l5] [.int x0, .ref x1] u ↔ (x1 = mA w ∧ pX6_isPage x0 u) ∧ GX6_nextBut w Q 36 [l0, l1, l2, l3, l4, l5] [.int (rX6_isPage x0 u)] u := (WP_u (.invokevirtual 68) [] rfl).trans (ex_call ⟨Nat.le_of_ble_eq_true rfl, Nat.le_of_ble_eq_true rfl⟩)
theorem eX6_nextBut_36 {l0 l1 l2 l3 l4 l5 : Option Value} {st : List Value} {x : Int32} : GX6_nextBut w Q 36 [l0, l1, l2, l3, l4, l5] (.int x :: st) u ↔ (¬ x = 0 → GX6_nextBut w Q 43 [l0, l1, l2, l3, l4, l5] st u) ∧ (¬ (¬ x = 0) → GX6_nextBut w Q 39 [l0, l1, l2, l3, l4, l5] st u) := (WP_u (.ifCond .ne 7) [43] rfl).trans ex_br
theorem eX6_nextBut_39 {l0 l1 l2 l3 l4 l5 : Option Value} {st : List Value} : GX6_nextBut w Q 39 [l0, l1, l2, l3, l4, l5] st u ↔ GX6_nextBut w Q 40 [l0, l1, l2, l3, l4, l5] (.int 1 :: st) u := WP_iconst rfl (by decide)
theorem eX6_nextBut_40 {l0 l1 l2 l3 l4 l5 : Option Value} {st : List Value} : GX6_nextBut w Q 40 [l0, l1, l2, l3, l4, l5] st u ↔ GX6_nextBut w Q 44 [l0, l1, l2, l3, l4, l5] st u := WP_u (.goto 4) [44] rfl
theorem eX6_nextBut_43 {l0 l1 l2 l3 l4 l5 : Option Value} {st : List Value} : GX6_nextBut w Q 43 [l0, l1, l2, l3, l4, l5] st u ↔ GX6_nextBut w Q 44 [l0, l1, l2, l3, l4, l5] (.int 0 :: st) u := WP_iconst rfl (by decide)
theorem eX6_nextBut_44 {l0 l1 l2 l3 l4 l5 : Option Value} {st : List Value} {x : Int32} : GX6_nextBut w Q 44 [l0, l1, l2, l3, l4, l5] (.int x :: st) u ↔ GX6_nextBut w Q 46 [l0, l1, l2, l3, kl l4, some (.int x)] st u := (WP_u (.istore 5) [] rfl).trans (ex_drop (Nat.le_of_ble_eq_true rfl))
theorem eX6_nextBut_46 {l0 l1 l2 l3 l4 : Option Value} {st : List Value} {x : Int32} : GX6_nextBut w Q 46 [l0, l1, l2, l3, l4, some (.int x)] st u ↔ GX6_nextBut w Q 48 [l0, l1, l2, l3, l4, some (.int x)] (.int x :: st) u := WP_u (.iload 5) [] rfl
theorem eX6_nextBut_48 {l0 l1 l2 l3 l4 l5 : Option Value} {st : List Value} {x : Int32} : GX6_nextBut w Q 48 [l0, l1, l2, l3, l4, l5] (.int x :: st) u ↔ (x = 0 → GX6_nextBut w Q 76 [l0, l1, l2, l3, l4, l5] st u) ∧ (¬ (x = 0) → GX6_nextBut w Q 51 [l0, l1, l2, l3, l4, l5] st u) := (WP_u (.ifCond .eq 28) [76] rfl).trans ex_br
theorem eX6_nextBut_51 {l0 l1 l2 l4 l5 : Option Value} {st : List Value} {x : Int32} : GX6_nextBut w Q 51 [l0, l1, l2, some (.int x), l4, l5] st u ↔ GX6_nextBut w Q 52 [l0, l1, l2, some (.int x), l4, l5] (.int x :: st) u := WP_u (.iload_n 3) [] rfl
theorem eX6_nextBut_52 {l0 l1 l2 l3 l4 l5 : Option Value} {st : List Value} {x : Int32} : GX6_nextBut w Q 52 [l0, l1, l2, l3, l4, l5] (.int x :: st) u ↔ (x < 0 → GX6_nextBut w Q 71 [l0, l1, l2, l3, l4, l5] st u) ∧ (¬ (x < 0) → GX6_nextBut w Q 55 [l0, l1, l2, l3, l4, l5] st u) := (WP_u (.ifCond .lt 19) [71] rfl).trans ex_br
theorem eX6_nextBut_55 {l1 l2 l3 l4 l5 : Option Value} {st : List Value} {x : Nat} : GX6_nextBut w Q 55 [some (.ref x), l1, l2, l3, l4, l5] st u ↔ GX6_nextBut w Q 56 [some (.ref x), l1, l2, l3, l4, l5] (.ref x :: st) u := WP_u (.aload_n 0) [] rfl
theorem eX6_nextBut_56 {l0 l1 l2 l3 l5 : Option Value} {st : List Value} {x : Int32} : GX6_nextBut w Q 56 [l0, l1, l2, l3, some (.int x), l5] st u ↔ GX6_nextBut w Q 58 [l0, l1, l2, l3, some (.int x), l5] (.int x :: st) u := WP_u (.iload 4) [] rfl
theorem eX6_nextBut_58 {l0 l1 l2 l4 l5 : Option Value} {st : List Value} {x : Int32} : GX6_nextBut w Q 58 [l0, l1, l2, some (.int x), l4, l5] st u ↔ GX6_nextBut w Q 59 [l0, l1, l2, some (.int x), l4, l5] (.int x :: st) u := WP_u (.iload_n 3) [] rfl
theorem eX6_nextBut_59 {l1 l2 l3 l4 l5 : Option Value} {st : List Value} {x : Nat} : GX6_nextBut w Q 59 [some (.ref x), l1, l2, l3, l4, l5] st u ↔ GX6_nextBut w Q 60 [some (.ref x), l1, l2, l3, l4, l5] (.ref x :: st) u := WP_u (.aload_n 0) [] rfl
theorem eX6_nextBut_60 {l0 l2 l3 l4 l5 : Option Value} {st : List Value} {x : Int32} : GX6_nextBut w Q 60 [l0, some (.int x), l2, l3, l4, l5] st u ↔ GX6_nextBut w Q 61 [l0, some (.int x), l2, l3, l4, l5] (.int x :: st) u := WP_u (.iload_n 1) [] rfl
theorem eX6_nextBut_61 {l0 l1 l2 l3 l4 l5 : Option Value} {st : List Value} : GX6_nextBut w Q 61 [l0, l1, l2, l3, l4, l5] st u ↔ GX6_nextBut w Q 62 [l0, l1, l2, l3, l4, l5] (.int 0 :: st) u := WP_iconst rfl (by decide)
theorem eX6_nextBut_62 {l0 l1 l2 l3 l4 l5 : Option Value} {x0 : Int32} {x1 : Int32} {x2 : Nat} {x3 : Int32} {x4 : Int32} {x5 : Nat} : GX6_nextBut w Q 62 [l0, l1, l2, l3, l4, l5] [.int x0, .int x1, .ref x2, .int x3, .int x4, .ref x5] u ↔ (x2 = mA w ∧ pX6_chair x1 x0 u) ∧ GX6_nextBut w Q 65 [l0, l1, l2, l3, l4, l5] [.int (rX6_chair x1 x0 u), .int x3, .int x4, .ref x5] u := (WP_u (.invokevirtual 71) [] rfl).trans (ex_call ⟨Nat.le_of_ble_eq_true rfl, Nat.le_of_ble_eq_true rfl⟩)
theorem eX6_nextBut_65 {l0 l1 l2 l3 l4 l5 : Option Value} {x0 : Int32} {x1 : Int32} {x2 : Int32} {x3 : Nat} : GX6_nextBut w Q 65 [l0, l1, l2, l3, l4, l5] [.int x0, .int x1, .int x2, .ref x3] u ↔ (x3 = mA w ∧ pX6_isAhead x2 x1 x0 u) ∧ GX6_nextBut w Q 68 [l0, l1, l2, l3, l4, l5] [.int (rX6_isAhead x2 x1 x0 u)] u := (WP_u (.invokevirtual 74) [] rfl).trans (ex_call ⟨Nat.le_of_ble_eq_true rfl, Nat.le_of_ble_eq_true rfl⟩)
theorem eX6_nextBut_68 {l0 l1 l2 l3 l4 l5 : Option Value} {st : List Value} {x : Int32} : GX6_nextBut w Q 68 [l0, l1, l2, l3, l4, l5] (.int x :: st) u ↔ (x = 0 → GX6_nextBut w Q 76 [l0, l1, l2, l3, l4, l5] st u) ∧ (¬ (x = 0) → GX6_nextBut w Q 71 [l0, l1, l2, l3, l4, l5] st u) := (WP_u (.ifCond .eq 8) [76] rfl).trans ex_br
theorem eX6_nextBut_71 {l0 l1 l2 l3 l5 : Option Value} {st : List Value} {x : Int32} : GX6_nextBut w Q 71 [l0, l1, l2, l3, some (.int x), l5] st u ↔ GX6_nextBut w Q 73 [l0, l1, l2, l3, some (.int x), l5] (.int x :: st) u := WP_u (.iload 4) [] rfl
theorem eX6_nextBut_73 {l0 l1 l2 l3 l4 l5 : Option Value} {st : List Value} : GX6_nextBut w Q 73 [l0, l1, l2, l3, l4, l5] st u ↔ GX6_nextBut w Q 77 [l0, l1, l2, l3, l4, l5] st u := WP_u (.goto 4) [77] rfl
theorem eX6_nextBut_76 {l0 l1 l2 l4 l5 : Option Value} {st : List Value} {x : Int32} : GX6_nextBut w Q 76 [l0, l1, l2, some (.int x), l4, l5] st u ↔ GX6_nextBut w Q 77 [l0, l1, l2, some (.int x), l4, l5] (.int x :: st) u := WP_u (.iload_n 3) [] rfl
theorem eX6_nextBut_77 {l0 l1 l2 l3 l4 l5 : Option Value} {st : List Value} {x : Int32} : GX6_nextBut w Q 77 [l0, l1, l2, l3, l4, l5] (.int x :: st) u ↔ GX6_nextBut w Q 78 [l0, l1, kl l2, some (.int x), l4, l5] st u := (WP_u (.istore_n 3) [] rfl).trans (ex_drop (Nat.le_of_ble_eq_true rfl))
theorem eX6_nextBut_78 {l0 l1 l2 l3 l5 : Option Value} {st : List Value} {x : Int32} : GX6_nextBut w Q 78 [l0, l1, l2, l3, some (.int x), l5] st u ↔ GX6_nextBut w Q 81 [l0, l1, l2, kl l3, some (.int (x + 1)), l5] st u := WP_iinc rfl (by decide) rfl rfl
theorem eX6_nextBut_81 {l0 l1 l2 l3 l4 l5 : Option Value} {st : List Value} : GX6_nextBut w Q 81 [l0, l1, l2, l3, l4, l5] st u ↔ GX6_nextBut w Q 5 [l0, l1, l2, l3, l4, l5] st u := WP_u (.goto (-76)) [5] rfl
theorem eX6_nextBut_84 {l0 l1 l2 l4 l5 : Option Value} {st : List Value} {x : Int32} : GX6_nextBut w Q 84 [l0, l1, l2, some (.int x), l4, l5] st u ↔ GX6_nextBut w Q 85 [l0, l1, l2, some (.int x), l4, l5] (.int x :: st) u := WP_u (.iload_n 3) [] rfl
theorem eX6_nextBut_85 {l0 l1 l2 l3 l4 l5 : Option Value} {x : Int32} : GX6_nextBut w Q 85 [l0, l1, l2, l3, l4, l5] [.int x] u ↔ Q (some (.int x)) u := (WP_u (.ireturn) [] rfl).trans (ex_ret rfl)
end
def VX6_nextBut (w : WW) : Prop := ∀ (a1 : Int32) (a2 : Int32) (u : MM), pX6_nextBut a1 a2 u → GX6_nextBut w (fun r u' => r = some (.int (rX6_nextBut a1 a2 u)) ∧ u' = u) 0 [some (.ref (mA w)), some (.int a1), some (.int a2), none, none, none] [] u
