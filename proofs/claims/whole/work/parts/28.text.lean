/-! ===== the tape's tokens ===== -/
/-- what is read of a token: sort, where it begins, the byte behind it, its number or byte, whether all was good, its word -/
abbrev TS : Type := Int32 × Int32 × Int32 × Int32 × Int32 × Int64
abbrev mkT (a b c d e : Int32) (f : Int64) : TS := (a, b, c, d, e, f)
def TS.so (t : TS) : Int32 := t.1
def TS.be (t : TS) : Int32 := t.2.1
def TS.en (t : TS) : Int32 := t.2.2.1
def TS.va (t : TS) : Int32 := t.2.2.2.1
def TS.gd (t : TS) : Int32 := t.2.2.2.2.1
def TS.wo (t : TS) : Int64 := t.2.2.2.2.2
def TS.sso (t : TS) (v : Int32) : TS := mkT v t.be t.en t.va t.gd t.wo
def TS.sbe (t : TS) (v : Int32) : TS := mkT t.so v t.en t.va t.gd t.wo
def TS.sen (t : TS) (v : Int32) : TS := mkT t.so t.be v t.va t.gd t.wo
def TS.sva (t : TS) (v : Int32) : TS := mkT t.so t.be t.en v t.gd t.wo
def TS.sgd (t : TS) (v : Int32) : TS := mkT t.so t.be t.en t.va v t.wo
def TS.swo (t : TS) (v : Int64) : TS := mkT t.so t.be t.en t.va t.gd v
def ts (u : MM) : TS := mkT (u.1 1002) (u.1 1003) (u.1 1004) (u.1 1005) (u.1 1006) (u.2 450)
def tw (u : MM) (t : TS) : MM := (fun j => if j = 1002 then t.so else if j = 1003 then t.be else if j = 1004 then t.en else if j = 1005 then t.va else if j = 1006 then t.gd else u.1 j, vp_updL u.2 450 t.wo)
theorem tw_so (u : MM) (t : TS) : (tw u t).1 1002 = t.so := rfl
theorem tw_be (u : MM) (t : TS) : (tw u t).1 1003 = t.be := rfl
theorem tw_en (u : MM) (t : TS) : (tw u t).1 1004 = t.en := rfl
theorem tw_va (u : MM) (t : TS) : (tw u t).1 1005 = t.va := rfl
theorem tw_gd (u : MM) (t : TS) : (tw u t).1 1006 = t.gd := rfl
theorem tw_wo (u : MM) (t : TS) : (tw u t).2 450 = t.wo := by simp [tw, vp_updL]
theorem tw_1 (u : MM) (t : TS) {j : Nat} (h : j < 1002 ∨ 1006 < j) : (tw u t).1 j = u.1 j := by
  simp only [tw]; rw [if_neg (by omega), if_neg (by omega), if_neg (by omega), if_neg (by omega), if_neg (by omega)]
theorem ts_tw (u : MM) (t : TS) : ts (tw u t) = t := by
  unfold ts; rw [tw_wo]; rfl
theorem tw_ts (u : MM) : tw u (ts u) = u := by
  apply Prod.ext
  · funext j
    simp only [tw, ts]
    split; { rename_i h; rw [h]; rfl }
    split; { rename_i h; rw [h]; rfl }
    split; { rename_i h; rw [h]; rfl }
    split; { rename_i h; rw [h]; rfl }
    split; { rename_i h; rw [h]; rfl }
    rfl
  · funext j
    simp only [tw, ts, vp_updL]
    split; { rename_i h; rw [h]; rfl }
    rfl
theorem tw_tw (u : MM) (t s : TS) : tw (tw u t) s = tw u s := by
  apply Prod.ext
  · funext j
    simp only [tw]
    split; { rfl }
    split; { rfl }
    split; { rfl }
    split; { rfl }
    split <;> rfl
  · funext j
    simp only [tw, vp_updL]
    split <;> rfl
theorem tw_u2 (u : MM) (t : TS) (v : Int32) : uI (tw u t) 1002 v = tw u (TS.sso t v) := by
  apply Prod.ext
  · funext j; simp only [tw, uI, upd]; split <;> rfl
  · rfl
theorem tw_u3 (u : MM) (t : TS) (v : Int32) : uI (tw u t) 1003 v = tw u (TS.sbe t v) := by
  apply Prod.ext
  · funext j; simp only [tw, uI, upd]
    by_cases h : j = 1003
    · subst h; rfl
    · rw [if_neg h, if_neg h, if_neg h]; rfl
  · rfl
theorem tw_u4 (u : MM) (t : TS) (v : Int32) : uI (tw u t) 1004 v = tw u (TS.sen t v) := by
  apply Prod.ext
  · funext j; simp only [tw, uI, upd]
    by_cases h : j = 1004
    · subst h; rfl
    · rw [if_neg h, if_neg h, if_neg h]; rfl
  · rfl
theorem tw_u5 (u : MM) (t : TS) (v : Int32) : uI (tw u t) 1005 v = tw u (TS.sva t v) := by
  apply Prod.ext
  · funext j; simp only [tw, uI, upd]
    by_cases h : j = 1005
    · subst h; rfl
    · rw [if_neg h, if_neg h, if_neg h]; rfl
  · rfl
theorem tw_u6 (u : MM) (t : TS) (v : Int32) : uI (tw u t) 1006 v = tw u (TS.sgd t v) := by
  apply Prod.ext
  · funext j; simp only [tw, uI, upd]
    by_cases h : j = 1006
    · subst h; rfl
    · rw [if_neg h, if_neg h, if_neg h]; rfl
  · rfl
theorem tw_uj (u : MM) (t : TS) (v : Int64) : uJ (tw u t) 450 v = tw u (TS.swo t v) := by
  apply Prod.ext
  · rfl
  · funext j; simp only [tw, uJ, vp_updL]; split <;> rfl
theorem tw_pv (u : MM) (t : TS) (R : Nat → Int32) : pv (tw u t) 1100 R = tw (pv u 1100 R) t := by
  apply Prod.ext
  · funext j
    simp only [pv, tw]
    by_cases h : 1100 ≤ j
    · rw [if_pos h, if_neg (by omega), if_neg (by omega), if_neg (by omega), if_neg (by omega), if_neg (by omega), if_pos h]
    · rw [if_neg h, if_neg h]
  · rfl
theorem tw_R6 (u : MM) (t : TS) : R6 (tw u t) = R6 u := by funext i; exact tw_1 u t (by omega)
/-- the bytes, -1 beyond them -/
def bt (u : MM) (k : Nat) : Int32 := if k < NN (u.1 1001) then u.1 (1320 + k) else -1
theorem bt_tw (u : MM) (t : TS) : bt (tw u t) = bt u := by
  funext k; simp only [bt]; rw [tw_1 u t (by omega), tw_1 u t (by omega)]
abbrev isLt (b : Int32) : Prop := 97 ≤ b ∧ b ≤ 122
abbrev isDg (b : Int32) : Prop := 48 ≤ b ∧ b ≤ 57
def scn (p : Int32 → Prop) [DecidablePred p] (B : Nat → Int32) : Nat → Nat → Nat
  | 0, j => j
  | f + 1, j => if p (B j) then scn p B f (j + 1) else j
/-- a word's number -/
def hsh (B : Nat → Int32) (s : Nat) : Nat → Int64
  | 0 => 0
  | n + 1 => if n < 12 then 27 * hsh B s n + (B (s + n)).toInt64 - 96 else -1
def nmb (B : Nat → Int32) (s : Nat) : Nat → Int32
  | 0 => 0
  | n + 1 => if 999 < nmb B s n then 10000 else 10 * nmb B s n + B (s + n) - 48
def tkB (B : Nat → Int32) (L e : Nat) : Nat := scn (· = 32) B (L - e) e
def srt (b : Int32) : Int32 := if b < 0 then 0 else if isLt b then 1 else if isDg b then 2 else 3
def tkE (B : Nat → Int32) (L s : Nat) : Nat := if B s < 0 then s else if isLt (B s) then scn isLt B (L - s) s else if isDg (B s) then scn isDg B (L - s) s else s + 1
def adv (B : Nat → Int32) (L : Nat) (t : TS) : TS :=
  mkT (srt (B (tkB B L (NN t.en)))) (nI (tkB B L (NN t.en))) (nI (tkE B L (tkB B L (NN t.en))))
    (if srt (B (tkB B L (NN t.en))) = 2 then nmb B (tkB B L (NN t.en)) (tkE B L (tkB B L (NN t.en)) - tkB B L (NN t.en)) else B (tkB B L (NN t.en)))
    t.gd
    (if srt (B (tkB B L (NN t.en))) = 1 then hsh B (tkB B L (NN t.en)) (tkE B L (tkB B L (NN t.en)) - tkB B L (NN t.en)) else 0)
/-- the place behind the token lies on the tape -/
def X6 (u : MM) : Prop := (∃ L, L ≤ 120 ∧ u.1 1001 = nI L) ∧ ∃ e, e ≤ NN (u.1 1001) ∧ u.1 1004 = nI e
abbrev tL (u : MM) : Nat := NN (u.1 1001)
def pX6_byteAt (k : Int32) (u : MM) : Prop := (∃ L, L ≤ 120 ∧ u.1 1001 = nI L) ∧ ∃ e, e < 2 ^ 31 ∧ k = nI e
def rX6_byteAt (k : Int32) (u : MM) : Int32 := bt u (NN k)
def pX6_isLetter (_ : Int32) (_ : MM) : Prop := True
def rX6_isLetter (b : Int32) (_ : MM) : Int32 := bi (isLt b)
def pX6_isDigit (_ : Int32) (_ : MM) : Prop := True
def rX6_isDigit (b : Int32) (_ : MM) : Int32 := bi (isDg b)
def pX6_advance (u : MM) : Prop := X6 u
def mX6_advance (u : MM) : MM := tw u (adv (bt u) (tL u) (ts u))
abbrev isW (t : TS) (x : Int64) : Prop := t.so = 1 ∧ t.wo = x
def pX6_isWord (_ : Int64) (_ : MM) : Prop := True
def rX6_isWord (x : Int64) (u : MM) : Int32 := bi (isW (ts u) x)
def kH (t : TS) : Int32 := if isW t 37503660303 then 0 else if isW t 4421 then 1 else if isW t 315851 then 2 else if isW t 7656243178 then 3 else if isW t 2401198578 then 4 else if isW t 70400 then 5 else -1
def pX6_kindHere (_ : MM) : Prop := True
def rX6_kindHere (u : MM) : Int32 := kH (ts u)
def wN (B : Nat → Int32) (L : Nat) (l m : Int32) (t : TS) : TS := if ¬ t.gd = 0 ∧ t.so = 2 ∧ l ≤ t.va ∧ t.va ≤ m then adv B L (TS.sgd t 1) else (TS.sgd t 0)
def pX6_wantNumber (_ _ : Int32) (u : MM) : Prop := X6 u
def rX6_wantNumber (_l _m : Int32) (u : MM) : Int32 := u.1 1005
def mX6_wantNumber (l m : Int32) (u : MM) : MM := tw u (wN (bt u) (tL u) l m (ts u))
def mW (B : Nat → Int32) (L : Nat) (x : Int64) (l m o : Int32) (t : TS) : Int32 × TS := if t.gd = 0 ∨ ¬ isW t x then (o, t) else ((adv B L t).va, wN B L l m (adv B L t))
def pX6_mayWant (_ : Int64) (_ _ _ : Int32) (u : MM) : Prop := X6 u
def rX6_mayWant (x : Int64) (l m o : Int32) (u : MM) : Int32 := (mW (bt u) (tL u) x l m o (ts u)).1
def mX6_mayWant (x : Int64) (l m o : Int32) (u : MM) : MM := tw u (mW (bt u) (tL u) x l m o (ts u)).2
def wT1 (B : Nat → Int32) (L : Nat) (R : Nat → Int32) (t : TS) : TS := if R 1 < 6 then adv B L (TS.sgd t 1) else (TS.sgd t 0)
def wT2 (R : Nat → Int32) (t : TS) : TS := TS.sgd t (bi (¬ t.gd = 0 ∧ t.so = 2 ∧ ¬ hs R t.va (NN (R 1)) = true))
def wSeat (B : Nat → Int32) (L : Nat) (R : Nat → Int32) (t : TS) : (Nat → Int32) × TS :=
  let t2 := wT2 R (wT1 B L R t)
  let p := mW B L 12532058 0 99 5 (wN B L 0 99 t2)
  (if p.2.gd = 0 then R else seatAdd R t2.va p.1, p.2)
def wO1 (B : Nat → Int32) (L : Nat) (R : Nat → Int32) (t : TS) : TS := if R 2 < 10 then adv B L (TS.sgd t 1) else (TS.sgd t 0)
def wOne (B : Nat → Int32) (L : Nat) (k : Int32) (R : Nat → Int32) (t : TS) : (Nat → Int32) × TS :=
  let t1 := wO1 B L R t
  let p := mW B L 404749 0 99 0 (wN B L 0 99 t1)
  let q := mW B L 12253591 0 (R 1 - 1) (-1) p.2
  (if q.2.gd = 0 then R else oneAdd R k t1.va p.1 q.1, q.2)
def wC2 (R : Nat → Int32) (t : TS) : TS := TS.sgd t (bi (t.so = 2 ∧ isSt R t.va ∧ ¬ se R (NN t.va) 2 < 0))
def wCough (B : Nat → Int32) (L : Nat) (R : Nat → Int32) (t : TS) : (Nat → Int32) × TS :=
  let t2 := wC2 R (adv B L t)
  let t3 := wN B L 0 6 t2
  (if t3.gd = 0 then R else risesP R t2.va, t3)
def wItem (B : Nat → Int32) (L : Nat) (R : Nat → Int32) (t : TS) : (Nat → Int32) × TS := if isW t 377669 then wSeat B L R t else if isW t 1905074 then wCough B L R t else if ¬ kH t < 0 then wOne B L (kH t) R t else (R, (TS.sgd t 0))
theorem mk_so (a b c d e : Int32) (f : Int64) : TS.so (mkT a b c d e f) = a := rfl
theorem mk_be (a b c d e : Int32) (f : Int64) : TS.be (mkT a b c d e f) = b := rfl
theorem mk_en (a b c d e : Int32) (f : Int64) : TS.en (mkT a b c d e f) = c := rfl
theorem mk_va (a b c d e : Int32) (f : Int64) : TS.va (mkT a b c d e f) = d := rfl
theorem mk_gd (a b c d e : Int32) (f : Int64) : TS.gd (mkT a b c d e f) = e := rfl
theorem mk_wo (a b c d e : Int32) (f : Int64) : TS.wo (mkT a b c d e f) = f := rfl
theorem mk_sso (a b c d e : Int32) (f : Int64) (v : Int32) : TS.sso (mkT a b c d e f) v = mkT v b c d e f := rfl
theorem mk_sbe (a b c d e : Int32) (f : Int64) (v : Int32) : TS.sbe (mkT a b c d e f) v = mkT a v c d e f := rfl
theorem mk_sen (a b c d e : Int32) (f : Int64) (v : Int32) : TS.sen (mkT a b c d e f) v = mkT a b v d e f := rfl
theorem mk_sva (a b c d e : Int32) (f : Int64) (v : Int32) : TS.sva (mkT a b c d e f) v = mkT a b c v e f := rfl
theorem mk_sgd (a b c d e : Int32) (f : Int64) (v : Int32) : TS.sgd (mkT a b c d e f) v = mkT a b c d v f := rfl
theorem mk_swo (a b c d e : Int32) (f : Int64) (v : Int64) : TS.swo (mkT a b c d e f) v = mkT a b c d e v := rfl
def MX6_byteAt : MI := (cX6_byteAt, 2, some .int, RX6, { frames := 0, cells := 0, slots := 0, locals := 0 })
def TX6_byteAt : TB := [(0, .iload_n 1, 1, []), (1, .aload_n 0, 1, []), (2, .getfield 184, 3, []), (5, .if_icmp .ge 12, 3, [17]), (8, .aload_n 0, 1, []), (9, .getfield 19, 3, []), (12, .iload_n 1, 1, []), (13, .iaload, 1, []), (14, .goto 4, 3, [18]), (17, .iconst (-1), 1, []), (18, .ireturn, 1, [])]
set_option maxRecDepth 20000 in
theorem TX6_byteAt_ok : TX6_byteAt.all (chk MX6_byteAt.1) = true := by decide +kernel
theorem TX6_byteAt_v : TX6_byteAt.all vOk = true := by decide +kernel
def csX6_byteAt (w : WW) : CS := (2, fun as u => match as with | [.ref a0, .int a1] => a0 = mA w ∧ pX6_byteAt a1 u | _ => False, fun as u => match as with | [.ref a0, .int a1] => (some (.int (rX6_byteAt a1 u)), u) | _ => (none, u))
def MX6_isLetter : MI := (cX6_isLetter, 1, some .boolean, RX6, { frames := 1, cells := 0, slots := 0, locals := 22 })
def TX6_isLetter : TB := [(0, .iload_n 0, 1, []), (1, .bipush 97, 2, []), (3, .bipush 122, 2, []), (5, .invokestatic 50, 3, []), (8, .ireturn, 1, [])]
set_option maxRecDepth 20000 in
theorem TX6_isLetter_ok : TX6_isLetter.all (chk MX6_isLetter.1) = true := by decide +kernel
theorem TX6_isLetter_v : TX6_isLetter.all vOk = true := by decide +kernel
def csX6_isLetter (w : WW) : CS := (1, fun as u => match as with | [.int a0] => pX6_isLetter a0 u | _ => False, fun as u => match as with | [.int a0] => (some (.int (rX6_isLetter a0 u)), u) | _ => (none, u))
def MX6_isDigit : MI := (cX6_isDigit, 1, some .boolean, RX6, { frames := 1, cells := 0, slots := 0, locals := 22 })
def TX6_isDigit : TB := [(0, .iload_n 0, 1, []), (1, .bipush 48, 2, []), (3, .bipush 57, 2, []), (5, .invokestatic 50, 3, []), (8, .ireturn, 1, [])]
set_option maxRecDepth 20000 in
theorem TX6_isDigit_ok : TX6_isDigit.all (chk MX6_isDigit.1) = true := by decide +kernel
theorem TX6_isDigit_v : TX6_isDigit.all vOk = true := by decide +kernel
def csX6_isDigit (w : WW) : CS := (1, fun as u => match as with | [.int a0] => pX6_isDigit a0 u | _ => False, fun as u => match as with | [.int a0] => (some (.int (rX6_isDigit a0 u)), u) | _ => (none, u))
def MX6_advance : MI := (cX6_advance, 2, none, RX6, { frames := 2, cells := 0, slots := 0, locals := 42 })
def TX6_advance : TB := [(0, .aload_n 0, 1, []), (1, .aload_n 0, 1, []), (2, .getfield 187, 3, []), (5, .putfield 190, 3, []), (8, .aload_n 0, 1, []), (9, .aload_n 0, 1, []), (10, .getfield 190, 3, []), (13, .invokevirtual 193, 3, []), (16, .bipush 32, 2, []), (18, .if_icmp .ne 16, 3, [34]), (21, .aload_n 0, 1, []), (22, .dup, 1, []), (23, .getfield 190, 3, []), (26, .iconst 1, 1, []), (27, .iadd, 1, []), (28, .putfield 190, 3, []), (31, .goto (-23), 3, [8]), (34, .aload_n 0, 1, []), (35, .aload_n 0, 1, []), (36, .getfield 190, 3, []), (39, .putfield 187, 3, []), (42, .aload_n 0, 1, []), (43, .aload_n 0, 1, []), (44, .getfield 190, 3, []), (47, .invokevirtual 193, 3, []), (50, .istore_n 1, 1, []), (51, .aload_n 0, 1, []), (52, .iload_n 1, 1, []), (53, .ifCond .ge 7, 3, [60]), (56, .iconst 0, 1, []), (57, .goto 26, 3, [83]), (60, .iload_n 1, 1, []), (61, .invokestatic 196, 3, []), (64, .ifCond .eq 7, 3, [71]), (67, .iconst 1, 1, []), (68, .goto 15, 3, [83]), (71, .iload_n 1, 1, []), (72, .invokestatic 199, 3, []), (75, .ifCond .eq 7, 3, [82]), (78, .iconst 2, 1, []), (79, .goto 4, 3, [83]), (82, .iconst 3, 1, []), (83, .putfield 202, 3, []), (86, .aload_n 0, 1, []), (87, .lconst 0, 1, []), (88, .putfield 205, 3, []), (91, .aload_n 0, 1, []), (92, .aload_n 0, 1, []), (93, .getfield 202, 3, []), (96, .iconst 2, 1, []), (97, .if_icmp .ne 7, 3, [104]), (100, .iconst 0, 1, []), (101, .goto 4, 3, [105]), (104, .iload_n 1, 1, []), (105, .putfield 209, 3, []), (108, .aload_n 0, 1, []), (109, .getfield 202, 3, []), (112, .iconst 3, 1, []), (113, .if_icmp .ne 13, 3, [126]), (116, .aload_n 0, 1, []), (117, .dup, 1, []), (118, .getfield 187, 3, []), (121, .iconst 1, 1, []), (122, .iadd, 1, []), (123, .putfield 187, 3, []), (126, .aload_n 0, 1, []), (127, .getfield 202, 3, []), (130, .iconst 1, 1, []), (131, .if_icmp .ne 76, 3, [207]), (134, .aload_n 0, 1, []), (135, .aload_n 0, 1, []), (136, .getfield 187, 3, []), (139, .invokevirtual 193, 3, []), (142, .invokestatic 196, 3, []), (145, .ifCond .eq 62, 3, [207]), (148, .aload_n 0, 1, []), (149, .aload_n 0, 1, []), (150, .getfield 187, 3, []), (153, .aload_n 0, 1, []), (154, .getfield 190, 3, []), (157, .isub, 1, []), (158, .bipush 12, 2, []), (160, .if_icmp .ge 28, 3, [188]), (163, .ldc2_w 212, 3, []), (166, .aload_n 0, 1, []), (167, .getfield 205, 3, []), (170, .lmul, 1, []), (171, .aload_n 0, 1, []), (172, .aload_n 0, 1, []), (173, .getfield 187, 3, []), (176, .invokevirtual 193, 3, []), (179, .i2l, 1, []), (180, .ladd, 1, []), (181, .ldc2_w 214, 3, []), (184, .lsub, 1, []), (185, .goto 6, 3, [191]), (188, .ldc2_w 216, 3, []), (191, .putfield 205, 3, []), (194, .aload_n 0, 1, []), (195, .dup, 1, []), (196, .getfield 187, 3, []), (199, .iconst 1, 1, []), (200, .iadd, 1, []), (201, .putfield 187, 3, []), (204, .goto (-78), 3, [126]), (207, .aload_n 0, 1, []), (208, .getfield 202, 3, []), (211, .iconst 2, 1, []), (212, .if_icmp .ne 69, 3, [281]), (215, .aload_n 0, 1, []), (216, .aload_n 0, 1, []), (217, .getfield 187, 3, []), (220, .invokevirtual 193, 3, []), (223, .invokestatic 199, 3, []), (226, .ifCond .eq 55, 3, [281]), (229, .aload_n 0, 1, []), (230, .aload_n 0, 1, []), (231, .getfield 209, 3, []), (234, .sipush 999, 3, []), (237, .if_icmp .le 9, 3, [246]), (240, .sipush 10000, 3, []), (243, .goto 22, 3, [265]), (246, .bipush 10, 2, []), (248, .aload_n 0, 1, []), (249, .getfield 209, 3, []), (252, .imul, 1, []), (253, .aload_n 0, 1, []), (254, .aload_n 0, 1, []), (255, .getfield 187, 3, []), (258, .invokevirtual 193, 3, []), (261, .iadd, 1, []), (262, .bipush 48, 2, []), (264, .isub, 1, []), (265, .putfield 209, 3, []), (268, .aload_n 0, 1, []), (269, .dup, 1, []), (270, .getfield 187, 3, []), (273, .iconst 1, 1, []), (274, .iadd, 1, []), (275, .putfield 187, 3, []), (278, .goto (-71), 3, [207]), (281, .return_, 1, [])]
set_option maxRecDepth 20000 in
theorem TX6_advance_ok : TX6_advance.all (chk MX6_advance.1) = true := by decide +kernel
theorem TX6_advance_v : TX6_advance.all vOk = true := by decide +kernel
def csX6_advance (w : WW) : CS := (1, fun as u => match as with | [.ref a0] => a0 = mA w ∧ pX6_advance u | _ => False, fun as u => match as with | [.ref a0] => (none, (mX6_advance u)) | _ => (none, u))
def MX6_isWord : MI := (cX6_isWord, 3, some .boolean, RX6, { frames := 0, cells := 0, slots := 0, locals := 0 })
def TX6_isWord : TB := [(0, .aload_n 0, 1, []), (1, .getfield 202, 3, []), (4, .iconst 1, 1, []), (5, .if_icmp .ne 16, 3, [21]), (8, .aload_n 0, 1, []), (9, .getfield 205, 3, []), (12, .lload_n 1, 1, []), (13, .lcmp, 1, []), (14, .ifCond .ne 7, 3, [21]), (17, .iconst 1, 1, []), (18, .goto 4, 3, [22]), (21, .iconst 0, 1, []), (22, .ireturn, 1, [])]
set_option maxRecDepth 20000 in
theorem TX6_isWord_ok : TX6_isWord.all (chk MX6_isWord.1) = true := by decide +kernel
theorem TX6_isWord_v : TX6_isWord.all vOk = true := by decide +kernel
def csX6_isWord (w : WW) : CS := (2, fun as u => match as with | [.ref a0, .long a1] => a0 = mA w ∧ pX6_isWord a1 u | _ => False, fun as u => match as with | [.ref a0, .long a1] => (some (.int (rX6_isWord a1 u)), u) | _ => (none, u))
def MX6_kindHere : MI := (cX6_kindHere, 1, some .int, RX6, { frames := 1, cells := 0, slots := 0, locals := 22 })
def TX6_kindHere : TB := [(0, .aload_n 0, 1, []), (1, .ldc2_w 218, 3, []), (4, .invokevirtual 220, 3, []), (7, .ifCond .eq 7, 3, [14]), (10, .iconst 0, 1, []), (11, .goto 74, 3, [85]), (14, .aload_n 0, 1, []), (15, .ldc2_w 224, 3, []), (18, .invokevirtual 220, 3, []), (21, .ifCond .eq 7, 3, [28]), (24, .iconst 1, 1, []), (25, .goto 60, 3, [85]), (28, .aload_n 0, 1, []), (29, .ldc2_w 226, 3, []), (32, .invokevirtual 220, 3, []), (35, .ifCond .eq 7, 3, [42]), (38, .iconst 2, 1, []), (39, .goto 46, 3, [85]), (42, .aload_n 0, 1, []), (43, .ldc2_w 228, 3, []), (46, .invokevirtual 220, 3, []), (49, .ifCond .eq 7, 3, [56]), (52, .iconst 3, 1, []), (53, .goto 32, 3, [85]), (56, .aload_n 0, 1, []), (57, .ldc2_w 230, 3, []), (60, .invokevirtual 220, 3, []), (63, .ifCond .eq 7, 3, [70]), (66, .iconst 4, 1, []), (67, .goto 18, 3, [85]), (70, .aload_n 0, 1, []), (71, .ldc2_w 232, 3, []), (74, .invokevirtual 220, 3, []), (77, .ifCond .eq 7, 3, [84]), (80, .iconst 5, 1, []), (81, .goto 4, 3, [85]), (84, .iconst (-1), 1, []), (85, .ireturn, 1, [])]
set_option maxRecDepth 20000 in
theorem TX6_kindHere_ok : TX6_kindHere.all (chk MX6_kindHere.1) = true := by decide +kernel
theorem TX6_kindHere_v : TX6_kindHere.all vOk = true := by decide +kernel
def csX6_kindHere (w : WW) : CS := (1, fun as u => match as with | [.ref a0] => a0 = mA w ∧ pX6_kindHere u | _ => False, fun as u => match as with | [.ref a0] => (some (.int (rX6_kindHere u)), u) | _ => (none, u))
def MX6_wantNumber : MI := (cX6_wantNumber, 4, some .int, RX6, { frames := 3, cells := 0, slots := 0, locals := 63 })
def TX6_wantNumber : TB := [(0, .aload_n 0, 1, []), (1, .getfield 209, 3, []), (4, .istore_n 3, 1, []), (5, .aload_n 0, 1, []), (6, .aload_n 0, 1, []), (7, .getfield 234, 3, []), (10, .ifCond .eq 24, 3, [34]), (13, .aload_n 0, 1, []), (14, .getfield 202, 3, []), (17, .iconst 2, 1, []), (18, .if_icmp .ne 16, 3, [34]), (21, .iload_n 3, 1, []), (22, .iload_n 1, 1, []), (23, .iload_n 2, 1, []), (24, .invokestatic 50, 3, []), (27, .ifCond .eq 7, 3, [34]), (30, .iconst 1, 1, []), (31, .goto 4, 3, [35]), (34, .iconst 0, 1, []), (35, .putfield 234, 3, []), (38, .aload_n 0, 1, []), (39, .getfield 234, 3, []), (42, .ifCond .eq 7, 3, [49]), (45, .aload_n 0, 1, []), (46, .invokevirtual 238, 3, []), (49, .iload_n 3, 1, []), (50, .ireturn, 1, [])]
set_option maxRecDepth 20000 in
theorem TX6_wantNumber_ok : TX6_wantNumber.all (chk MX6_wantNumber.1) = true := by decide +kernel
theorem TX6_wantNumber_v : TX6_wantNumber.all vOk = true := by decide +kernel
def csX6_wantNumber (w : WW) : CS := (3, fun as u => match as with | [.ref a0, .int a1, .int a2] => a0 = mA w ∧ pX6_wantNumber a1 a2 u | _ => False, fun as u => match as with | [.ref a0, .int a1, .int a2] => (some (.int (rX6_wantNumber a1 a2 u)), (mX6_wantNumber a1 a2 u)) | _ => (none, u))
def MX6_mayWant : MI := (cX6_mayWant, 6, some .int, RX6, { frames := 4, cells := 0, slots := 0, locals := 86 })
def TX6_mayWant : TB := [(0, .aload_n 0, 1, []), (1, .getfield 234, 3, []), (4, .ifCond .eq 11, 3, [15]), (7, .aload_n 0, 1, []), (8, .lload_n 1, 1, []), (9, .invokevirtual 220, 3, []), (12, .ifCond .ne 6, 3, [18]), (15, .iload 5, 2, []), (17, .ireturn, 1, []), (18, .aload_n 0, 1, []), (19, .invokevirtual 238, 3, []), (22, .aload_n 0, 1, []), (23, .iload_n 3, 1, []), (24, .iload 4, 2, []), (26, .invokevirtual 241, 3, []), (29, .ireturn, 1, [])]
set_option maxRecDepth 20000 in
theorem TX6_mayWant_ok : TX6_mayWant.all (chk MX6_mayWant.1) = true := by decide +kernel
theorem TX6_mayWant_v : TX6_mayWant.all vOk = true := by decide +kernel
def csX6_mayWant (w : WW) : CS := (5, fun as u => match as with | [.ref a0, .long a1, .int a2, .int a3, .int a4] => a0 = mA w ∧ pX6_mayWant a1 a2 a3 a4 u | _ => False, fun as u => match as with | [.ref a0, .long a1, .int a2, .int a3, .int a4] => (some (.int (rX6_mayWant a1 a2 a3 a4 u)), (mX6_mayWant a1 a2 a3 a4 u)) | _ => (none, u))
def KX6_byteAt (w : WW) : KT := (al flX6, al ciX6, al clX6, fun _ => none, fun _ => none, al [])
abbrev GX6_byteAt (w : WW) (Q : Option Value → MM → Prop) : Nat → LL → List Value → MM → Prop := WP w MX6_byteAt TX6_byteAt (KX6_byteAt w) Q
section
variable {w : WW} {Q : Option Value → MM → Prop} {u : MM}
theorem eX6_byteAt_0 {l0 : Option Value} {st : List Value} {x : Int32} : GX6_byteAt w Q 0 [l0, some (.int x)] st u ↔ GX6_byteAt w Q 1 [l0, some (.int x)] (.int x :: st) u := WP_u (.iload_n 1) [] rfl
theorem eX6_byteAt_1 {l1 : Option Value} {st : List Value} {x : Nat} : GX6_byteAt w Q 1 [some (.ref x), l1] st u ↔ GX6_byteAt w Q 2 [some (.ref x), l1] (.ref x :: st) u := WP_u (.aload_n 0) [] rfl
theorem eX6_byteAt_2 {l0 l1 : Option Value} {st : List Value} {a : Nat} : GX6_byteAt w Q 2 [l0, l1] (.ref a :: st) u ↔ okI w a 6 5 ∧ GX6_byteAt w Q 5 [l0, l1] (.int (u.1 (ixI w a 5)) :: st) u := (WP_u (.getfield 184) [] rfl).trans ex_and
theorem eX6_byteAt_5 {l0 l1 : Option Value} {st : List Value} {x y : Int32} : GX6_byteAt w Q 5 [l0, l1] (.int y :: .int x :: st) u ↔ (y ≤ x → GX6_byteAt w Q 17 [l0, l1] st u) ∧ (¬ (y ≤ x) → GX6_byteAt w Q 8 [l0, l1] st u) := (WP_u (.if_icmp .ge 12) [17] rfl).trans ex_br
theorem eX6_byteAt_8 {l1 : Option Value} {st : List Value} {x : Nat} : GX6_byteAt w Q 8 [some (.ref x), l1] st u ↔ GX6_byteAt w Q 9 [some (.ref x), l1] (.ref x :: st) u := WP_u (.aload_n 0) [] rfl
theorem eX6_byteAt_9 {l0 l1 : Option Value} {st : List Value} {a : Nat} : GX6_byteAt w Q 9 [l0, l1] (.ref a :: st) u ↔ okR w a 6 4 ∧ GX6_byteAt w Q 12 [l0, l1] (.ref (rfF w a 4) :: st) u := (WP_u (.getfield 19) [] rfl).trans ex_and
theorem eX6_byteAt_12 {l0 : Option Value} {st : List Value} {x : Int32} : GX6_byteAt w Q 12 [l0, some (.int x)] st u ↔ GX6_byteAt w Q 13 [l0, some (.int x)] (.int x :: st) u := WP_u (.iload_n 1) [] rfl
theorem eX6_byteAt_13 {l0 l1 : Option Value} {st : List Value} {a : Nat} {i : Int32} : GX6_byteAt w Q 13 [l0, l1] (.int i :: .ref a :: st) u ↔ okAI w a i ∧ GX6_byteAt w Q 14 [l0, l1] (.int (rdA w u a i) :: st) u := (WP_u (.iaload) [] rfl).trans ex_and
theorem eX6_byteAt_14 {l0 l1 : Option Value} {st : List Value} : GX6_byteAt w Q 14 [l0, l1] st u ↔ GX6_byteAt w Q 18 [l0, l1] st u := WP_u (.goto 4) [18] rfl
theorem eX6_byteAt_17 {l0 l1 : Option Value} {st : List Value} : GX6_byteAt w Q 17 [l0, l1] st u ↔ GX6_byteAt w Q 18 [l0, l1] (.int (-1) :: st) u := WP_iconst rfl (by decide)
theorem eX6_byteAt_18 {l0 l1 : Option Value} {x : Int32} : GX6_byteAt w Q 18 [l0, l1] [.int x] u ↔ Q (some (.int x)) u := (WP_u (.ireturn) [] rfl).trans (ex_ret rfl)
end
def VX6_byteAt (w : WW) : Prop := ∀ (a1 : Int32) (u : MM), pX6_byteAt a1 u → GX6_byteAt w (fun r u' => r = some (.int (rX6_byteAt a1 u)) ∧ u' = u) 0 [some (.ref (mA w)), some (.int a1)] [] u
def KX6_isLetter (w : WW) : KT := (al flX6, al ciX6, al clX6, fun _ => none, fun _ => none, al [(65586, csX6_in w)])
abbrev GX6_isLetter (w : WW) (Q : Option Value → MM → Prop) : Nat → LL → List Value → MM → Prop := WP w MX6_isLetter TX6_isLetter (KX6_isLetter w) Q
section
variable {w : WW} {Q : Option Value → MM → Prop} {u : MM}
theorem eX6_isLetter_0 {st : List Value} {x : Int32} : GX6_isLetter w Q 0 [some (.int x)] st u ↔ GX6_isLetter w Q 1 [some (.int x)] (.int x :: st) u := WP_u (.iload_n 0) [] rfl
theorem eX6_isLetter_1 {l0 : Option Value} {st : List Value} : GX6_isLetter w Q 1 [l0] st u ↔ GX6_isLetter w Q 3 [l0] (.int 97 :: st) u := WP_bipush rfl (by decide)
theorem eX6_isLetter_3 {l0 : Option Value} {st : List Value} : GX6_isLetter w Q 3 [l0] st u ↔ GX6_isLetter w Q 5 [l0] (.int 122 :: st) u := WP_bipush rfl (by decide)
theorem eX6_isLetter_5 {l0 : Option Value} {x0 : Int32} {x1 : Int32} {x2 : Int32} : GX6_isLetter w Q 5 [l0] [.int x0, .int x1, .int x2] u ↔ (pX6_in x2 x1 x0 u) ∧ GX6_isLetter w Q 8 [l0] [.int (rX6_in x2 x1 x0 u)] u := (WP_u (.invokestatic 50) [] rfl).trans (ex_call ⟨Nat.le_of_ble_eq_true rfl, Nat.le_of_ble_eq_true rfl⟩)
theorem eX6_isLetter_8 {l0 : Option Value} {x : Int32} : GX6_isLetter w Q 8 [l0] [.int x] u ↔ nb x ∧ Q (some (.int x)) u := (WP_u (.ireturn) [] rfl).trans ex_k
end
def VX6_isLetter (w : WW) : Prop := ∀ (a0 : Int32) (u : MM), pX6_isLetter a0 u → GX6_isLetter w (fun r u' => r = some (.int (rX6_isLetter a0 u)) ∧ u' = u) 0 [some (.int a0)] [] u
def KX6_isDigit (w : WW) : KT := (al flX6, al ciX6, al clX6, fun _ => none, fun _ => none, al [(65586, csX6_in w)])
abbrev GX6_isDigit (w : WW) (Q : Option Value → MM → Prop) : Nat → LL → List Value → MM → Prop := WP w MX6_isDigit TX6_isDigit (KX6_isDigit w) Q
section
variable {w : WW} {Q : Option Value → MM → Prop} {u : MM}
theorem eX6_isDigit_0 {st : List Value} {x : Int32} : GX6_isDigit w Q 0 [some (.int x)] st u ↔ GX6_isDigit w Q 1 [some (.int x)] (.int x :: st) u := WP_u (.iload_n 0) [] rfl
theorem eX6_isDigit_1 {l0 : Option Value} {st : List Value} : GX6_isDigit w Q 1 [l0] st u ↔ GX6_isDigit w Q 3 [l0] (.int 48 :: st) u := WP_bipush rfl (by decide)
theorem eX6_isDigit_3 {l0 : Option Value} {st : List Value} : GX6_isDigit w Q 3 [l0] st u ↔ GX6_isDigit w Q 5 [l0] (.int 57 :: st) u := WP_bipush rfl (by decide)
theorem eX6_isDigit_5 {l0 : Option Value} {x0 : Int32} {x1 : Int32} {x2 : Int32} : GX6_isDigit w Q 5 [l0] [.int x0, .int x1, .int x2] u ↔ (pX6_in x2 x1 x0 u) ∧ GX6_isDigit w Q 8 [l0] [.int (rX6_in x2 x1 x0 u)] u := (WP_u (.invokestatic 50) [] rfl).trans (ex_call ⟨Nat.le_of_ble_eq_true rfl, Nat.le_of_ble_eq_true rfl⟩)
theorem eX6_isDigit_8 {l0 : Option Value} {x : Int32} : GX6_isDigit w Q 8 [l0] [.int x] u ↔ nb x ∧ Q (some (.int x)) u := (WP_u (.ireturn) [] rfl).trans ex_k
end
def VX6_isDigit (w : WW) : Prop := ∀ (a0 : Int32) (u : MM), pX6_isDigit a0 u → GX6_isDigit w (fun r u' => r = some (.int (rX6_isDigit a0 u)) ∧ u' = u) 0 [some (.int a0)] [] u
def KX6_advance (w : WW) : KT := (al flX6, al ciX6, al clX6, fun _ => none, fun _ => none, al [(193, csX6_byteAt w), (65732, csX6_isLetter w), (65735, csX6_isDigit w)])
abbrev GX6_advance (w : WW) (Q : Option Value → MM → Prop) : Nat → LL → List Value → MM → Prop := WP w MX6_advance TX6_advance (KX6_advance w) Q
section
variable {w : WW} {Q : Option Value → MM → Prop} {u : MM}
theorem eX6_advance_0 {l1 : Option Value} {st : List Value} {x : Nat} : GX6_advance w Q 0 [some (.ref x), l1] st u ↔ GX6_advance w Q 1 [some (.ref x), l1] (.ref x :: st) u := WP_u (.aload_n 0) [] rfl
theorem eX6_advance_1 {l1 : Option Value} {st : List Value} {x : Nat} : GX6_advance w Q 1 [some (.ref x), l1] st u ↔ GX6_advance w Q 2 [some (.ref x), l1] (.ref x :: st) u := WP_u (.aload_n 0) [] rfl
theorem eX6_advance_2 {l0 l1 : Option Value} {st : List Value} {a : Nat} : GX6_advance w Q 2 [l0, l1] (.ref a :: st) u ↔ okI w a 6 8 ∧ GX6_advance w Q 5 [l0, l1] (.int (u.1 (ixI w a 8)) :: st) u := (WP_u (.getfield 187) [] rfl).trans ex_and
theorem eX6_advance_5 {l0 l1 : Option Value} {st : List Value} {a : Nat} {x : Int32} : GX6_advance w Q 5 [l0, l1] (.int x :: .ref a :: st) u ↔ okI w a 6 7 ∧ GX6_advance w Q 8 [l0, l1] st (uI u (ixI w a 7) x) := (WP_u (.putfield 190) [] rfl).trans ex_and
theorem eX6_advance_8 {l1 : Option Value} {st : List Value} {x : Nat} : GX6_advance w Q 8 [some (.ref x), l1] st u ↔ GX6_advance w Q 9 [some (.ref x), l1] (.ref x :: st) u := WP_u (.aload_n 0) [] rfl
theorem eX6_advance_9 {l1 : Option Value} {st : List Value} {x : Nat} : GX6_advance w Q 9 [some (.ref x), l1] st u ↔ GX6_advance w Q 10 [some (.ref x), l1] (.ref x :: st) u := WP_u (.aload_n 0) [] rfl
theorem eX6_advance_10 {l0 l1 : Option Value} {st : List Value} {a : Nat} : GX6_advance w Q 10 [l0, l1] (.ref a :: st) u ↔ okI w a 6 7 ∧ GX6_advance w Q 13 [l0, l1] (.int (u.1 (ixI w a 7)) :: st) u := (WP_u (.getfield 190) [] rfl).trans ex_and
theorem eX6_advance_13 {l0 l1 : Option Value} {x0 : Int32} {x1 : Nat} : GX6_advance w Q 13 [l0, l1] [.int x0, .ref x1] u ↔ (x1 = mA w ∧ pX6_byteAt x0 u) ∧ GX6_advance w Q 16 [l0, l1] [.int (rX6_byteAt x0 u)] u := (WP_u (.invokevirtual 193) [] rfl).trans (ex_call ⟨Nat.le_of_ble_eq_true rfl, Nat.le_of_ble_eq_true rfl⟩)
theorem eX6_advance_16 {l0 l1 : Option Value} {st : List Value} : GX6_advance w Q 16 [l0, l1] st u ↔ GX6_advance w Q 18 [l0, l1] (.int 32 :: st) u := WP_bipush rfl (by decide)
theorem eX6_advance_18 {l0 l1 : Option Value} {st : List Value} {x y : Int32} : GX6_advance w Q 18 [l0, l1] (.int y :: .int x :: st) u ↔ (¬ x = y → GX6_advance w Q 34 [l0, l1] st u) ∧ (¬ (¬ x = y) → GX6_advance w Q 21 [l0, l1] st u) := (WP_u (.if_icmp .ne 16) [34] rfl).trans ex_br
theorem eX6_advance_21 {l1 : Option Value} {st : List Value} {x : Nat} : GX6_advance w Q 21 [some (.ref x), l1] st u ↔ GX6_advance w Q 22 [some (.ref x), l1] (.ref x :: st) u := WP_u (.aload_n 0) [] rfl
theorem eX6_advance_22 {l0 l1 : Option Value} {st : List Value} {x : Nat} : GX6_advance w Q 22 [l0, l1] (.ref x :: st) u ↔ GX6_advance w Q 23 [l0, l1] (.ref x :: .ref x :: st) u := (WP_u (.dup) [] rfl).trans (ex_drop rfl)
theorem eX6_advance_23 {l0 l1 : Option Value} {st : List Value} {a : Nat} : GX6_advance w Q 23 [l0, l1] (.ref a :: st) u ↔ okI w a 6 7 ∧ GX6_advance w Q 26 [l0, l1] (.int (u.1 (ixI w a 7)) :: st) u := (WP_u (.getfield 190) [] rfl).trans ex_and
theorem eX6_advance_26 {l0 l1 : Option Value} {st : List Value} : GX6_advance w Q 26 [l0, l1] st u ↔ GX6_advance w Q 27 [l0, l1] (.int 1 :: st) u := WP_iconst rfl (by decide)
theorem eX6_advance_27 {l0 l1 : Option Value} {st : List Value} {x y : Int32} : GX6_advance w Q 27 [l0, l1] (.int y :: .int x :: st) u ↔ GX6_advance w Q 28 [l0, l1] (.int (x + y) :: st) u := WP_u (.iadd) [] rfl
theorem eX6_advance_28 {l0 l1 : Option Value} {st : List Value} {a : Nat} {x : Int32} : GX6_advance w Q 28 [l0, l1] (.int x :: .ref a :: st) u ↔ okI w a 6 7 ∧ GX6_advance w Q 31 [l0, l1] st (uI u (ixI w a 7) x) := (WP_u (.putfield 190) [] rfl).trans ex_and
theorem eX6_advance_31 {l0 l1 : Option Value} {st : List Value} : GX6_advance w Q 31 [l0, l1] st u ↔ GX6_advance w Q 8 [l0, l1] st u := WP_u (.goto (-23)) [8] rfl
theorem eX6_advance_34 {l1 : Option Value} {st : List Value} {x : Nat} : GX6_advance w Q 34 [some (.ref x), l1] st u ↔ GX6_advance w Q 35 [some (.ref x), l1] (.ref x :: st) u := WP_u (.aload_n 0) [] rfl
theorem eX6_advance_35 {l1 : Option Value} {st : List Value} {x : Nat} : GX6_advance w Q 35 [some (.ref x), l1] st u ↔ GX6_advance w Q 36 [some (.ref x), l1] (.ref x :: st) u := WP_u (.aload_n 0) [] rfl
theorem eX6_advance_36 {l0 l1 : Option Value} {st : List Value} {a : Nat} : GX6_advance w Q 36 [l0, l1] (.ref a :: st) u ↔ okI w a 6 7 ∧ GX6_advance w Q 39 [l0, l1] (.int (u.1 (ixI w a 7)) :: st) u := (WP_u (.getfield 190) [] rfl).trans ex_and
theorem eX6_advance_39 {l0 l1 : Option Value} {st : List Value} {a : Nat} {x : Int32} : GX6_advance w Q 39 [l0, l1] (.int x :: .ref a :: st) u ↔ okI w a 6 8 ∧ GX6_advance w Q 42 [l0, l1] st (uI u (ixI w a 8) x) := (WP_u (.putfield 187) [] rfl).trans ex_and
theorem eX6_advance_42 {l1 : Option Value} {st : List Value} {x : Nat} : GX6_advance w Q 42 [some (.ref x), l1] st u ↔ GX6_advance w Q 43 [some (.ref x), l1] (.ref x :: st) u := WP_u (.aload_n 0) [] rfl
theorem eX6_advance_43 {l1 : Option Value} {st : List Value} {x : Nat} : GX6_advance w Q 43 [some (.ref x), l1] st u ↔ GX6_advance w Q 44 [some (.ref x), l1] (.ref x :: st) u := WP_u (.aload_n 0) [] rfl
theorem eX6_advance_44 {l0 l1 : Option Value} {st : List Value} {a : Nat} : GX6_advance w Q 44 [l0, l1] (.ref a :: st) u ↔ okI w a 6 7 ∧ GX6_advance w Q 47 [l0, l1] (.int (u.1 (ixI w a 7)) :: st) u := (WP_u (.getfield 190) [] rfl).trans ex_and
theorem eX6_advance_47 {l0 l1 : Option Value} {x0 : Int32} {x1 : Nat} : GX6_advance w Q 47 [l0, l1] [.int x0, .ref x1] u ↔ (x1 = mA w ∧ pX6_byteAt x0 u) ∧ GX6_advance w Q 50 [l0, l1] [.int (rX6_byteAt x0 u)] u := (WP_u (.invokevirtual 193) [] rfl).trans (ex_call ⟨Nat.le_of_ble_eq_true rfl, Nat.le_of_ble_eq_true rfl⟩)
theorem eX6_advance_50 {l0 l1 : Option Value} {st : List Value} {x : Int32} : GX6_advance w Q 50 [l0, l1] (.int x :: st) u ↔ GX6_advance w Q 51 [kl l0, some (.int x)] st u := (WP_u (.istore_n 1) [] rfl).trans (ex_drop (Nat.le_of_ble_eq_true rfl))
theorem eX6_advance_51 {l1 : Option Value} {st : List Value} {x : Nat} : GX6_advance w Q 51 [some (.ref x), l1] st u ↔ GX6_advance w Q 52 [some (.ref x), l1] (.ref x :: st) u := WP_u (.aload_n 0) [] rfl
theorem eX6_advance_52 {l0 : Option Value} {st : List Value} {x : Int32} : GX6_advance w Q 52 [l0, some (.int x)] st u ↔ GX6_advance w Q 53 [l0, some (.int x)] (.int x :: st) u := WP_u (.iload_n 1) [] rfl
theorem eX6_advance_53 {l0 l1 : Option Value} {st : List Value} {x : Int32} : GX6_advance w Q 53 [l0, l1] (.int x :: st) u ↔ (0 ≤ x → GX6_advance w Q 60 [l0, l1] st u) ∧ (¬ (0 ≤ x) → GX6_advance w Q 56 [l0, l1] st u) := (WP_u (.ifCond .ge 7) [60] rfl).trans ex_br
theorem eX6_advance_56 {l0 l1 : Option Value} {st : List Value} : GX6_advance w Q 56 [l0, l1] st u ↔ GX6_advance w Q 57 [l0, l1] (.int 0 :: st) u := WP_iconst rfl (by decide)
theorem eX6_advance_57 {l0 l1 : Option Value} {st : List Value} : GX6_advance w Q 57 [l0, l1] st u ↔ GX6_advance w Q 83 [l0, l1] st u := WP_u (.goto 26) [83] rfl
theorem eX6_advance_60 {l0 : Option Value} {st : List Value} {x : Int32} : GX6_advance w Q 60 [l0, some (.int x)] st u ↔ GX6_advance w Q 61 [l0, some (.int x)] (.int x :: st) u := WP_u (.iload_n 1) [] rfl
theorem eX6_advance_61 {l0 l1 : Option Value} {x0 : Int32} {x1 : Nat} : GX6_advance w Q 61 [l0, l1] [.int x0, .ref x1] u ↔ (pX6_isLetter x0 u) ∧ GX6_advance w Q 64 [l0, l1] [.int (rX6_isLetter x0 u), .ref x1] u := (WP_u (.invokestatic 196) [] rfl).trans (ex_call ⟨Nat.le_of_ble_eq_true rfl, Nat.le_of_ble_eq_true rfl⟩)
theorem eX6_advance_64 {l0 l1 : Option Value} {st : List Value} {x : Int32} : GX6_advance w Q 64 [l0, l1] (.int x :: st) u ↔ (x = 0 → GX6_advance w Q 71 [l0, l1] st u) ∧ (¬ (x = 0) → GX6_advance w Q 67 [l0, l1] st u) := (WP_u (.ifCond .eq 7) [71] rfl).trans ex_br
theorem eX6_advance_67 {l0 l1 : Option Value} {st : List Value} : GX6_advance w Q 67 [l0, l1] st u ↔ GX6_advance w Q 68 [l0, l1] (.int 1 :: st) u := WP_iconst rfl (by decide)
theorem eX6_advance_68 {l0 l1 : Option Value} {st : List Value} : GX6_advance w Q 68 [l0, l1] st u ↔ GX6_advance w Q 83 [l0, l1] st u := WP_u (.goto 15) [83] rfl
theorem eX6_advance_71 {l0 : Option Value} {st : List Value} {x : Int32} : GX6_advance w Q 71 [l0, some (.int x)] st u ↔ GX6_advance w Q 72 [l0, some (.int x)] (.int x :: st) u := WP_u (.iload_n 1) [] rfl
theorem eX6_advance_72 {l0 l1 : Option Value} {x0 : Int32} {x1 : Nat} : GX6_advance w Q 72 [l0, l1] [.int x0, .ref x1] u ↔ (pX6_isDigit x0 u) ∧ GX6_advance w Q 75 [l0, l1] [.int (rX6_isDigit x0 u), .ref x1] u := (WP_u (.invokestatic 199) [] rfl).trans (ex_call ⟨Nat.le_of_ble_eq_true rfl, Nat.le_of_ble_eq_true rfl⟩)
theorem eX6_advance_75 {l0 l1 : Option Value} {st : List Value} {x : Int32} : GX6_advance w Q 75 [l0, l1] (.int x :: st) u ↔ (x = 0 → GX6_advance w Q 82 [l0, l1] st u) ∧ (¬ (x = 0) → GX6_advance w Q 78 [l0, l1] st u) := (WP_u (.ifCond .eq 7) [82] rfl).trans ex_br
theorem eX6_advance_78 {l0 l1 : Option Value} {st : List Value} : GX6_advance w Q 78 [l0, l1] st u ↔ GX6_advance w Q 79 [l0, l1] (.int 2 :: st) u := WP_iconst rfl (by decide)
theorem eX6_advance_79 {l0 l1 : Option Value} {st : List Value} : GX6_advance w Q 79 [l0, l1] st u ↔ GX6_advance w Q 83 [l0, l1] st u := WP_u (.goto 4) [83] rfl
theorem eX6_advance_82 {l0 l1 : Option Value} {st : List Value} : GX6_advance w Q 82 [l0, l1] st u ↔ GX6_advance w Q 83 [l0, l1] (.int 3 :: st) u := WP_iconst rfl (by decide)
theorem eX6_advance_83 {l0 l1 : Option Value} {st : List Value} {a : Nat} {x : Int32} : GX6_advance w Q 83 [l0, l1] (.int x :: .ref a :: st) u ↔ okI w a 6 6 ∧ GX6_advance w Q 86 [l0, l1] st (uI u (ixI w a 6) x) := (WP_u (.putfield 202) [] rfl).trans ex_and
theorem eX6_advance_86 {l1 : Option Value} {st : List Value} {x : Nat} : GX6_advance w Q 86 [some (.ref x), l1] st u ↔ GX6_advance w Q 87 [some (.ref x), l1] (.ref x :: st) u := WP_u (.aload_n 0) [] rfl
theorem eX6_advance_87 {l0 l1 : Option Value} {st : List Value} : GX6_advance w Q 87 [l0, l1] st u ↔ GX6_advance w Q 88 [l0, l1] (.long 0 :: st) u := WP_lconst rfl (by decide)
theorem eX6_advance_88 {l0 l1 : Option Value} {st : List Value} {a : Nat} {x : Int64} : GX6_advance w Q 88 [l0, l1] (.long x :: .ref a :: st) u ↔ okJ w a 6 9 ∧ GX6_advance w Q 91 [l0, l1] st (uJ u (ixJ w a 9) x) := (WP_u (.putfield 205) [] rfl).trans ex_and
theorem eX6_advance_91 {l1 : Option Value} {st : List Value} {x : Nat} : GX6_advance w Q 91 [some (.ref x), l1] st u ↔ GX6_advance w Q 92 [some (.ref x), l1] (.ref x :: st) u := WP_u (.aload_n 0) [] rfl
theorem eX6_advance_92 {l1 : Option Value} {st : List Value} {x : Nat} : GX6_advance w Q 92 [some (.ref x), l1] st u ↔ GX6_advance w Q 93 [some (.ref x), l1] (.ref x :: st) u := WP_u (.aload_n 0) [] rfl
theorem eX6_advance_93 {l0 l1 : Option Value} {st : List Value} {a : Nat} : GX6_advance w Q 93 [l0, l1] (.ref a :: st) u ↔ okI w a 6 6 ∧ GX6_advance w Q 96 [l0, l1] (.int (u.1 (ixI w a 6)) :: st) u := (WP_u (.getfield 202) [] rfl).trans ex_and
theorem eX6_advance_96 {l0 l1 : Option Value} {st : List Value} : GX6_advance w Q 96 [l0, l1] st u ↔ GX6_advance w Q 97 [l0, l1] (.int 2 :: st) u := WP_iconst rfl (by decide)
theorem eX6_advance_97 {l0 l1 : Option Value} {st : List Value} {x y : Int32} : GX6_advance w Q 97 [l0, l1] (.int y :: .int x :: st) u ↔ (¬ x = y → GX6_advance w Q 104 [l0, l1] st u) ∧ (¬ (¬ x = y) → GX6_advance w Q 100 [l0, l1] st u) := (WP_u (.if_icmp .ne 7) [104] rfl).trans ex_br
theorem eX6_advance_100 {l0 l1 : Option Value} {st : List Value} : GX6_advance w Q 100 [l0, l1] st u ↔ GX6_advance w Q 101 [l0, l1] (.int 0 :: st) u := WP_iconst rfl (by decide)
theorem eX6_advance_101 {l0 l1 : Option Value} {st : List Value} : GX6_advance w Q 101 [l0, l1] st u ↔ GX6_advance w Q 105 [l0, l1] st u := WP_u (.goto 4) [105] rfl
theorem eX6_advance_104 {l0 : Option Value} {st : List Value} {x : Int32} : GX6_advance w Q 104 [l0, some (.int x)] st u ↔ GX6_advance w Q 105 [l0, some (.int x)] (.int x :: st) u := WP_u (.iload_n 1) [] rfl
theorem eX6_advance_105 {l0 l1 : Option Value} {st : List Value} {a : Nat} {x : Int32} : GX6_advance w Q 105 [l0, l1] (.int x :: .ref a :: st) u ↔ okI w a 6 10 ∧ GX6_advance w Q 108 [l0, l1] st (uI u (ixI w a 10) x) := (WP_u (.putfield 209) [] rfl).trans ex_and
theorem eX6_advance_108 {l1 : Option Value} {st : List Value} {x : Nat} : GX6_advance w Q 108 [some (.ref x), l1] st u ↔ GX6_advance w Q 109 [some (.ref x), l1] (.ref x :: st) u := WP_u (.aload_n 0) [] rfl
theorem eX6_advance_109 {l0 l1 : Option Value} {st : List Value} {a : Nat} : GX6_advance w Q 109 [l0, l1] (.ref a :: st) u ↔ okI w a 6 6 ∧ GX6_advance w Q 112 [l0, l1] (.int (u.1 (ixI w a 6)) :: st) u := (WP_u (.getfield 202) [] rfl).trans ex_and
theorem eX6_advance_112 {l0 l1 : Option Value} {st : List Value} : GX6_advance w Q 112 [l0, l1] st u ↔ GX6_advance w Q 113 [l0, l1] (.int 3 :: st) u := WP_iconst rfl (by decide)
theorem eX6_advance_113 {l0 l1 : Option Value} {st : List Value} {x y : Int32} : GX6_advance w Q 113 [l0, l1] (.int y :: .int x :: st) u ↔ (¬ x = y → GX6_advance w Q 126 [l0, l1] st u) ∧ (¬ (¬ x = y) → GX6_advance w Q 116 [l0, l1] st u) := (WP_u (.if_icmp .ne 13) [126] rfl).trans ex_br
theorem eX6_advance_116 {l1 : Option Value} {st : List Value} {x : Nat} : GX6_advance w Q 116 [some (.ref x), l1] st u ↔ GX6_advance w Q 117 [some (.ref x), l1] (.ref x :: st) u := WP_u (.aload_n 0) [] rfl
theorem eX6_advance_117 {l0 l1 : Option Value} {st : List Value} {x : Nat} : GX6_advance w Q 117 [l0, l1] (.ref x :: st) u ↔ GX6_advance w Q 118 [l0, l1] (.ref x :: .ref x :: st) u := (WP_u (.dup) [] rfl).trans (ex_drop rfl)
theorem eX6_advance_118 {l0 l1 : Option Value} {st : List Value} {a : Nat} : GX6_advance w Q 118 [l0, l1] (.ref a :: st) u ↔ okI w a 6 8 ∧ GX6_advance w Q 121 [l0, l1] (.int (u.1 (ixI w a 8)) :: st) u := (WP_u (.getfield 187) [] rfl).trans ex_and
theorem eX6_advance_121 {l0 l1 : Option Value} {st : List Value} : GX6_advance w Q 121 [l0, l1] st u ↔ GX6_advance w Q 122 [l0, l1] (.int 1 :: st) u := WP_iconst rfl (by decide)
theorem eX6_advance_122 {l0 l1 : Option Value} {st : List Value} {x y : Int32} : GX6_advance w Q 122 [l0, l1] (.int y :: .int x :: st) u ↔ GX6_advance w Q 123 [l0, l1] (.int (x + y) :: st) u := WP_u (.iadd) [] rfl
theorem eX6_advance_123 {l0 l1 : Option Value} {st : List Value} {a : Nat} {x : Int32} : GX6_advance w Q 123 [l0, l1] (.int x :: .ref a :: st) u ↔ okI w a 6 8 ∧ GX6_advance w Q 126 [l0, l1] st (uI u (ixI w a 8) x) := (WP_u (.putfield 187) [] rfl).trans ex_and
theorem eX6_advance_126 {l1 : Option Value} {st : List Value} {x : Nat} : GX6_advance w Q 126 [some (.ref x), l1] st u ↔ GX6_advance w Q 127 [some (.ref x), l1] (.ref x :: st) u := WP_u (.aload_n 0) [] rfl
theorem eX6_advance_127 {l0 l1 : Option Value} {st : List Value} {a : Nat} : GX6_advance w Q 127 [l0, l1] (.ref a :: st) u ↔ okI w a 6 6 ∧ GX6_advance w Q 130 [l0, l1] (.int (u.1 (ixI w a 6)) :: st) u := (WP_u (.getfield 202) [] rfl).trans ex_and
theorem eX6_advance_130 {l0 l1 : Option Value} {st : List Value} : GX6_advance w Q 130 [l0, l1] st u ↔ GX6_advance w Q 131 [l0, l1] (.int 1 :: st) u := WP_iconst rfl (by decide)
theorem eX6_advance_131 {l0 l1 : Option Value} {st : List Value} {x y : Int32} : GX6_advance w Q 131 [l0, l1] (.int y :: .int x :: st) u ↔ (¬ x = y → GX6_advance w Q 207 [l0, l1] st u) ∧ (¬ (¬ x = y) → GX6_advance w Q 134 [l0, l1] st u) := (WP_u (.if_icmp .ne 76) [207] rfl).trans ex_br
theorem eX6_advance_134 {l1 : Option Value} {st : List Value} {x : Nat} : GX6_advance w Q 134 [some (.ref x), l1] st u ↔ GX6_advance w Q 135 [some (.ref x), l1] (.ref x :: st) u := WP_u (.aload_n 0) [] rfl
theorem eX6_advance_135 {l1 : Option Value} {st : List Value} {x : Nat} : GX6_advance w Q 135 [some (.ref x), l1] st u ↔ GX6_advance w Q 136 [some (.ref x), l1] (.ref x :: st) u := WP_u (.aload_n 0) [] rfl
theorem eX6_advance_136 {l0 l1 : Option Value} {st : List Value} {a : Nat} : GX6_advance w Q 136 [l0, l1] (.ref a :: st) u ↔ okI w a 6 8 ∧ GX6_advance w Q 139 [l0, l1] (.int (u.1 (ixI w a 8)) :: st) u := (WP_u (.getfield 187) [] rfl).trans ex_and
theorem eX6_advance_139 {l0 l1 : Option Value} {x0 : Int32} {x1 : Nat} : GX6_advance w Q 139 [l0, l1] [.int x0, .ref x1] u ↔ (x1 = mA w ∧ pX6_byteAt x0 u) ∧ GX6_advance w Q 142 [l0, l1] [.int (rX6_byteAt x0 u)] u := (WP_u (.invokevirtual 193) [] rfl).trans (ex_call ⟨Nat.le_of_ble_eq_true rfl, Nat.le_of_ble_eq_true rfl⟩)
theorem eX6_advance_142 {l0 l1 : Option Value} {x0 : Int32} : GX6_advance w Q 142 [l0, l1] [.int x0] u ↔ (pX6_isLetter x0 u) ∧ GX6_advance w Q 145 [l0, l1] [.int (rX6_isLetter x0 u)] u := (WP_u (.invokestatic 196) [] rfl).trans (ex_call ⟨Nat.le_of_ble_eq_true rfl, Nat.le_of_ble_eq_true rfl⟩)
theorem eX6_advance_145 {l0 l1 : Option Value} {st : List Value} {x : Int32} : GX6_advance w Q 145 [l0, l1] (.int x :: st) u ↔ (x = 0 → GX6_advance w Q 207 [l0, l1] st u) ∧ (¬ (x = 0) → GX6_advance w Q 148 [l0, l1] st u) := (WP_u (.ifCond .eq 62) [207] rfl).trans ex_br
theorem eX6_advance_148 {l1 : Option Value} {st : List Value} {x : Nat} : GX6_advance w Q 148 [some (.ref x), l1] st u ↔ GX6_advance w Q 149 [some (.ref x), l1] (.ref x :: st) u := WP_u (.aload_n 0) [] rfl
theorem eX6_advance_149 {l1 : Option Value} {st : List Value} {x : Nat} : GX6_advance w Q 149 [some (.ref x), l1] st u ↔ GX6_advance w Q 150 [some (.ref x), l1] (.ref x :: st) u := WP_u (.aload_n 0) [] rfl
theorem eX6_advance_150 {l0 l1 : Option Value} {st : List Value} {a : Nat} : GX6_advance w Q 150 [l0, l1] (.ref a :: st) u ↔ okI w a 6 8 ∧ GX6_advance w Q 153 [l0, l1] (.int (u.1 (ixI w a 8)) :: st) u := (WP_u (.getfield 187) [] rfl).trans ex_and
theorem eX6_advance_153 {l1 : Option Value} {st : List Value} {x : Nat} : GX6_advance w Q 153 [some (.ref x), l1] st u ↔ GX6_advance w Q 154 [some (.ref x), l1] (.ref x :: st) u := WP_u (.aload_n 0) [] rfl
theorem eX6_advance_154 {l0 l1 : Option Value} {st : List Value} {a : Nat} : GX6_advance w Q 154 [l0, l1] (.ref a :: st) u ↔ okI w a 6 7 ∧ GX6_advance w Q 157 [l0, l1] (.int (u.1 (ixI w a 7)) :: st) u := (WP_u (.getfield 190) [] rfl).trans ex_and
theorem eX6_advance_157 {l0 l1 : Option Value} {st : List Value} {x y : Int32} : GX6_advance w Q 157 [l0, l1] (.int y :: .int x :: st) u ↔ GX6_advance w Q 158 [l0, l1] (.int (x - y) :: st) u := WP_u (.isub) [] rfl
theorem eX6_advance_158 {l0 l1 : Option Value} {st : List Value} : GX6_advance w Q 158 [l0, l1] st u ↔ GX6_advance w Q 160 [l0, l1] (.int 12 :: st) u := WP_bipush rfl (by decide)
theorem eX6_advance_160 {l0 l1 : Option Value} {st : List Value} {x y : Int32} : GX6_advance w Q 160 [l0, l1] (.int y :: .int x :: st) u ↔ (y ≤ x → GX6_advance w Q 188 [l0, l1] st u) ∧ (¬ (y ≤ x) → GX6_advance w Q 163 [l0, l1] st u) := (WP_u (.if_icmp .ge 28) [188] rfl).trans ex_br
theorem eX6_advance_163 {l0 l1 : Option Value} {st : List Value} : GX6_advance w Q 163 [l0, l1] st u ↔ GX6_advance w Q 166 [l0, l1] (.long (27) :: st) u := WP_u (.ldc2_w 212) [] rfl
theorem eX6_advance_166 {l1 : Option Value} {st : List Value} {x : Nat} : GX6_advance w Q 166 [some (.ref x), l1] st u ↔ GX6_advance w Q 167 [some (.ref x), l1] (.ref x :: st) u := WP_u (.aload_n 0) [] rfl
theorem eX6_advance_167 {l0 l1 : Option Value} {st : List Value} {a : Nat} : GX6_advance w Q 167 [l0, l1] (.ref a :: st) u ↔ okJ w a 6 9 ∧ GX6_advance w Q 170 [l0, l1] (.long (u.2 (ixJ w a 9)) :: st) u := (WP_u (.getfield 205) [] rfl).trans ex_and
theorem eX6_advance_170 {l0 l1 : Option Value} {st : List Value} {x y : Int64} : GX6_advance w Q 170 [l0, l1] (.long y :: .long x :: st) u ↔ GX6_advance w Q 171 [l0, l1] (.long (x * y) :: st) u := WP_u (.lmul) [] rfl
theorem eX6_advance_171 {l1 : Option Value} {st : List Value} {x : Nat} : GX6_advance w Q 171 [some (.ref x), l1] st u ↔ GX6_advance w Q 172 [some (.ref x), l1] (.ref x :: st) u := WP_u (.aload_n 0) [] rfl
theorem eX6_advance_172 {l1 : Option Value} {st : List Value} {x : Nat} : GX6_advance w Q 172 [some (.ref x), l1] st u ↔ GX6_advance w Q 173 [some (.ref x), l1] (.ref x :: st) u := WP_u (.aload_n 0) [] rfl
theorem eX6_advance_173 {l0 l1 : Option Value} {st : List Value} {a : Nat} : GX6_advance w Q 173 [l0, l1] (.ref a :: st) u ↔ okI w a 6 8 ∧ GX6_advance w Q 176 [l0, l1] (.int (u.1 (ixI w a 8)) :: st) u := (WP_u (.getfield 187) [] rfl).trans ex_and
theorem eX6_advance_176 {l0 l1 : Option Value} {x0 : Int32} {x1 : Nat} {x2 : Int64} {x3 : Nat} : GX6_advance w Q 176 [l0, l1] [.int x0, .ref x1, .long x2, .ref x3] u ↔ (x1 = mA w ∧ pX6_byteAt x0 u) ∧ GX6_advance w Q 179 [l0, l1] [.int (rX6_byteAt x0 u), .long x2, .ref x3] u := (WP_u (.invokevirtual 193) [] rfl).trans (ex_call ⟨Nat.le_of_ble_eq_true rfl, Nat.le_of_ble_eq_true rfl⟩)
theorem eX6_advance_179 {l0 l1 : Option Value} {st : List Value} {x : Int32} : GX6_advance w Q 179 [l0, l1] (.int x :: st) u ↔ GX6_advance w Q 180 [l0, l1] (.long x.toInt64 :: st) u := WP_u (.i2l) [] rfl
theorem eX6_advance_180 {l0 l1 : Option Value} {st : List Value} {x y : Int64} : GX6_advance w Q 180 [l0, l1] (.long y :: .long x :: st) u ↔ GX6_advance w Q 181 [l0, l1] (.long (x + y) :: st) u := WP_u (.ladd) [] rfl
theorem eX6_advance_181 {l0 l1 : Option Value} {st : List Value} : GX6_advance w Q 181 [l0, l1] st u ↔ GX6_advance w Q 184 [l0, l1] (.long (96) :: st) u := WP_u (.ldc2_w 214) [] rfl
theorem eX6_advance_184 {l0 l1 : Option Value} {st : List Value} {x y : Int64} : GX6_advance w Q 184 [l0, l1] (.long y :: .long x :: st) u ↔ GX6_advance w Q 185 [l0, l1] (.long (x - y) :: st) u := WP_u (.lsub) [] rfl
theorem eX6_advance_185 {l0 l1 : Option Value} {st : List Value} : GX6_advance w Q 185 [l0, l1] st u ↔ GX6_advance w Q 191 [l0, l1] st u := WP_u (.goto 6) [191] rfl
theorem eX6_advance_188 {l0 l1 : Option Value} {st : List Value} : GX6_advance w Q 188 [l0, l1] st u ↔ GX6_advance w Q 191 [l0, l1] (.long (-1) :: st) u := WP_u (.ldc2_w 216) [] rfl
theorem eX6_advance_191 {l0 l1 : Option Value} {st : List Value} {a : Nat} {x : Int64} : GX6_advance w Q 191 [l0, l1] (.long x :: .ref a :: st) u ↔ okJ w a 6 9 ∧ GX6_advance w Q 194 [l0, l1] st (uJ u (ixJ w a 9) x) := (WP_u (.putfield 205) [] rfl).trans ex_and
theorem eX6_advance_194 {l1 : Option Value} {st : List Value} {x : Nat} : GX6_advance w Q 194 [some (.ref x), l1] st u ↔ GX6_advance w Q 195 [some (.ref x), l1] (.ref x :: st) u := WP_u (.aload_n 0) [] rfl
theorem eX6_advance_195 {l0 l1 : Option Value} {st : List Value} {x : Nat} : GX6_advance w Q 195 [l0, l1] (.ref x :: st) u ↔ GX6_advance w Q 196 [l0, l1] (.ref x :: .ref x :: st) u := (WP_u (.dup) [] rfl).trans (ex_drop rfl)
theorem eX6_advance_196 {l0 l1 : Option Value} {st : List Value} {a : Nat} : GX6_advance w Q 196 [l0, l1] (.ref a :: st) u ↔ okI w a 6 8 ∧ GX6_advance w Q 199 [l0, l1] (.int (u.1 (ixI w a 8)) :: st) u := (WP_u (.getfield 187) [] rfl).trans ex_and
theorem eX6_advance_199 {l0 l1 : Option Value} {st : List Value} : GX6_advance w Q 199 [l0, l1] st u ↔ GX6_advance w Q 200 [l0, l1] (.int 1 :: st) u := WP_iconst rfl (by decide)
theorem eX6_advance_200 {l0 l1 : Option Value} {st : List Value} {x y : Int32} : GX6_advance w Q 200 [l0, l1] (.int y :: .int x :: st) u ↔ GX6_advance w Q 201 [l0, l1] (.int (x + y) :: st) u := WP_u (.iadd) [] rfl
theorem eX6_advance_201 {l0 l1 : Option Value} {st : List Value} {a : Nat} {x : Int32} : GX6_advance w Q 201 [l0, l1] (.int x :: .ref a :: st) u ↔ okI w a 6 8 ∧ GX6_advance w Q 204 [l0, l1] st (uI u (ixI w a 8) x) := (WP_u (.putfield 187) [] rfl).trans ex_and
theorem eX6_advance_204 {l0 l1 : Option Value} {st : List Value} : GX6_advance w Q 204 [l0, l1] st u ↔ GX6_advance w Q 126 [l0, l1] st u := WP_u (.goto (-78)) [126] rfl
theorem eX6_advance_207 {l1 : Option Value} {st : List Value} {x : Nat} : GX6_advance w Q 207 [some (.ref x), l1] st u ↔ GX6_advance w Q 208 [some (.ref x), l1] (.ref x :: st) u := WP_u (.aload_n 0) [] rfl
theorem eX6_advance_208 {l0 l1 : Option Value} {st : List Value} {a : Nat} : GX6_advance w Q 208 [l0, l1] (.ref a :: st) u ↔ okI w a 6 6 ∧ GX6_advance w Q 211 [l0, l1] (.int (u.1 (ixI w a 6)) :: st) u := (WP_u (.getfield 202) [] rfl).trans ex_and
theorem eX6_advance_211 {l0 l1 : Option Value} {st : List Value} : GX6_advance w Q 211 [l0, l1] st u ↔ GX6_advance w Q 212 [l0, l1] (.int 2 :: st) u := WP_iconst rfl (by decide)
theorem eX6_advance_212 {l0 l1 : Option Value} {st : List Value} {x y : Int32} : GX6_advance w Q 212 [l0, l1] (.int y :: .int x :: st) u ↔ (¬ x = y → GX6_advance w Q 281 [l0, l1] st u) ∧ (¬ (¬ x = y) → GX6_advance w Q 215 [l0, l1] st u) := (WP_u (.if_icmp .ne 69) [281] rfl).trans ex_br
theorem eX6_advance_215 {l1 : Option Value} {st : List Value} {x : Nat} : GX6_advance w Q 215 [some (.ref x), l1] st u ↔ GX6_advance w Q 216 [some (.ref x), l1] (.ref x :: st) u := WP_u (.aload_n 0) [] rfl
theorem eX6_advance_216 {l1 : Option Value} {st : List Value} {x : Nat} : GX6_advance w Q 216 [some (.ref x), l1] st u ↔ GX6_advance w Q 217 [some (.ref x), l1] (.ref x :: st) u := WP_u (.aload_n 0) [] rfl
theorem eX6_advance_217 {l0 l1 : Option Value} {st : List Value} {a : Nat} : GX6_advance w Q 217 [l0, l1] (.ref a :: st) u ↔ okI w a 6 8 ∧ GX6_advance w Q 220 [l0, l1] (.int (u.1 (ixI w a 8)) :: st) u := (WP_u (.getfield 187) [] rfl).trans ex_and
theorem eX6_advance_220 {l0 l1 : Option Value} {x0 : Int32} {x1 : Nat} : GX6_advance w Q 220 [l0, l1] [.int x0, .ref x1] u ↔ (x1 = mA w ∧ pX6_byteAt x0 u) ∧ GX6_advance w Q 223 [l0, l1] [.int (rX6_byteAt x0 u)] u := (WP_u (.invokevirtual 193) [] rfl).trans (ex_call ⟨Nat.le_of_ble_eq_true rfl, Nat.le_of_ble_eq_true rfl⟩)
theorem eX6_advance_223 {l0 l1 : Option Value} {x0 : Int32} : GX6_advance w Q 223 [l0, l1] [.int x0] u ↔ (pX6_isDigit x0 u) ∧ GX6_advance w Q 226 [l0, l1] [.int (rX6_isDigit x0 u)] u := (WP_u (.invokestatic 199) [] rfl).trans (ex_call ⟨Nat.le_of_ble_eq_true rfl, Nat.le_of_ble_eq_true rfl⟩)
theorem eX6_advance_226 {l0 l1 : Option Value} {st : List Value} {x : Int32} : GX6_advance w Q 226 [l0, l1] (.int x :: st) u ↔ (x = 0 → GX6_advance w Q 281 [l0, l1] st u) ∧ (¬ (x = 0) → GX6_advance w Q 229 [l0, l1] st u) := (WP_u (.ifCond .eq 55) [281] rfl).trans ex_br
theorem eX6_advance_229 {l1 : Option Value} {st : List Value} {x : Nat} : GX6_advance w Q 229 [some (.ref x), l1] st u ↔ GX6_advance w Q 230 [some (.ref x), l1] (.ref x :: st) u := WP_u (.aload_n 0) [] rfl
theorem eX6_advance_230 {l1 : Option Value} {st : List Value} {x : Nat} : GX6_advance w Q 230 [some (.ref x), l1] st u ↔ GX6_advance w Q 231 [some (.ref x), l1] (.ref x :: st) u := WP_u (.aload_n 0) [] rfl
theorem eX6_advance_231 {l0 l1 : Option Value} {st : List Value} {a : Nat} : GX6_advance w Q 231 [l0, l1] (.ref a :: st) u ↔ okI w a 6 10 ∧ GX6_advance w Q 234 [l0, l1] (.int (u.1 (ixI w a 10)) :: st) u := (WP_u (.getfield 209) [] rfl).trans ex_and
theorem eX6_advance_234 {l0 l1 : Option Value} {st : List Value} : GX6_advance w Q 234 [l0, l1] st u ↔ GX6_advance w Q 237 [l0, l1] (.int 999 :: st) u := WP_sipush rfl (by decide)
theorem eX6_advance_237 {l0 l1 : Option Value} {st : List Value} {x y : Int32} : GX6_advance w Q 237 [l0, l1] (.int y :: .int x :: st) u ↔ (x ≤ y → GX6_advance w Q 246 [l0, l1] st u) ∧ (¬ (x ≤ y) → GX6_advance w Q 240 [l0, l1] st u) := (WP_u (.if_icmp .le 9) [246] rfl).trans ex_br
theorem eX6_advance_240 {l0 l1 : Option Value} {st : List Value} : GX6_advance w Q 240 [l0, l1] st u ↔ GX6_advance w Q 243 [l0, l1] (.int 10000 :: st) u := WP_sipush rfl (by decide)
theorem eX6_advance_243 {l0 l1 : Option Value} {st : List Value} : GX6_advance w Q 243 [l0, l1] st u ↔ GX6_advance w Q 265 [l0, l1] st u := WP_u (.goto 22) [265] rfl
theorem eX6_advance_246 {l0 l1 : Option Value} {st : List Value} : GX6_advance w Q 246 [l0, l1] st u ↔ GX6_advance w Q 248 [l0, l1] (.int 10 :: st) u := WP_bipush rfl (by decide)
theorem eX6_advance_248 {l1 : Option Value} {st : List Value} {x : Nat} : GX6_advance w Q 248 [some (.ref x), l1] st u ↔ GX6_advance w Q 249 [some (.ref x), l1] (.ref x :: st) u := WP_u (.aload_n 0) [] rfl
theorem eX6_advance_249 {l0 l1 : Option Value} {st : List Value} {a : Nat} : GX6_advance w Q 249 [l0, l1] (.ref a :: st) u ↔ okI w a 6 10 ∧ GX6_advance w Q 252 [l0, l1] (.int (u.1 (ixI w a 10)) :: st) u := (WP_u (.getfield 209) [] rfl).trans ex_and
theorem eX6_advance_252 {l0 l1 : Option Value} {st : List Value} {x y : Int32} : GX6_advance w Q 252 [l0, l1] (.int y :: .int x :: st) u ↔ GX6_advance w Q 253 [l0, l1] (.int (x * y) :: st) u := WP_u (.imul) [] rfl
theorem eX6_advance_253 {l1 : Option Value} {st : List Value} {x : Nat} : GX6_advance w Q 253 [some (.ref x), l1] st u ↔ GX6_advance w Q 254 [some (.ref x), l1] (.ref x :: st) u := WP_u (.aload_n 0) [] rfl
theorem eX6_advance_254 {l1 : Option Value} {st : List Value} {x : Nat} : GX6_advance w Q 254 [some (.ref x), l1] st u ↔ GX6_advance w Q 255 [some (.ref x), l1] (.ref x :: st) u := WP_u (.aload_n 0) [] rfl
theorem eX6_advance_255 {l0 l1 : Option Value} {st : List Value} {a : Nat} : GX6_advance w Q 255 [l0, l1] (.ref a :: st) u ↔ okI w a 6 8 ∧ GX6_advance w Q 258 [l0, l1] (.int (u.1 (ixI w a 8)) :: st) u := (WP_u (.getfield 187) [] rfl).trans ex_and
theorem eX6_advance_258 {l0 l1 : Option Value} {x0 : Int32} {x1 : Nat} {x2 : Int32} {x3 : Nat} : GX6_advance w Q 258 [l0, l1] [.int x0, .ref x1, .int x2, .ref x3] u ↔ (x1 = mA w ∧ pX6_byteAt x0 u) ∧ GX6_advance w Q 261 [l0, l1] [.int (rX6_byteAt x0 u), .int x2, .ref x3] u := (WP_u (.invokevirtual 193) [] rfl).trans (ex_call ⟨Nat.le_of_ble_eq_true rfl, Nat.le_of_ble_eq_true rfl⟩)
theorem eX6_advance_261 {l0 l1 : Option Value} {st : List Value} {x y : Int32} : GX6_advance w Q 261 [l0, l1] (.int y :: .int x :: st) u ↔ GX6_advance w Q 262 [l0, l1] (.int (x + y) :: st) u := WP_u (.iadd) [] rfl
theorem eX6_advance_262 {l0 l1 : Option Value} {st : List Value} : GX6_advance w Q 262 [l0, l1] st u ↔ GX6_advance w Q 264 [l0, l1] (.int 48 :: st) u := WP_bipush rfl (by decide)
theorem eX6_advance_264 {l0 l1 : Option Value} {st : List Value} {x y : Int32} : GX6_advance w Q 264 [l0, l1] (.int y :: .int x :: st) u ↔ GX6_advance w Q 265 [l0, l1] (.int (x - y) :: st) u := WP_u (.isub) [] rfl
theorem eX6_advance_265 {l0 l1 : Option Value} {st : List Value} {a : Nat} {x : Int32} : GX6_advance w Q 265 [l0, l1] (.int x :: .ref a :: st) u ↔ okI w a 6 10 ∧ GX6_advance w Q 268 [l0, l1] st (uI u (ixI w a 10) x) := (WP_u (.putfield 209) [] rfl).trans ex_and
theorem eX6_advance_268 {l1 : Option Value} {st : List Value} {x : Nat} : GX6_advance w Q 268 [some (.ref x), l1] st u ↔ GX6_advance w Q 269 [some (.ref x), l1] (.ref x :: st) u := WP_u (.aload_n 0) [] rfl
theorem eX6_advance_269 {l0 l1 : Option Value} {st : List Value} {x : Nat} : GX6_advance w Q 269 [l0, l1] (.ref x :: st) u ↔ GX6_advance w Q 270 [l0, l1] (.ref x :: .ref x :: st) u := (WP_u (.dup) [] rfl).trans (ex_drop rfl)
theorem eX6_advance_270 {l0 l1 : Option Value} {st : List Value} {a : Nat} : GX6_advance w Q 270 [l0, l1] (.ref a :: st) u ↔ okI w a 6 8 ∧ GX6_advance w Q 273 [l0, l1] (.int (u.1 (ixI w a 8)) :: st) u := (WP_u (.getfield 187) [] rfl).trans ex_and
theorem eX6_advance_273 {l0 l1 : Option Value} {st : List Value} : GX6_advance w Q 273 [l0, l1] st u ↔ GX6_advance w Q 274 [l0, l1] (.int 1 :: st) u := WP_iconst rfl (by decide)
theorem eX6_advance_274 {l0 l1 : Option Value} {st : List Value} {x y : Int32} : GX6_advance w Q 274 [l0, l1] (.int y :: .int x :: st) u ↔ GX6_advance w Q 275 [l0, l1] (.int (x + y) :: st) u := WP_u (.iadd) [] rfl
theorem eX6_advance_275 {l0 l1 : Option Value} {st : List Value} {a : Nat} {x : Int32} : GX6_advance w Q 275 [l0, l1] (.int x :: .ref a :: st) u ↔ okI w a 6 8 ∧ GX6_advance w Q 278 [l0, l1] st (uI u (ixI w a 8) x) := (WP_u (.putfield 187) [] rfl).trans ex_and
theorem eX6_advance_278 {l0 l1 : Option Value} {st : List Value} : GX6_advance w Q 278 [l0, l1] st u ↔ GX6_advance w Q 207 [l0, l1] st u := WP_u (.goto (-71)) [207] rfl
theorem eX6_advance_281 {l0 l1 : Option Value} : GX6_advance w Q 281 [l0, l1] [] u ↔ Q none u := (WP_u (.return_) [] rfl).trans ex_k
end
def VX6_advance (w : WW) : Prop := ∀  (u : MM), pX6_advance u → GX6_advance w (fun r u' => r = none ∧ u' = (mX6_advance u)) 0 [some (.ref (mA w)), none] [] u
def KX6_isWord (w : WW) : KT := (al flX6, al ciX6, al clX6, fun _ => none, fun _ => none, al [])
abbrev GX6_isWord (w : WW) (Q : Option Value → MM → Prop) : Nat → LL → List Value → MM → Prop := WP w MX6_isWord TX6_isWord (KX6_isWord w) Q
section
variable {w : WW} {Q : Option Value → MM → Prop} {u : MM}
theorem eX6_isWord_0 {l1 l2 : Option Value} {st : List Value} {x : Nat} : GX6_isWord w Q 0 [some (.ref x), l1, l2] st u ↔ GX6_isWord w Q 1 [some (.ref x), l1, l2] (.ref x :: st) u := WP_u (.aload_n 0) [] rfl
theorem eX6_isWord_1 {l0 l1 l2 : Option Value} {st : List Value} {a : Nat} : GX6_isWord w Q 1 [l0, l1, l2] (.ref a :: st) u ↔ okI w a 6 6 ∧ GX6_isWord w Q 4 [l0, l1, l2] (.int (u.1 (ixI w a 6)) :: st) u := (WP_u (.getfield 202) [] rfl).trans ex_and
theorem eX6_isWord_4 {l0 l1 l2 : Option Value} {st : List Value} : GX6_isWord w Q 4 [l0, l1, l2] st u ↔ GX6_isWord w Q 5 [l0, l1, l2] (.int 1 :: st) u := WP_iconst rfl (by decide)
theorem eX6_isWord_5 {l0 l1 l2 : Option Value} {st : List Value} {x y : Int32} : GX6_isWord w Q 5 [l0, l1, l2] (.int y :: .int x :: st) u ↔ (¬ x = y → GX6_isWord w Q 21 [l0, l1, l2] st u) ∧ (¬ (¬ x = y) → GX6_isWord w Q 8 [l0, l1, l2] st u) := (WP_u (.if_icmp .ne 16) [21] rfl).trans ex_br
theorem eX6_isWord_8 {l1 l2 : Option Value} {st : List Value} {x : Nat} : GX6_isWord w Q 8 [some (.ref x), l1, l2] st u ↔ GX6_isWord w Q 9 [some (.ref x), l1, l2] (.ref x :: st) u := WP_u (.aload_n 0) [] rfl
theorem eX6_isWord_9 {l0 l1 l2 : Option Value} {st : List Value} {a : Nat} : GX6_isWord w Q 9 [l0, l1, l2] (.ref a :: st) u ↔ okJ w a 6 9 ∧ GX6_isWord w Q 12 [l0, l1, l2] (.long (u.2 (ixJ w a 9)) :: st) u := (WP_u (.getfield 205) [] rfl).trans ex_and
theorem eX6_isWord_12 {l0 l2 : Option Value} {st : List Value} {x : Int64} : GX6_isWord w Q 12 [l0, some (.long x), l2] st u ↔ GX6_isWord w Q 13 [l0, some (.long x), l2] (.long x :: st) u := WP_u (.lload_n 1) [] rfl
theorem eX6_isWord_13 {l0 l1 l2 : Option Value} {st : List Value} {x y : Int64} : GX6_isWord w Q 13 [l0, l1, l2] (.long y :: .long x :: st) u ↔ GX6_isWord w Q 14 [l0, l1, l2] (.int (lg_cmp x y) :: st) u := WP_u (.lcmp) [] rfl
theorem eX6_isWord_14 {l0 l1 l2 : Option Value} {st : List Value} {x : Int32} : GX6_isWord w Q 14 [l0, l1, l2] (.int x :: st) u ↔ (¬ x = 0 → GX6_isWord w Q 21 [l0, l1, l2] st u) ∧ (¬ (¬ x = 0) → GX6_isWord w Q 17 [l0, l1, l2] st u) := (WP_u (.ifCond .ne 7) [21] rfl).trans ex_br
theorem eX6_isWord_17 {l0 l1 l2 : Option Value} {st : List Value} : GX6_isWord w Q 17 [l0, l1, l2] st u ↔ GX6_isWord w Q 18 [l0, l1, l2] (.int 1 :: st) u := WP_iconst rfl (by decide)
theorem eX6_isWord_18 {l0 l1 l2 : Option Value} {st : List Value} : GX6_isWord w Q 18 [l0, l1, l2] st u ↔ GX6_isWord w Q 22 [l0, l1, l2] st u := WP_u (.goto 4) [22] rfl
theorem eX6_isWord_21 {l0 l1 l2 : Option Value} {st : List Value} : GX6_isWord w Q 21 [l0, l1, l2] st u ↔ GX6_isWord w Q 22 [l0, l1, l2] (.int 0 :: st) u := WP_iconst rfl (by decide)
theorem eX6_isWord_22 {l0 l1 l2 : Option Value} {x : Int32} : GX6_isWord w Q 22 [l0, l1, l2] [.int x] u ↔ nb x ∧ Q (some (.int x)) u := (WP_u (.ireturn) [] rfl).trans ex_k
end
def VX6_isWord (w : WW) : Prop := ∀ (a1 : Int64) (u : MM), pX6_isWord a1 u → GX6_isWord w (fun r u' => r = some (.int (rX6_isWord a1 u)) ∧ u' = u) 0 [some (.ref (mA w)), some (.long a1), none] [] u
def KX6_kindHere (w : WW) : KT := (al flX6, al ciX6, al clX6, fun _ => none, fun _ => none, al [(220, csX6_isWord w)])
abbrev GX6_kindHere (w : WW) (Q : Option Value → MM → Prop) : Nat → LL → List Value → MM → Prop := WP w MX6_kindHere TX6_kindHere (KX6_kindHere w) Q
section
variable {w : WW} {Q : Option Value → MM → Prop} {u : MM}
theorem eX6_kindHere_0 {st : List Value} {x : Nat} : GX6_kindHere w Q 0 [some (.ref x)] st u ↔ GX6_kindHere w Q 1 [some (.ref x)] (.ref x :: st) u := WP_u (.aload_n 0) [] rfl
theorem eX6_kindHere_1 {l0 : Option Value} {st : List Value} : GX6_kindHere w Q 1 [l0] st u ↔ GX6_kindHere w Q 4 [l0] (.long (37503660303) :: st) u := WP_u (.ldc2_w 218) [] rfl
theorem eX6_kindHere_4 {l0 : Option Value} {x0 : Int64} {x1 : Nat} : GX6_kindHere w Q 4 [l0] [.long x0, .ref x1] u ↔ (x1 = mA w ∧ pX6_isWord x0 u) ∧ GX6_kindHere w Q 7 [l0] [.int (rX6_isWord x0 u)] u := (WP_u (.invokevirtual 220) [] rfl).trans (ex_call ⟨Nat.le_of_ble_eq_true rfl, Nat.le_of_ble_eq_true rfl⟩)
theorem eX6_kindHere_7 {l0 : Option Value} {st : List Value} {x : Int32} : GX6_kindHere w Q 7 [l0] (.int x :: st) u ↔ (x = 0 → GX6_kindHere w Q 14 [l0] st u) ∧ (¬ (x = 0) → GX6_kindHere w Q 10 [l0] st u) := (WP_u (.ifCond .eq 7) [14] rfl).trans ex_br
theorem eX6_kindHere_10 {l0 : Option Value} {st : List Value} : GX6_kindHere w Q 10 [l0] st u ↔ GX6_kindHere w Q 11 [l0] (.int 0 :: st) u := WP_iconst rfl (by decide)
theorem eX6_kindHere_11 {l0 : Option Value} {st : List Value} : GX6_kindHere w Q 11 [l0] st u ↔ GX6_kindHere w Q 85 [l0] st u := WP_u (.goto 74) [85] rfl
theorem eX6_kindHere_14 {st : List Value} {x : Nat} : GX6_kindHere w Q 14 [some (.ref x)] st u ↔ GX6_kindHere w Q 15 [some (.ref x)] (.ref x :: st) u := WP_u (.aload_n 0) [] rfl
theorem eX6_kindHere_15 {l0 : Option Value} {st : List Value} : GX6_kindHere w Q 15 [l0] st u ↔ GX6_kindHere w Q 18 [l0] (.long (4421) :: st) u := WP_u (.ldc2_w 224) [] rfl
theorem eX6_kindHere_18 {l0 : Option Value} {x0 : Int64} {x1 : Nat} : GX6_kindHere w Q 18 [l0] [.long x0, .ref x1] u ↔ (x1 = mA w ∧ pX6_isWord x0 u) ∧ GX6_kindHere w Q 21 [l0] [.int (rX6_isWord x0 u)] u := (WP_u (.invokevirtual 220) [] rfl).trans (ex_call ⟨Nat.le_of_ble_eq_true rfl, Nat.le_of_ble_eq_true rfl⟩)
theorem eX6_kindHere_21 {l0 : Option Value} {st : List Value} {x : Int32} : GX6_kindHere w Q 21 [l0] (.int x :: st) u ↔ (x = 0 → GX6_kindHere w Q 28 [l0] st u) ∧ (¬ (x = 0) → GX6_kindHere w Q 24 [l0] st u) := (WP_u (.ifCond .eq 7) [28] rfl).trans ex_br
theorem eX6_kindHere_24 {l0 : Option Value} {st : List Value} : GX6_kindHere w Q 24 [l0] st u ↔ GX6_kindHere w Q 25 [l0] (.int 1 :: st) u := WP_iconst rfl (by decide)
theorem eX6_kindHere_25 {l0 : Option Value} {st : List Value} : GX6_kindHere w Q 25 [l0] st u ↔ GX6_kindHere w Q 85 [l0] st u := WP_u (.goto 60) [85] rfl
theorem eX6_kindHere_28 {st : List Value} {x : Nat} : GX6_kindHere w Q 28 [some (.ref x)] st u ↔ GX6_kindHere w Q 29 [some (.ref x)] (.ref x :: st) u := WP_u (.aload_n 0) [] rfl
theorem eX6_kindHere_29 {l0 : Option Value} {st : List Value} : GX6_kindHere w Q 29 [l0] st u ↔ GX6_kindHere w Q 32 [l0] (.long (315851) :: st) u := WP_u (.ldc2_w 226) [] rfl
theorem eX6_kindHere_32 {l0 : Option Value} {x0 : Int64} {x1 : Nat} : GX6_kindHere w Q 32 [l0] [.long x0, .ref x1] u ↔ (x1 = mA w ∧ pX6_isWord x0 u) ∧ GX6_kindHere w Q 35 [l0] [.int (rX6_isWord x0 u)] u := (WP_u (.invokevirtual 220) [] rfl).trans (ex_call ⟨Nat.le_of_ble_eq_true rfl, Nat.le_of_ble_eq_true rfl⟩)
theorem eX6_kindHere_35 {l0 : Option Value} {st : List Value} {x : Int32} : GX6_kindHere w Q 35 [l0] (.int x :: st) u ↔ (x = 0 → GX6_kindHere w Q 42 [l0] st u) ∧ (¬ (x = 0) → GX6_kindHere w Q 38 [l0] st u) := (WP_u (.ifCond .eq 7) [42] rfl).trans ex_br
theorem eX6_kindHere_38 {l0 : Option Value} {st : List Value} : GX6_kindHere w Q 38 [l0] st u ↔ GX6_kindHere w Q 39 [l0] (.int 2 :: st) u := WP_iconst rfl (by decide)
theorem eX6_kindHere_39 {l0 : Option Value} {st : List Value} : GX6_kindHere w Q 39 [l0] st u ↔ GX6_kindHere w Q 85 [l0] st u := WP_u (.goto 46) [85] rfl
theorem eX6_kindHere_42 {st : List Value} {x : Nat} : GX6_kindHere w Q 42 [some (.ref x)] st u ↔ GX6_kindHere w Q 43 [some (.ref x)] (.ref x :: st) u := WP_u (.aload_n 0) [] rfl
theorem eX6_kindHere_43 {l0 : Option Value} {st : List Value} : GX6_kindHere w Q 43 [l0] st u ↔ GX6_kindHere w Q 46 [l0] (.long (7656243178) :: st) u := WP_u (.ldc2_w 228) [] rfl
theorem eX6_kindHere_46 {l0 : Option Value} {x0 : Int64} {x1 : Nat} : GX6_kindHere w Q 46 [l0] [.long x0, .ref x1] u ↔ (x1 = mA w ∧ pX6_isWord x0 u) ∧ GX6_kindHere w Q 49 [l0] [.int (rX6_isWord x0 u)] u := (WP_u (.invokevirtual 220) [] rfl).trans (ex_call ⟨Nat.le_of_ble_eq_true rfl, Nat.le_of_ble_eq_true rfl⟩)
theorem eX6_kindHere_49 {l0 : Option Value} {st : List Value} {x : Int32} : GX6_kindHere w Q 49 [l0] (.int x :: st) u ↔ (x = 0 → GX6_kindHere w Q 56 [l0] st u) ∧ (¬ (x = 0) → GX6_kindHere w Q 52 [l0] st u) := (WP_u (.ifCond .eq 7) [56] rfl).trans ex_br
theorem eX6_kindHere_52 {l0 : Option Value} {st : List Value} : GX6_kindHere w Q 52 [l0] st u ↔ GX6_kindHere w Q 53 [l0] (.int 3 :: st) u := WP_iconst rfl (by decide)
theorem eX6_kindHere_53 {l0 : Option Value} {st : List Value} : GX6_kindHere w Q 53 [l0] st u ↔ GX6_kindHere w Q 85 [l0] st u := WP_u (.goto 32) [85] rfl
theorem eX6_kindHere_56 {st : List Value} {x : Nat} : GX6_kindHere w Q 56 [some (.ref x)] st u ↔ GX6_kindHere w Q 57 [some (.ref x)] (.ref x :: st) u := WP_u (.aload_n 0) [] rfl
theorem eX6_kindHere_57 {l0 : Option Value} {st : List Value} : GX6_kindHere w Q 57 [l0] st u ↔ GX6_kindHere w Q 60 [l0] (.long (2401198578) :: st) u := WP_u (.ldc2_w 230) [] rfl
theorem eX6_kindHere_60 {l0 : Option Value} {x0 : Int64} {x1 : Nat} : GX6_kindHere w Q 60 [l0] [.long x0, .ref x1] u ↔ (x1 = mA w ∧ pX6_isWord x0 u) ∧ GX6_kindHere w Q 63 [l0] [.int (rX6_isWord x0 u)] u := (WP_u (.invokevirtual 220) [] rfl).trans (ex_call ⟨Nat.le_of_ble_eq_true rfl, Nat.le_of_ble_eq_true rfl⟩)
theorem eX6_kindHere_63 {l0 : Option Value} {st : List Value} {x : Int32} : GX6_kindHere w Q 63 [l0] (.int x :: st) u ↔ (x = 0 → GX6_kindHere w Q 70 [l0] st u) ∧ (¬ (x = 0) → GX6_kindHere w Q 66 [l0] st u) := (WP_u (.ifCond .eq 7) [70] rfl).trans ex_br
theorem eX6_kindHere_66 {l0 : Option Value} {st : List Value} : GX6_kindHere w Q 66 [l0] st u ↔ GX6_kindHere w Q 67 [l0] (.int 4 :: st) u := WP_iconst rfl (by decide)
theorem eX6_kindHere_67 {l0 : Option Value} {st : List Value} : GX6_kindHere w Q 67 [l0] st u ↔ GX6_kindHere w Q 85 [l0] st u := WP_u (.goto 18) [85] rfl
theorem eX6_kindHere_70 {st : List Value} {x : Nat} : GX6_kindHere w Q 70 [some (.ref x)] st u ↔ GX6_kindHere w Q 71 [some (.ref x)] (.ref x :: st) u := WP_u (.aload_n 0) [] rfl
theorem eX6_kindHere_71 {l0 : Option Value} {st : List Value} : GX6_kindHere w Q 71 [l0] st u ↔ GX6_kindHere w Q 74 [l0] (.long (70400) :: st) u := WP_u (.ldc2_w 232) [] rfl
theorem eX6_kindHere_74 {l0 : Option Value} {x0 : Int64} {x1 : Nat} : GX6_kindHere w Q 74 [l0] [.long x0, .ref x1] u ↔ (x1 = mA w ∧ pX6_isWord x0 u) ∧ GX6_kindHere w Q 77 [l0] [.int (rX6_isWord x0 u)] u := (WP_u (.invokevirtual 220) [] rfl).trans (ex_call ⟨Nat.le_of_ble_eq_true rfl, Nat.le_of_ble_eq_true rfl⟩)
theorem eX6_kindHere_77 {l0 : Option Value} {st : List Value} {x : Int32} : GX6_kindHere w Q 77 [l0] (.int x :: st) u ↔ (x = 0 → GX6_kindHere w Q 84 [l0] st u) ∧ (¬ (x = 0) → GX6_kindHere w Q 80 [l0] st u) := (WP_u (.ifCond .eq 7) [84] rfl).trans ex_br
theorem eX6_kindHere_80 {l0 : Option Value} {st : List Value} : GX6_kindHere w Q 80 [l0] st u ↔ GX6_kindHere w Q 81 [l0] (.int 5 :: st) u := WP_iconst rfl (by decide)
theorem eX6_kindHere_81 {l0 : Option Value} {st : List Value} : GX6_kindHere w Q 81 [l0] st u ↔ GX6_kindHere w Q 85 [l0] st u := WP_u (.goto 4) [85] rfl
theorem eX6_kindHere_84 {l0 : Option Value} {st : List Value} : GX6_kindHere w Q 84 [l0] st u ↔ GX6_kindHere w Q 85 [l0] (.int (-1) :: st) u := WP_iconst rfl (by decide)
theorem eX6_kindHere_85 {l0 : Option Value} {x : Int32} : GX6_kindHere w Q 85 [l0] [.int x] u ↔ Q (some (.int x)) u := (WP_u (.ireturn) [] rfl).trans (ex_ret rfl)
end
def VX6_kindHere (w : WW) : Prop := ∀  (u : MM), pX6_kindHere u → GX6_kindHere w (fun r u' => r = some (.int (rX6_kindHere u)) ∧ u' = u) 0 [some (.ref (mA w))] [] u
def KX6_wantNumber (w : WW) : KT := (al flX6, al ciX6, al clX6, fun _ => none, fun _ => none, al [(238, csX6_advance w), (65586, csX6_in w)])
abbrev GX6_wantNumber (w : WW) (Q : Option Value → MM → Prop) : Nat → LL → List Value → MM → Prop := WP w MX6_wantNumber TX6_wantNumber (KX6_wantNumber w) Q
section
variable {w : WW} {Q : Option Value → MM → Prop} {u : MM}
theorem eX6_wantNumber_0 {l1 l2 l3 : Option Value} {st : List Value} {x : Nat} : GX6_wantNumber w Q 0 [some (.ref x), l1, l2, l3] st u ↔ GX6_wantNumber w Q 1 [some (.ref x), l1, l2, l3] (.ref x :: st) u := WP_u (.aload_n 0) [] rfl
theorem eX6_wantNumber_1 {l0 l1 l2 l3 : Option Value} {st : List Value} {a : Nat} : GX6_wantNumber w Q 1 [l0, l1, l2, l3] (.ref a :: st) u ↔ okI w a 6 10 ∧ GX6_wantNumber w Q 4 [l0, l1, l2, l3] (.int (u.1 (ixI w a 10)) :: st) u := (WP_u (.getfield 209) [] rfl).trans ex_and
theorem eX6_wantNumber_4 {l0 l1 l2 l3 : Option Value} {st : List Value} {x : Int32} : GX6_wantNumber w Q 4 [l0, l1, l2, l3] (.int x :: st) u ↔ GX6_wantNumber w Q 5 [l0, l1, kl l2, some (.int x)] st u := (WP_u (.istore_n 3) [] rfl).trans (ex_drop (Nat.le_of_ble_eq_true rfl))
theorem eX6_wantNumber_5 {l1 l2 l3 : Option Value} {st : List Value} {x : Nat} : GX6_wantNumber w Q 5 [some (.ref x), l1, l2, l3] st u ↔ GX6_wantNumber w Q 6 [some (.ref x), l1, l2, l3] (.ref x :: st) u := WP_u (.aload_n 0) [] rfl
theorem eX6_wantNumber_6 {l1 l2 l3 : Option Value} {st : List Value} {x : Nat} : GX6_wantNumber w Q 6 [some (.ref x), l1, l2, l3] st u ↔ GX6_wantNumber w Q 7 [some (.ref x), l1, l2, l3] (.ref x :: st) u := WP_u (.aload_n 0) [] rfl
theorem eX6_wantNumber_7 {l0 l1 l2 l3 : Option Value} {st : List Value} {a : Nat} : GX6_wantNumber w Q 7 [l0, l1, l2, l3] (.ref a :: st) u ↔ okI w a 6 11 ∧ GX6_wantNumber w Q 10 [l0, l1, l2, l3] (.int (u.1 (ixI w a 11)) :: st) u := (WP_u (.getfield 234) [] rfl).trans ex_and
theorem eX6_wantNumber_10 {l0 l1 l2 l3 : Option Value} {st : List Value} {x : Int32} : GX6_wantNumber w Q 10 [l0, l1, l2, l3] (.int x :: st) u ↔ (x = 0 → GX6_wantNumber w Q 34 [l0, l1, l2, l3] st u) ∧ (¬ (x = 0) → GX6_wantNumber w Q 13 [l0, l1, l2, l3] st u) := (WP_u (.ifCond .eq 24) [34] rfl).trans ex_br
theorem eX6_wantNumber_13 {l1 l2 l3 : Option Value} {st : List Value} {x : Nat} : GX6_wantNumber w Q 13 [some (.ref x), l1, l2, l3] st u ↔ GX6_wantNumber w Q 14 [some (.ref x), l1, l2, l3] (.ref x :: st) u := WP_u (.aload_n 0) [] rfl
theorem eX6_wantNumber_14 {l0 l1 l2 l3 : Option Value} {st : List Value} {a : Nat} : GX6_wantNumber w Q 14 [l0, l1, l2, l3] (.ref a :: st) u ↔ okI w a 6 6 ∧ GX6_wantNumber w Q 17 [l0, l1, l2, l3] (.int (u.1 (ixI w a 6)) :: st) u := (WP_u (.getfield 202) [] rfl).trans ex_and
theorem eX6_wantNumber_17 {l0 l1 l2 l3 : Option Value} {st : List Value} : GX6_wantNumber w Q 17 [l0, l1, l2, l3] st u ↔ GX6_wantNumber w Q 18 [l0, l1, l2, l3] (.int 2 :: st) u := WP_iconst rfl (by decide)
theorem eX6_wantNumber_18 {l0 l1 l2 l3 : Option Value} {st : List Value} {x y : Int32} : GX6_wantNumber w Q 18 [l0, l1, l2, l3] (.int y :: .int x :: st) u ↔ (¬ x = y → GX6_wantNumber w Q 34 [l0, l1, l2, l3] st u) ∧ (¬ (¬ x = y) → GX6_wantNumber w Q 21 [l0, l1, l2, l3] st u) := (WP_u (.if_icmp .ne 16) [34] rfl).trans ex_br
theorem eX6_wantNumber_21 {l0 l1 l2 : Option Value} {st : List Value} {x : Int32} : GX6_wantNumber w Q 21 [l0, l1, l2, some (.int x)] st u ↔ GX6_wantNumber w Q 22 [l0, l1, l2, some (.int x)] (.int x :: st) u := WP_u (.iload_n 3) [] rfl
theorem eX6_wantNumber_22 {l0 l2 l3 : Option Value} {st : List Value} {x : Int32} : GX6_wantNumber w Q 22 [l0, some (.int x), l2, l3] st u ↔ GX6_wantNumber w Q 23 [l0, some (.int x), l2, l3] (.int x :: st) u := WP_u (.iload_n 1) [] rfl
theorem eX6_wantNumber_23 {l0 l1 l3 : Option Value} {st : List Value} {x : Int32} : GX6_wantNumber w Q 23 [l0, l1, some (.int x), l3] st u ↔ GX6_wantNumber w Q 24 [l0, l1, some (.int x), l3] (.int x :: st) u := WP_u (.iload_n 2) [] rfl
theorem eX6_wantNumber_24 {l0 l1 l2 l3 : Option Value} {x0 : Int32} {x1 : Int32} {x2 : Int32} {x3 : Nat} : GX6_wantNumber w Q 24 [l0, l1, l2, l3] [.int x0, .int x1, .int x2, .ref x3] u ↔ (pX6_in x2 x1 x0 u) ∧ GX6_wantNumber w Q 27 [l0, l1, l2, l3] [.int (rX6_in x2 x1 x0 u), .ref x3] u := (WP_u (.invokestatic 50) [] rfl).trans (ex_call ⟨Nat.le_of_ble_eq_true rfl, Nat.le_of_ble_eq_true rfl⟩)
theorem eX6_wantNumber_27 {l0 l1 l2 l3 : Option Value} {st : List Value} {x : Int32} : GX6_wantNumber w Q 27 [l0, l1, l2, l3] (.int x :: st) u ↔ (x = 0 → GX6_wantNumber w Q 34 [l0, l1, l2, l3] st u) ∧ (¬ (x = 0) → GX6_wantNumber w Q 30 [l0, l1, l2, l3] st u) := (WP_u (.ifCond .eq 7) [34] rfl).trans ex_br
theorem eX6_wantNumber_30 {l0 l1 l2 l3 : Option Value} {st : List Value} : GX6_wantNumber w Q 30 [l0, l1, l2, l3] st u ↔ GX6_wantNumber w Q 31 [l0, l1, l2, l3] (.int 1 :: st) u := WP_iconst rfl (by decide)
theorem eX6_wantNumber_31 {l0 l1 l2 l3 : Option Value} {st : List Value} : GX6_wantNumber w Q 31 [l0, l1, l2, l3] st u ↔ GX6_wantNumber w Q 35 [l0, l1, l2, l3] st u := WP_u (.goto 4) [35] rfl
theorem eX6_wantNumber_34 {l0 l1 l2 l3 : Option Value} {st : List Value} : GX6_wantNumber w Q 34 [l0, l1, l2, l3] st u ↔ GX6_wantNumber w Q 35 [l0, l1, l2, l3] (.int 0 :: st) u := WP_iconst rfl (by decide)
theorem eX6_wantNumber_35 {l0 l1 l2 l3 : Option Value} {st : List Value} {a : Nat} {x : Int32} : GX6_wantNumber w Q 35 [l0, l1, l2, l3] (.int x :: .ref a :: st) u ↔ (okI w a 6 11 ∧ (x = 0 ∨ x = 1)) ∧ GX6_wantNumber w Q 38 [l0, l1, l2, l3] st (uI u (ixI w a 11) x) := (WP_u (.putfield 234) [] rfl).trans ex_and
theorem eX6_wantNumber_38 {l1 l2 l3 : Option Value} {st : List Value} {x : Nat} : GX6_wantNumber w Q 38 [some (.ref x), l1, l2, l3] st u ↔ GX6_wantNumber w Q 39 [some (.ref x), l1, l2, l3] (.ref x :: st) u := WP_u (.aload_n 0) [] rfl
theorem eX6_wantNumber_39 {l0 l1 l2 l3 : Option Value} {st : List Value} {a : Nat} : GX6_wantNumber w Q 39 [l0, l1, l2, l3] (.ref a :: st) u ↔ okI w a 6 11 ∧ GX6_wantNumber w Q 42 [l0, l1, l2, l3] (.int (u.1 (ixI w a 11)) :: st) u := (WP_u (.getfield 234) [] rfl).trans ex_and
theorem eX6_wantNumber_42 {l0 l1 l2 l3 : Option Value} {st : List Value} {x : Int32} : GX6_wantNumber w Q 42 [l0, l1, l2, l3] (.int x :: st) u ↔ (x = 0 → GX6_wantNumber w Q 49 [l0, l1, l2, l3] st u) ∧ (¬ (x = 0) → GX6_wantNumber w Q 45 [l0, l1, l2, l3] st u) := (WP_u (.ifCond .eq 7) [49] rfl).trans ex_br
theorem eX6_wantNumber_45 {l1 l2 l3 : Option Value} {st : List Value} {x : Nat} : GX6_wantNumber w Q 45 [some (.ref x), l1, l2, l3] st u ↔ GX6_wantNumber w Q 46 [some (.ref x), l1, l2, l3] (.ref x :: st) u := WP_u (.aload_n 0) [] rfl
theorem eX6_wantNumber_46 {l0 l1 l2 l3 : Option Value} {x0 : Nat} : GX6_wantNumber w Q 46 [l0, l1, l2, l3] [.ref x0] u ↔ (x0 = mA w ∧ pX6_advance u) ∧ GX6_wantNumber w Q 49 [l0, l1, l2, l3] [] (mX6_advance u) := (WP_u (.invokevirtual 238) [] rfl).trans (ex_call ⟨Nat.le_of_ble_eq_true rfl, Nat.le_of_ble_eq_true rfl⟩)
theorem eX6_wantNumber_49 {l0 l1 l2 : Option Value} {st : List Value} {x : Int32} : GX6_wantNumber w Q 49 [l0, l1, l2, some (.int x)] st u ↔ GX6_wantNumber w Q 50 [l0, l1, l2, some (.int x)] (.int x :: st) u := WP_u (.iload_n 3) [] rfl
theorem eX6_wantNumber_50 {l0 l1 l2 l3 : Option Value} {x : Int32} : GX6_wantNumber w Q 50 [l0, l1, l2, l3] [.int x] u ↔ Q (some (.int x)) u := (WP_u (.ireturn) [] rfl).trans (ex_ret rfl)
end
def VX6_wantNumber (w : WW) : Prop := ∀ (a1 : Int32) (a2 : Int32) (u : MM), pX6_wantNumber a1 a2 u → GX6_wantNumber w (fun r u' => r = some (.int (rX6_wantNumber a1 a2 u)) ∧ u' = (mX6_wantNumber a1 a2 u)) 0 [some (.ref (mA w)), some (.int a1), some (.int a2), none] [] u
def KX6_mayWant (w : WW) : KT := (al flX6, al ciX6, al clX6, fun _ => none, fun _ => none, al [(220, csX6_isWord w), (238, csX6_advance w), (241, csX6_wantNumber w)])
abbrev GX6_mayWant (w : WW) (Q : Option Value → MM → Prop) : Nat → LL → List Value → MM → Prop := WP w MX6_mayWant TX6_mayWant (KX6_mayWant w) Q
section
variable {w : WW} {Q : Option Value → MM → Prop} {u : MM}
theorem eX6_mayWant_0 {l1 l2 l3 l4 l5 : Option Value} {st : List Value} {x : Nat} : GX6_mayWant w Q 0 [some (.ref x), l1, l2, l3, l4, l5] st u ↔ GX6_mayWant w Q 1 [some (.ref x), l1, l2, l3, l4, l5] (.ref x :: st) u := WP_u (.aload_n 0) [] rfl
theorem eX6_mayWant_1 {l0 l1 l2 l3 l4 l5 : Option Value} {st : List Value} {a : Nat} : GX6_mayWant w Q 1 [l0, l1, l2, l3, l4, l5] (.ref a :: st) u ↔ okI w a 6 11 ∧ GX6_mayWant w Q 4 [l0, l1, l2, l3, l4, l5] (.int (u.1 (ixI w a 11)) :: st) u := (WP_u (.getfield 234) [] rfl).trans ex_and
theorem eX6_mayWant_4 {l0 l1 l2 l3 l4 l5 : Option Value} {st : List Value} {x : Int32} : GX6_mayWant w Q 4 [l0, l1, l2, l3, l4, l5] (.int x :: st) u ↔ (x = 0 → GX6_mayWant w Q 15 [l0, l1, l2, l3, l4, l5] st u) ∧ (¬ (x = 0) → GX6_mayWant w Q 7 [l0, l1, l2, l3, l4, l5] st u) := (WP_u (.ifCond .eq 11) [15] rfl).trans ex_br
theorem eX6_mayWant_7 {l1 l2 l3 l4 l5 : Option Value} {st : List Value} {x : Nat} : GX6_mayWant w Q 7 [some (.ref x), l1, l2, l3, l4, l5] st u ↔ GX6_mayWant w Q 8 [some (.ref x), l1, l2, l3, l4, l5] (.ref x :: st) u := WP_u (.aload_n 0) [] rfl
theorem eX6_mayWant_8 {l0 l2 l3 l4 l5 : Option Value} {st : List Value} {x : Int64} : GX6_mayWant w Q 8 [l0, some (.long x), l2, l3, l4, l5] st u ↔ GX6_mayWant w Q 9 [l0, some (.long x), l2, l3, l4, l5] (.long x :: st) u := WP_u (.lload_n 1) [] rfl
theorem eX6_mayWant_9 {l0 l1 l2 l3 l4 l5 : Option Value} {x0 : Int64} {x1 : Nat} : GX6_mayWant w Q 9 [l0, l1, l2, l3, l4, l5] [.long x0, .ref x1] u ↔ (x1 = mA w ∧ pX6_isWord x0 u) ∧ GX6_mayWant w Q 12 [l0, l1, l2, l3, l4, l5] [.int (rX6_isWord x0 u)] u := (WP_u (.invokevirtual 220) [] rfl).trans (ex_call ⟨Nat.le_of_ble_eq_true rfl, Nat.le_of_ble_eq_true rfl⟩)
theorem eX6_mayWant_12 {l0 l1 l2 l3 l4 l5 : Option Value} {st : List Value} {x : Int32} : GX6_mayWant w Q 12 [l0, l1, l2, l3, l4, l5] (.int x :: st) u ↔ (¬ x = 0 → GX6_mayWant w Q 18 [l0, l1, l2, l3, l4, l5] st u) ∧ (¬ (¬ x = 0) → GX6_mayWant w Q 15 [l0, l1, l2, l3, l4, l5] st u) := (WP_u (.ifCond .ne 6) [18] rfl).trans ex_br
theorem eX6_mayWant_15 {l0 l1 l2 l3 l4 : Option Value} {st : List Value} {x : Int32} : GX6_mayWant w Q 15 [l0, l1, l2, l3, l4, some (.int x)] st u ↔ GX6_mayWant w Q 17 [l0, l1, l2, l3, l4, some (.int x)] (.int x :: st) u := WP_u (.iload 5) [] rfl
theorem eX6_mayWant_17 {l0 l1 l2 l3 l4 l5 : Option Value} {x : Int32} : GX6_mayWant w Q 17 [l0, l1, l2, l3, l4, l5] [.int x] u ↔ Q (some (.int x)) u := (WP_u (.ireturn) [] rfl).trans (ex_ret rfl)
theorem eX6_mayWant_18 {l1 l2 l3 l4 l5 : Option Value} {st : List Value} {x : Nat} : GX6_mayWant w Q 18 [some (.ref x), l1, l2, l3, l4, l5] st u ↔ GX6_mayWant w Q 19 [some (.ref x), l1, l2, l3, l4, l5] (.ref x :: st) u := WP_u (.aload_n 0) [] rfl
theorem eX6_mayWant_19 {l0 l1 l2 l3 l4 l5 : Option Value} {x0 : Nat} : GX6_mayWant w Q 19 [l0, l1, l2, l3, l4, l5] [.ref x0] u ↔ (x0 = mA w ∧ pX6_advance u) ∧ GX6_mayWant w Q 22 [l0, l1, l2, l3, l4, l5] [] (mX6_advance u) := (WP_u (.invokevirtual 238) [] rfl).trans (ex_call ⟨Nat.le_of_ble_eq_true rfl, Nat.le_of_ble_eq_true rfl⟩)
theorem eX6_mayWant_22 {l1 l2 l3 l4 l5 : Option Value} {st : List Value} {x : Nat} : GX6_mayWant w Q 22 [some (.ref x), l1, l2, l3, l4, l5] st u ↔ GX6_mayWant w Q 23 [some (.ref x), l1, l2, l3, l4, l5] (.ref x :: st) u := WP_u (.aload_n 0) [] rfl
theorem eX6_mayWant_23 {l0 l1 l2 l4 l5 : Option Value} {st : List Value} {x : Int32} : GX6_mayWant w Q 23 [l0, l1, l2, some (.int x), l4, l5] st u ↔ GX6_mayWant w Q 24 [l0, l1, l2, some (.int x), l4, l5] (.int x :: st) u := WP_u (.iload_n 3) [] rfl
theorem eX6_mayWant_24 {l0 l1 l2 l3 l5 : Option Value} {st : List Value} {x : Int32} : GX6_mayWant w Q 24 [l0, l1, l2, l3, some (.int x), l5] st u ↔ GX6_mayWant w Q 26 [l0, l1, l2, l3, some (.int x), l5] (.int x :: st) u := WP_u (.iload 4) [] rfl
theorem eX6_mayWant_26 {l0 l1 l2 l3 l4 l5 : Option Value} {x0 : Int32} {x1 : Int32} {x2 : Nat} : GX6_mayWant w Q 26 [l0, l1, l2, l3, l4, l5] [.int x0, .int x1, .ref x2] u ↔ (x2 = mA w ∧ pX6_wantNumber x1 x0 u) ∧ GX6_mayWant w Q 29 [l0, l1, l2, l3, l4, l5] [.int (rX6_wantNumber x1 x0 u)] (mX6_wantNumber x1 x0 u) := (WP_u (.invokevirtual 241) [] rfl).trans (ex_call ⟨Nat.le_of_ble_eq_true rfl, Nat.le_of_ble_eq_true rfl⟩)
theorem eX6_mayWant_29 {l0 l1 l2 l3 l4 l5 : Option Value} {x : Int32} : GX6_mayWant w Q 29 [l0, l1, l2, l3, l4, l5] [.int x] u ↔ Q (some (.int x)) u := (WP_u (.ireturn) [] rfl).trans (ex_ret rfl)
end
def VX6_mayWant (w : WW) : Prop := ∀ (a1 : Int64) (a2 : Int32) (a3 : Int32) (a4 : Int32) (u : MM), pX6_mayWant a1 a2 a3 a4 u → GX6_mayWant w (fun r u' => r = some (.int (rX6_mayWant a1 a2 a3 a4 u)) ∧ u' = (mX6_mayWant a1 a2 a3 a4 u)) 0 [some (.ref (mA w)), some (.long a1), none, some (.int a2), some (.int a3), some (.int a4)] [] u
