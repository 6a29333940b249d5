/-! ===== the class's sheets; the tape's tokens ===== -/
theorem nrw8 (v : Int64) : v.toInt32.toInt8.toInt32.toInt64 = v <<< ((56 : Int32).toInt64 &&& 63) >>> ((56 : Int32).toInt64 &&& 63) := by
  have e : ((56 : Int32).toInt64 &&& 63 : Int64) = 56 := by decide
  rw [e]
  apply Int64.toBitVec_inj.mp
  rw [Int64.toBitVec_shiftRight, Int64.toBitVec_shiftLeft]
  have s : (56 : Int64).toBitVec.smod 64 = 56#64 := by decide
  rw [s]
  simp only [Int32.toBitVec_toInt64, Int8.toBitVec_toInt32, Int32.toBitVec_toInt8, Int64.toBitVec_toInt32]
  apply BitVec.eq_of_getLsbD_eq
  intro i hi
  have k : (56#64).toNat = 56 := rfl
  simp only [BitVec.sshiftRight_eq', BitVec.shiftLeft_eq', k, BitVec.getLsbD_sshiftRight, BitVec.getLsbD_shiftLeft, BitVec.getLsbD_signExtend, BitVec.getLsbD_setWidth, BitVec.msb_eq_getLsbD_last]
  by_cases h : i < 8
  · simp [h, hi, show i < 32 by omega, show 56 + i < 64 by omega, show ¬ 64 ≤ i by omega]
  · by_cases h2 : i < 32
    · simp [h, h2, hi, show ¬ 56 + i < 64 by omega, show ¬ 64 ≤ i by omega]
    · simp [h2, hi, show ¬ 56 + i < 64 by omega, show ¬ 64 ≤ i by omega]
theorem nrw16 (v : Int64) : v.toInt32.toInt16.toInt32.toInt64 = v <<< ((48 : Int32).toInt64 &&& 63) >>> ((48 : Int32).toInt64 &&& 63) := by
  have e : ((48 : Int32).toInt64 &&& 63 : Int64) = 48 := by decide
  rw [e]
  apply Int64.toBitVec_inj.mp
  rw [Int64.toBitVec_shiftRight, Int64.toBitVec_shiftLeft]
  have s : (48 : Int64).toBitVec.smod 64 = 48#64 := by decide
  rw [s]
  simp only [Int32.toBitVec_toInt64, Int16.toBitVec_toInt32, Int32.toBitVec_toInt16, Int64.toBitVec_toInt32]
  apply BitVec.eq_of_getLsbD_eq
  intro i hi
  have k : (48#64).toNat = 48 := rfl
  simp only [BitVec.sshiftRight_eq', BitVec.shiftLeft_eq', k, BitVec.getLsbD_sshiftRight, BitVec.getLsbD_shiftLeft, BitVec.getLsbD_signExtend, BitVec.getLsbD_setWidth, BitVec.msb_eq_getLsbD_last]
  by_cases h : i < 16
  · simp [h, hi, show i < 32 by omega, show 48 + i < 64 by omega, show ¬ 64 ≤ i by omega]
  · by_cases h2 : i < 32
    · simp [h, h2, hi, show ¬ 48 + i < 64 by omega, show ¬ 64 ≤ i by omega]
    · simp [h2, hi, show ¬ 48 + i < 64 by omega, show ¬ 64 ≤ i by omega]
def pX3_layOut (_ : Nat) (_ _ : Int32) (_ : MM) : Prop := True
def mX3_layOut (s : Nat) (b n : Int32) (u : MM) : MM := zr (uI (uI u (430 + 2 * s) b) (430 + 2 * s + 1) (if b = 0 then 0 else n)) (40 * s) 40
def pX3_put (_ : Nat) (i : Int32) (_ : Int64) (_ : MM) : Prop := vp_in i 40
def mX3_put (s : Nat) (i : Int32) (v : Int64) (u : MM) : MM := uJ u (40 * s + NN i) (nrw (u.1 (430 + 2 * s)) v)
/-- the class's tape: its bytes, -1 beyond them -/
def bx (u : MM) (k : Nat) : Int32 := if k < NN (u.1 281) then u.1 (300 + k) else -1
/-- sort, where it begins, the byte behind it, its number -/
abbrev TC : Type := Int32 × Int32 × Int32 × Int32
def tc (u : MM) : TC := (u.1 282, u.1 283, u.1 284, u.1 285)
def tx (u : MM) (t : TC) : MM := (fun j => if j = 282 then t.1 else if j = 283 then t.2.1 else if j = 284 then t.2.2.1 else if j = 285 then t.2.2.2 else u.1 j, u.2)
/-- bytes are no negative numbers; what lies on the tape lies within it -/
def TX (u : MM) : Prop := (∃ L, L ≤ 120 ∧ u.1 281 = nI L) ∧ ∀ k, k < NN (u.1 281) → ¬ u.1 (300 + k) < 0
def EX (u : MM) : Prop := ∃ e, e ≤ NN (u.1 281) ∧ u.1 284 = nI e
def tkC (b : Int32) : Int32 := if b < 0 then 0 else if isLt b then 1 else if isDg b then 2 else if b = 59 then 3 else 4
def advC (B : Nat → Int32) (L : Nat) (t : TC) : TC :=
  (tkC (B (tkB B L (NN t.2.2.1))), nI (tkB B L (NN t.2.2.1)), nI (tkE B L (tkB B L (NN t.2.2.1))), if srt (B (tkB B L (NN t.2.2.1))) = 2 then nmb B (tkB B L (NN t.2.2.1)) (tkE B L (tkB B L (NN t.2.2.1)) - tkB B L (NN t.2.2.1)) else t.2.2.2)
def pX4_isLetter (_ : Int32) (_ : MM) : Prop := True
def rX4_isLetter (b : Int32) (_ : MM) : Int32 := bi (isLt b)
def pX4_isDigit (_ : Int32) (_ : MM) : Prop := True
def rX4_isDigit (b : Int32) (_ : MM) : Int32 := bi (isDg b)
def pX4_append (_ : Int32) (u : MM) : Prop := vp_in (u.1 281) 120
def mX4_append (b : Int32) (u : MM) : MM := uI (uI u (300 + NN (u.1 281)) b) 281 (u.1 281 + 1)
def pX4_isNumberBelow (_ : Int32) (_ : MM) : Prop := True
def rX4_isNumberBelow (n : Int32) (u : MM) : Int32 := bi (u.1 282 = 2 ∧ u.1 285 < n)
def pX4_readWord (u : MM) : Prop := TX u ∧ EX u
def mX4_readWord (u : MM) : MM := uI u 284 (nI (scn isLt (bx u) (NN (u.1 281) - NN (u.1 284)) (NN (u.1 284))))
def pX4_readNumber (u : MM) : Prop := TX u ∧ EX u
def mX4_readNumber (u : MM) : MM := uI (uI u 284 (nI (scn isDg (bx u) (NN (u.1 281) - NN (u.1 284)) (NN (u.1 284))))) 285 (nmb (bx u) (NN (u.1 284)) (scn isDg (bx u) (NN (u.1 281) - NN (u.1 284)) (NN (u.1 284)) - NN (u.1 284)))
def pX4_advance (u : MM) : Prop := TX u ∧ EX u
def mX4_advance (u : MM) : MM := tx u (advC (bx u) (NN (u.1 281)) (tc u))
def flX4 : List (Nat × (Nat × Nat × Nat)) := [(9, (4, 0, 2)), (15, (4, 1, 0)), (19, (4, 4, 0)), (43, (4, 2, 0)), (46, (4, 3, 0)), (59, (4, 5, 0)), (72, (0, 2, 0)), (101, (0, 1, 2)), (105, (1, 3, 0))]
def ciX4 : List (Nat × Int32) := []
def clX4 : List (Nat × Int64) := []
theorem flX4_ok : (flX4.all fun q => fOk RX4 q.1 q.2.1 q.2.2.1 q.2.2.2) = true := by decide +kernel
theorem ciX4_ok : (ciX4.all fun q => decide (Cond.constant RX4 q.1 q.2 ∈ Gt)) = true := by decide +kernel
theorem clX4_ok : (clX4.all fun q => decide (Cond.constantLong RX4 q.1 q.2 ∈ Gt)) = true := by decide +kernel
def MX3_layOut : MI := (cX3_layOut, 4, none, RX3, { frames := 0, cells := 0, slots := 0, locals := 0 })
def TX3_layOut : TB := [(0, .aload_n 0, 1, []), (1, .iload_n 1, 1, []), (2, .putfield 15, 3, []), (5, .aload_n 0, 1, []), (6, .iload_n 1, 1, []), (7, .ifCond .ne 7, 3, [14]), (10, .iconst 0, 1, []), (11, .goto 4, 3, [15]), (14, .iload_n 2, 1, []), (15, .putfield 19, 3, []), (18, .iconst 0, 1, []), (19, .istore_n 3, 1, []), (20, .iload_n 3, 1, []), (21, .bipush 40, 2, []), (23, .if_icmp .ge 16, 3, [39]), (26, .aload_n 0, 1, []), (27, .getfield 9, 3, []), (30, .iload_n 3, 1, []), (31, .lconst 0, 1, []), (32, .lastore, 1, []), (33, .iinc 3 1, 3, []), (36, .goto (-16), 3, [20]), (39, .return_, 1, [])]
set_option maxRecDepth 20000 in
theorem TX3_layOut_ok : TX3_layOut.all (chk MX3_layOut.1) = true := by decide +kernel
theorem TX3_layOut_v : TX3_layOut.all vOk = true := by decide +kernel
def csX3_layOut (w : WW) : CS := (3, fun as u => match as with | [.ref a0, .int a1, .int a2] => tOk w a0 ∧ pX3_layOut (tq w a0) a1 a2 u | _ => False, fun as u => match as with | [.ref a0, .int a1, .int a2] => (none, (mX3_layOut (tq w a0) a1 a2 u)) | _ => (none, u))
def MX3_put : MI := (cX3_put, 4, none, RX3, { frames := 0, cells := 0, slots := 0, locals := 0 })
def TX3_put : TB := [(0, .aload_n 0, 1, []), (1, .getfield 15, 3, []), (4, .lookupswitch 54 #[(8, 28), (16, 41)], 28, [58, 32, 45]), (32, .aload_n 0, 1, []), (33, .getfield 9, 3, []), (36, .iload_n 1, 1, []), (37, .lload_n 2, 1, []), (38, .l2i, 1, []), (39, .i2b, 1, []), (40, .i2l, 1, []), (41, .lastore, 1, []), (42, .goto 23, 3, [65]), (45, .aload_n 0, 1, []), (46, .getfield 9, 3, []), (49, .iload_n 1, 1, []), (50, .lload_n 2, 1, []), (51, .l2i, 1, []), (52, .i2s, 1, []), (53, .i2l, 1, []), (54, .lastore, 1, []), (55, .goto 10, 3, [65]), (58, .aload_n 0, 1, []), (59, .getfield 9, 3, []), (62, .iload_n 1, 1, []), (63, .lload_n 2, 1, []), (64, .lastore, 1, []), (65, .return_, 1, [])]
set_option maxRecDepth 20000 in
theorem TX3_put_ok : TX3_put.all (chk MX3_put.1) = true := by decide +kernel
theorem TX3_put_v : TX3_put.all vOk = true := by decide +kernel
def csX3_put (w : WW) : CS := (3, fun as u => match as with | [.ref a0, .int a1, .long a2] => tOk w a0 ∧ pX3_put (tq w a0) a1 a2 u | _ => False, fun as u => match as with | [.ref a0, .int a1, .long a2] => (none, (mX3_put (tq w a0) a1 a2 u)) | _ => (none, u))
def MX4_isLetter : MI := (cX4_isLetter, 1, some .boolean, RX4, { frames := 0, cells := 0, slots := 0, locals := 0 })
def TX4_isLetter : TB := [(0, .iload_n 0, 1, []), (1, .bipush 97, 2, []), (3, .if_icmp .lt 13, 3, [16]), (6, .iload_n 0, 1, []), (7, .bipush 122, 2, []), (9, .if_icmp .gt 7, 3, [16]), (12, .iconst 1, 1, []), (13, .goto 4, 3, [17]), (16, .iconst 0, 1, []), (17, .ireturn, 1, [])]
set_option maxRecDepth 20000 in
theorem TX4_isLetter_ok : TX4_isLetter.all (chk MX4_isLetter.1) = true := by decide +kernel
theorem TX4_isLetter_v : TX4_isLetter.all vOk = true := by decide +kernel
def csX4_isLetter (w : WW) : CS := (1, fun as u => match as with | [.int a0] => pX4_isLetter a0 u | _ => False, fun as u => match as with | [.int a0] => (some (.int (rX4_isLetter a0 u)), u) | _ => (none, u))
def MX4_isDigit : MI := (cX4_isDigit, 1, some .boolean, RX4, { frames := 0, cells := 0, slots := 0, locals := 0 })
def TX4_isDigit : TB := [(0, .iload_n 0, 1, []), (1, .bipush 48, 2, []), (3, .if_icmp .lt 13, 3, [16]), (6, .iload_n 0, 1, []), (7, .bipush 57, 2, []), (9, .if_icmp .gt 7, 3, [16]), (12, .iconst 1, 1, []), (13, .goto 4, 3, [17]), (16, .iconst 0, 1, []), (17, .ireturn, 1, [])]
set_option maxRecDepth 20000 in
theorem TX4_isDigit_ok : TX4_isDigit.all (chk MX4_isDigit.1) = true := by decide +kernel
theorem TX4_isDigit_v : TX4_isDigit.all vOk = true := by decide +kernel
def csX4_isDigit (w : WW) : CS := (1, fun as u => match as with | [.int a0] => pX4_isDigit a0 u | _ => False, fun as u => match as with | [.int a0] => (some (.int (rX4_isDigit a0 u)), u) | _ => (none, u))
def MX4_append : MI := (cX4_append, 2, none, RX4, { frames := 0, cells := 0, slots := 0, locals := 0 })
def TX4_append : TB := [(0, .aload_n 0, 1, []), (1, .getfield 15, 3, []), (4, .bipush 120, 2, []), (6, .if_icmp .ge 23, 3, [29]), (9, .aload_n 0, 1, []), (10, .getfield 9, 3, []), (13, .aload_n 0, 1, []), (14, .getfield 15, 3, []), (17, .iload_n 1, 1, []), (18, .iastore, 1, []), (19, .aload_n 0, 1, []), (20, .dup, 1, []), (21, .getfield 15, 3, []), (24, .iconst 1, 1, []), (25, .iadd, 1, []), (26, .putfield 15, 3, []), (29, .return_, 1, [])]
set_option maxRecDepth 20000 in
theorem TX4_append_ok : TX4_append.all (chk MX4_append.1) = true := by decide +kernel
theorem TX4_append_v : TX4_append.all vOk = true := by decide +kernel
def csX4_append (w : WW) : CS := (2, fun as u => match as with | [.ref a0, .int a1] => a0 = tpA w ∧ pX4_append a1 u | _ => False, fun as u => match as with | [.ref a0, .int a1] => (none, (mX4_append a1 u)) | _ => (none, u))
def MX4_isNumberBelow : MI := (cX4_isNumberBelow, 2, some .boolean, RX4, { frames := 0, cells := 0, slots := 0, locals := 0 })
def TX4_isNumberBelow : TB := [(0, .aload_n 0, 1, []), (1, .getfield 43, 3, []), (4, .iconst 2, 1, []), (5, .if_icmp .ne 15, 3, [20]), (8, .aload_n 0, 1, []), (9, .getfield 59, 3, []), (12, .iload_n 1, 1, []), (13, .if_icmp .ge 7, 3, [20]), (16, .iconst 1, 1, []), (17, .goto 4, 3, [21]), (20, .iconst 0, 1, []), (21, .ireturn, 1, [])]
set_option maxRecDepth 20000 in
theorem TX4_isNumberBelow_ok : TX4_isNumberBelow.all (chk MX4_isNumberBelow.1) = true := by decide +kernel
theorem TX4_isNumberBelow_v : TX4_isNumberBelow.all vOk = true := by decide +kernel
def csX4_isNumberBelow (w : WW) : CS := (2, fun as u => match as with | [.ref a0, .int a1] => a0 = tpA w ∧ pX4_isNumberBelow a1 u | _ => False, fun as u => match as with | [.ref a0, .int a1] => (some (.int (rX4_isNumberBelow a1 u)), u) | _ => (none, u))
def MX4_readWord : MI := (cX4_readWord, 1, none, RX4, { frames := 1, cells := 0, slots := 0, locals := 20 })
def TX4_readWord : TB := [(0, .aload_n 0, 1, []), (1, .getfield 19, 3, []), (4, .aload_n 0, 1, []), (5, .getfield 15, 3, []), (8, .if_icmp .ge 31, 3, [39]), (11, .aload_n 0, 1, []), (12, .getfield 9, 3, []), (15, .aload_n 0, 1, []), (16, .getfield 19, 3, []), (19, .iaload, 1, []), (20, .invokestatic 134, 3, []), (23, .ifCond .eq 16, 3, [39]), (26, .aload_n 0, 1, []), (27, .dup, 1, []), (28, .getfield 19, 3, []), (31, .iconst 1, 1, []), (32, .iadd, 1, []), (33, .putfield 19, 3, []), (36, .goto (-36), 3, [0]), (39, .return_, 1, [])]
set_option maxRecDepth 20000 in
theorem TX4_readWord_ok : TX4_readWord.all (chk MX4_readWord.1) = true := by decide +kernel
theorem TX4_readWord_v : TX4_readWord.all vOk = true := by decide +kernel
def csX4_readWord (w : WW) : CS := (1, fun as u => match as with | [.ref a0] => a0 = tpA w ∧ pX4_readWord u | _ => False, fun as u => match as with | [.ref a0] => (none, (mX4_readWord u)) | _ => (none, u))
def MX4_readNumber : MI := (cX4_readNumber, 1, none, RX4, { frames := 1, cells := 0, slots := 0, locals := 21 })
def TX4_readNumber : TB := [(0, .aload_n 0, 1, []), (1, .iconst 0, 1, []), (2, .putfield 59, 3, []), (5, .aload_n 0, 1, []), (6, .getfield 19, 3, []), (9, .aload_n 0, 1, []), (10, .getfield 15, 3, []), (13, .if_icmp .ge 61, 3, [74]), (16, .aload_n 0, 1, []), (17, .getfield 9, 3, []), (20, .aload_n 0, 1, []), (21, .getfield 19, 3, []), (24, .iaload, 1, []), (25, .invokestatic 140, 3, []), (28, .ifCond .eq 46, 3, [74]), (31, .aload_n 0, 1, []), (32, .bipush 10, 2, []), (34, .aload_n 0, 1, []), (35, .getfield 59, 3, []), (38, .imul, 1, []), (39, .aload_n 0, 1, []), (40, .getfield 9, 3, []), (43, .aload_n 0, 1, []), (44, .getfield 19, 3, []), (47, .iaload, 1, []), (48, .iadd, 1, []), (49, .bipush 48, 2, []), (51, .isub, 1, []), (52, .sipush 10000, 3, []), (55, .invokestatic 146, 3, []), (58, .putfield 59, 3, []), (61, .aload_n 0, 1, []), (62, .dup, 1, []), (63, .getfield 19, 3, []), (66, .iconst 1, 1, []), (67, .iadd, 1, []), (68, .putfield 19, 3, []), (71, .goto (-66), 3, [5]), (74, .return_, 1, [])]
set_option maxRecDepth 20000 in
theorem TX4_readNumber_ok : TX4_readNumber.all (chk MX4_readNumber.1) = true := by decide +kernel
theorem TX4_readNumber_v : TX4_readNumber.all vOk = true := by decide +kernel
def csX4_readNumber (w : WW) : CS := (1, fun as u => match as with | [.ref a0] => a0 = tpA w ∧ pX4_readNumber u | _ => False, fun as u => match as with | [.ref a0] => (none, (mX4_readNumber u)) | _ => (none, u))
def MX4_advance : MI := (cX4_advance, 1, none, RX4, { frames := 2, cells := 0, slots := 0, locals := 41 })
def TX4_advance : TB := [(0, .aload_n 0, 1, []), (1, .getfield 19, 3, []), (4, .aload_n 0, 1, []), (5, .getfield 15, 3, []), (8, .if_icmp .ge 30, 3, [38]), (11, .aload_n 0, 1, []), (12, .getfield 9, 3, []), (15, .aload_n 0, 1, []), (16, .getfield 19, 3, []), (19, .iaload, 1, []), (20, .bipush 32, 2, []), (22, .if_icmp .ne 16, 3, [38]), (25, .aload_n 0, 1, []), (26, .dup, 1, []), (27, .getfield 19, 3, []), (30, .iconst 1, 1, []), (31, .iadd, 1, []), (32, .putfield 19, 3, []), (35, .goto (-35), 3, [0]), (38, .aload_n 0, 1, []), (39, .aload_n 0, 1, []), (40, .getfield 19, 3, []), (43, .putfield 46, 3, []), (46, .aload_n 0, 1, []), (47, .getfield 46, 3, []), (50, .aload_n 0, 1, []), (51, .getfield 15, 3, []), (54, .if_icmp .lt 11, 3, [65]), (57, .aload_n 0, 1, []), (58, .iconst 0, 1, []), (59, .putfield 43, 3, []), (62, .goto 90, 3, [152]), (65, .aload_n 0, 1, []), (66, .getfield 9, 3, []), (69, .aload_n 0, 1, []), (70, .getfield 46, 3, []), (73, .iaload, 1, []), (74, .invokestatic 134, 3, []), (77, .ifCond .eq 15, 3, [92]), (80, .aload_n 0, 1, []), (81, .iconst 1, 1, []), (82, .putfield 43, 3, []), (85, .aload_n 0, 1, []), (86, .invokevirtual 137, 3, []), (89, .goto 63, 3, [152]), (92, .aload_n 0, 1, []), (93, .getfield 9, 3, []), (96, .aload_n 0, 1, []), (97, .getfield 46, 3, []), (100, .iaload, 1, []), (101, .invokestatic 140, 3, []), (104, .ifCond .eq 15, 3, [119]), (107, .aload_n 0, 1, []), (108, .iconst 2, 1, []), (109, .putfield 43, 3, []), (112, .aload_n 0, 1, []), (113, .invokevirtual 143, 3, []), (116, .goto 36, 3, [152]), (119, .aload_n 0, 1, []), (120, .aload_n 0, 1, []), (121, .getfield 9, 3, []), (124, .aload_n 0, 1, []), (125, .getfield 46, 3, []), (128, .iaload, 1, []), (129, .bipush 59, 2, []), (131, .if_icmp .ne 7, 3, [138]), (134, .iconst 3, 1, []), (135, .goto 4, 3, [139]), (138, .iconst 4, 1, []), (139, .putfield 43, 3, []), (142, .aload_n 0, 1, []), (143, .aload_n 0, 1, []), (144, .getfield 46, 3, []), (147, .iconst 1, 1, []), (148, .iadd, 1, []), (149, .putfield 19, 3, []), (152, .return_, 1, [])]
set_option maxRecDepth 20000 in
theorem TX4_advance_ok : TX4_advance.all (chk MX4_advance.1) = true := by decide +kernel
theorem TX4_advance_v : TX4_advance.all vOk = true := by decide +kernel
def csX4_advance (w : WW) : CS := (1, fun as u => match as with | [.ref a0] => a0 = tpA w ∧ pX4_advance u | _ => False, fun as u => match as with | [.ref a0] => (none, (mX4_advance u)) | _ => (none, u))
def KX3_layOut (w : WW) : KT := (al flX3, al ciX3, al clX3, fun _ => none, fun _ => none, al [])
abbrev GX3_layOut (w : WW) (Q : Option Value → MM → Prop) : Nat → LL → List Value → MM → Prop := WP w MX3_layOut TX3_layOut (KX3_layOut w) Q
section
variable {w : WW} {Q : Option Value → MM → Prop} {u : MM}
theorem eX3_layOut_0 {l1 l2 l3 : Option Value} {st : List Value} {x : Nat} : GX3_layOut w Q 0 [some (.ref x), l1, l2, l3] st u ↔ GX3_layOut w Q 1 [some (.ref x), l1, l2, l3] (.ref x :: st) u := WP_u (.aload_n 0) [] rfl
theorem eX3_layOut_1 {l0 l2 l3 : Option Value} {st : List Value} {x : Int32} : GX3_layOut w Q 1 [l0, some (.int x), l2, l3] st u ↔ GX3_layOut w Q 2 [l0, some (.int x), l2, l3] (.int x :: st) u := WP_u (.iload_n 1) [] rfl
theorem eX3_layOut_2 {l0 l1 l2 l3 : Option Value} {st : List Value} {a : Nat} {x : Int32} : GX3_layOut w Q 2 [l0, l1, l2, l3] (.int x :: .ref a :: st) u ↔ okI w a 3 1 ∧ GX3_layOut w Q 5 [l0, l1, l2, l3] st (uI u (ixI w a 1) x) := (WP_u (.putfield 15) [] rfl).trans ex_and
theorem eX3_layOut_5 {l1 l2 l3 : Option Value} {st : List Value} {x : Nat} : GX3_layOut w Q 5 [some (.ref x), l1, l2, l3] st u ↔ GX3_layOut w Q 6 [some (.ref x), l1, l2, l3] (.ref x :: st) u := WP_u (.aload_n 0) [] rfl
theorem eX3_layOut_6 {l0 l2 l3 : Option Value} {st : List Value} {x : Int32} : GX3_layOut w Q 6 [l0, some (.int x), l2, l3] st u ↔ GX3_layOut w Q 7 [l0, some (.int x), l2, l3] (.int x :: st) u := WP_u (.iload_n 1) [] rfl
theorem eX3_layOut_7 {l0 l1 l2 l3 : Option Value} {st : List Value} {x : Int32} : GX3_layOut w Q 7 [l0, l1, l2, l3] (.int x :: st) u ↔ (¬ x = 0 → GX3_layOut w Q 14 [l0, l1, l2, l3] st u) ∧ (¬ (¬ x = 0) → GX3_layOut w Q 10 [l0, l1, l2, l3] st u) := (WP_u (.ifCond .ne 7) [14] rfl).trans ex_br
theorem eX3_layOut_10 {l0 l1 l2 l3 : Option Value} {st : List Value} : GX3_layOut w Q 10 [l0, l1, l2, l3] st u ↔ GX3_layOut w Q 11 [l0, l1, l2, l3] (.int 0 :: st) u := WP_iconst rfl (by decide)
theorem eX3_layOut_11 {l0 l1 l2 l3 : Option Value} {st : List Value} : GX3_layOut w Q 11 [l0, l1, l2, l3] st u ↔ GX3_layOut w Q 15 [l0, l1, l2, l3] st u := WP_u (.goto 4) [15] rfl
theorem eX3_layOut_14 {l0 l1 l3 : Option Value} {st : List Value} {x : Int32} : GX3_layOut w Q 14 [l0, l1, some (.int x), l3] st u ↔ GX3_layOut w Q 15 [l0, l1, some (.int x), l3] (.int x :: st) u := WP_u (.iload_n 2) [] rfl
theorem eX3_layOut_15 {l0 l1 l2 l3 : Option Value} {st : List Value} {a : Nat} {x : Int32} : GX3_layOut w Q 15 [l0, l1, l2, l3] (.int x :: .ref a :: st) u ↔ okI w a 3 2 ∧ GX3_layOut w Q 18 [l0, l1, l2, l3] st (uI u (ixI w a 2) x) := (WP_u (.putfield 19) [] rfl).trans ex_and
theorem eX3_layOut_18 {l0 l1 l2 l3 : Option Value} {st : List Value} : GX3_layOut w Q 18 [l0, l1, l2, l3] st u ↔ GX3_layOut w Q 19 [l0, l1, l2, l3] (.int 0 :: st) u := WP_iconst rfl (by decide)
theorem eX3_layOut_19 {l0 l1 l2 l3 : Option Value} {st : List Value} {x : Int32} : GX3_layOut w Q 19 [l0, l1, l2, l3] (.int x :: st) u ↔ GX3_layOut w Q 20 [l0, l1, kl l2, some (.int x)] st u := (WP_u (.istore_n 3) [] rfl).trans (ex_drop (Nat.le_of_ble_eq_true rfl))
theorem eX3_layOut_20 {l0 l1 l2 : Option Value} {st : List Value} {x : Int32} : GX3_layOut w Q 20 [l0, l1, l2, some (.int x)] st u ↔ GX3_layOut w Q 21 [l0, l1, l2, some (.int x)] (.int x :: st) u := WP_u (.iload_n 3) [] rfl
theorem eX3_layOut_21 {l0 l1 l2 l3 : Option Value} {st : List Value} : GX3_layOut w Q 21 [l0, l1, l2, l3] st u ↔ GX3_layOut w Q 23 [l0, l1, l2, l3] (.int 40 :: st) u := WP_bipush rfl (by decide)
theorem eX3_layOut_23 {l0 l1 l2 l3 : Option Value} {st : List Value} {x y : Int32} : GX3_layOut w Q 23 [l0, l1, l2, l3] (.int y :: .int x :: st) u ↔ (y ≤ x → GX3_layOut w Q 39 [l0, l1, l2, l3] st u) ∧ (¬ (y ≤ x) → GX3_layOut w Q 26 [l0, l1, l2, l3] st u) := (WP_u (.if_icmp .ge 16) [39] rfl).trans ex_br
theorem eX3_layOut_26 {l1 l2 l3 : Option Value} {st : List Value} {x : Nat} : GX3_layOut w Q 26 [some (.ref x), l1, l2, l3] st u ↔ GX3_layOut w Q 27 [some (.ref x), l1, l2, l3] (.ref x :: st) u := WP_u (.aload_n 0) [] rfl
theorem eX3_layOut_27 {l0 l1 l2 l3 : Option Value} {st : List Value} {a : Nat} : GX3_layOut w Q 27 [l0, l1, l2, l3] (.ref a :: st) u ↔ okR w a 3 0 ∧ GX3_layOut w Q 30 [l0, l1, l2, l3] (.ref (rfF w a 0) :: st) u := (WP_u (.getfield 9) [] rfl).trans ex_and
theorem eX3_layOut_30 {l0 l1 l2 : Option Value} {st : List Value} {x : Int32} : GX3_layOut w Q 30 [l0, l1, l2, some (.int x)] st u ↔ GX3_layOut w Q 31 [l0, l1, l2, some (.int x)] (.int x :: st) u := WP_u (.iload_n 3) [] rfl
theorem eX3_layOut_31 {l0 l1 l2 l3 : Option Value} {st : List Value} : GX3_layOut w Q 31 [l0, l1, l2, l3] st u ↔ GX3_layOut w Q 32 [l0, l1, l2, l3] (.long 0 :: st) u := WP_lconst rfl (by decide)
theorem eX3_layOut_32 {l0 l1 l2 l3 : Option Value} {st : List Value} {a : Nat} {i : Int32} {x : Int64} : GX3_layOut w Q 32 [l0, l1, l2, l3] (.long x :: .int i :: .ref a :: st) u ↔ okAJ w a i ∧ GX3_layOut w Q 33 [l0, l1, l2, l3] st (uJ u (ixAJ w a i) x) := (WP_u (.lastore) [] rfl).trans ex_and
theorem eX3_layOut_33 {l0 l1 l2 : Option Value} {st : List Value} {x : Int32} : GX3_layOut w Q 33 [l0, l1, l2, some (.int x)] st u ↔ GX3_layOut w Q 36 [l0, l1, kl l2, some (.int (x + 1))] st u := WP_iinc rfl (by decide) rfl rfl
theorem eX3_layOut_36 {l0 l1 l2 l3 : Option Value} {st : List Value} : GX3_layOut w Q 36 [l0, l1, l2, l3] st u ↔ GX3_layOut w Q 20 [l0, l1, l2, l3] st u := WP_u (.goto (-16)) [20] rfl
theorem eX3_layOut_39 {l0 l1 l2 l3 : Option Value} : GX3_layOut w Q 39 [l0, l1, l2, l3] [] u ↔ Q none u := (WP_u (.return_) [] rfl).trans ex_k
end
def VX3_layOut (w : WW) : Prop := ∀ (s : Nat) (a1 : Int32) (a2 : Int32) (u : MM), s < 4 → pX3_layOut s a1 a2 u → GX3_layOut w (fun r u' => r = none ∧ u' = (mX3_layOut s a1 a2 u)) 0 [some (.ref (stA w s)), some (.int a1), some (.int a2), none] [] u
def KX3_put (w : WW) : KT := (al flX3, al ciX3, al clX3, fun _ => none, fun _ => none, al [])
abbrev GX3_put (w : WW) (Q : Option Value → MM → Prop) : Nat → LL → List Value → MM → Prop := WP w MX3_put TX3_put (KX3_put w) Q
section
variable {w : WW} {Q : Option Value → MM → Prop} {u : MM}
theorem eX3_put_0 {l1 l2 l3 : Option Value} {st : List Value} {x : Nat} : GX3_put w Q 0 [some (.ref x), l1, l2, l3] st u ↔ GX3_put w Q 1 [some (.ref x), l1, l2, l3] (.ref x :: st) u := WP_u (.aload_n 0) [] rfl
theorem eX3_put_1 {l0 l1 l2 l3 : Option Value} {st : List Value} {a : Nat} : GX3_put w Q 1 [l0, l1, l2, l3] (.ref a :: st) u ↔ okI w a 3 1 ∧ GX3_put w Q 4 [l0, l1, l2, l3] (.int (u.1 (ixI w a 1)) :: st) u := (WP_u (.getfield 15) [] rfl).trans ex_and
theorem eX3_put_4 {l0 l1 l2 l3 : Option Value} {st : List Value} {x : Int32} : GX3_put w Q 4 [l0, l1, l2, l3] (.int x :: st) u ↔ (x = 8 → GX3_put w Q 32 [l0, l1, l2, l3] st u) ∧ (¬ x = 8 → ((x = 16 → GX3_put w Q 45 [l0, l1, l2, l3] st u) ∧ (¬ x = 16 → GX3_put w Q 58 [l0, l1, l2, l3] st u))) := (WP_u (.lookupswitch 54 #[(8, 28), (16, 41)]) [58, 32, 45] rfl).trans ((ex_swk (f := fun t n => wp w MX3_put TX3_put (KX3_put w) Q n t [l0, l1, l2, l3] st u) (d := fun n => wp w MX3_put TX3_put (KX3_put w) Q n 58 [l0, l1, l2, l3] st u) [8, 16] [32, 45]).trans Iff.rfl)
theorem eX3_put_32 {l1 l2 l3 : Option Value} {st : List Value} {x : Nat} : GX3_put w Q 32 [some (.ref x), l1, l2, l3] st u ↔ GX3_put w Q 33 [some (.ref x), l1, l2, l3] (.ref x :: st) u := WP_u (.aload_n 0) [] rfl
theorem eX3_put_33 {l0 l1 l2 l3 : Option Value} {st : List Value} {a : Nat} : GX3_put w Q 33 [l0, l1, l2, l3] (.ref a :: st) u ↔ okR w a 3 0 ∧ GX3_put w Q 36 [l0, l1, l2, l3] (.ref (rfF w a 0) :: st) u := (WP_u (.getfield 9) [] rfl).trans ex_and
theorem eX3_put_36 {l0 l2 l3 : Option Value} {st : List Value} {x : Int32} : GX3_put w Q 36 [l0, some (.int x), l2, l3] st u ↔ GX3_put w Q 37 [l0, some (.int x), l2, l3] (.int x :: st) u := WP_u (.iload_n 1) [] rfl
theorem eX3_put_37 {l0 l1 l3 : Option Value} {st : List Value} {x : Int64} : GX3_put w Q 37 [l0, l1, some (.long x), l3] st u ↔ GX3_put w Q 38 [l0, l1, some (.long x), l3] (.long x :: st) u := WP_u (.lload_n 2) [] rfl
theorem eX3_put_38 {l0 l1 l2 l3 : Option Value} {st : List Value} {x : Int64} : GX3_put w Q 38 [l0, l1, l2, l3] (.long x :: st) u ↔ GX3_put w Q 39 [l0, l1, l2, l3] (.int x.toInt32 :: st) u := WP_u (.l2i) [] rfl
theorem eX3_put_39 {l0 l1 l2 l3 : Option Value} {st : List Value} {x : Int32} : GX3_put w Q 39 [l0, l1, l2, l3] (.int x :: st) u ↔ GX3_put w Q 40 [l0, l1, l2, l3] (.int x.toInt8.toInt32 :: st) u := WP_u (.i2b) [] rfl
theorem eX3_put_40 {l0 l1 l2 l3 : Option Value} {st : List Value} {x : Int32} : GX3_put w Q 40 [l0, l1, l2, l3] (.int x :: st) u ↔ GX3_put w Q 41 [l0, l1, l2, l3] (.long x.toInt64 :: st) u := WP_u (.i2l) [] rfl
theorem eX3_put_41 {l0 l1 l2 l3 : Option Value} {st : List Value} {a : Nat} {i : Int32} {x : Int64} : GX3_put w Q 41 [l0, l1, l2, l3] (.long x :: .int i :: .ref a :: st) u ↔ okAJ w a i ∧ GX3_put w Q 42 [l0, l1, l2, l3] st (uJ u (ixAJ w a i) x) := (WP_u (.lastore) [] rfl).trans ex_and
theorem eX3_put_42 {l0 l1 l2 l3 : Option Value} {st : List Value} : GX3_put w Q 42 [l0, l1, l2, l3] st u ↔ GX3_put w Q 65 [l0, l1, l2, l3] st u := WP_u (.goto 23) [65] rfl
theorem eX3_put_45 {l1 l2 l3 : Option Value} {st : List Value} {x : Nat} : GX3_put w Q 45 [some (.ref x), l1, l2, l3] st u ↔ GX3_put w Q 46 [some (.ref x), l1, l2, l3] (.ref x :: st) u := WP_u (.aload_n 0) [] rfl
theorem eX3_put_46 {l0 l1 l2 l3 : Option Value} {st : List Value} {a : Nat} : GX3_put w Q 46 [l0, l1, l2, l3] (.ref a :: st) u ↔ okR w a 3 0 ∧ GX3_put w Q 49 [l0, l1, l2, l3] (.ref (rfF w a 0) :: st) u := (WP_u (.getfield 9) [] rfl).trans ex_and
theorem eX3_put_49 {l0 l2 l3 : Option Value} {st : List Value} {x : Int32} : GX3_put w Q 49 [l0, some (.int x), l2, l3] st u ↔ GX3_put w Q 50 [l0, some (.int x), l2, l3] (.int x :: st) u := WP_u (.iload_n 1) [] rfl
theorem eX3_put_50 {l0 l1 l3 : Option Value} {st : List Value} {x : Int64} : GX3_put w Q 50 [l0, l1, some (.long x), l3] st u ↔ GX3_put w Q 51 [l0, l1, some (.long x), l3] (.long x :: st) u := WP_u (.lload_n 2) [] rfl
theorem eX3_put_51 {l0 l1 l2 l3 : Option Value} {st : List Value} {x : Int64} : GX3_put w Q 51 [l0, l1, l2, l3] (.long x :: st) u ↔ GX3_put w Q 52 [l0, l1, l2, l3] (.int x.toInt32 :: st) u := WP_u (.l2i) [] rfl
theorem eX3_put_52 {l0 l1 l2 l3 : Option Value} {st : List Value} {x : Int32} : GX3_put w Q 52 [l0, l1, l2, l3] (.int x :: st) u ↔ GX3_put w Q 53 [l0, l1, l2, l3] (.int x.toInt16.toInt32 :: st) u := WP_u (.i2s) [] rfl
theorem eX3_put_53 {l0 l1 l2 l3 : Option Value} {st : List Value} {x : Int32} : GX3_put w Q 53 [l0, l1, l2, l3] (.int x :: st) u ↔ GX3_put w Q 54 [l0, l1, l2, l3] (.long x.toInt64 :: st) u := WP_u (.i2l) [] rfl
theorem eX3_put_54 {l0 l1 l2 l3 : Option Value} {st : List Value} {a : Nat} {i : Int32} {x : Int64} : GX3_put w Q 54 [l0, l1, l2, l3] (.long x :: .int i :: .ref a :: st) u ↔ okAJ w a i ∧ GX3_put w Q 55 [l0, l1, l2, l3] st (uJ u (ixAJ w a i) x) := (WP_u (.lastore) [] rfl).trans ex_and
theorem eX3_put_55 {l0 l1 l2 l3 : Option Value} {st : List Value} : GX3_put w Q 55 [l0, l1, l2, l3] st u ↔ GX3_put w Q 65 [l0, l1, l2, l3] st u := WP_u (.goto 10) [65] rfl
theorem eX3_put_58 {l1 l2 l3 : Option Value} {st : List Value} {x : Nat} : GX3_put w Q 58 [some (.ref x), l1, l2, l3] st u ↔ GX3_put w Q 59 [some (.ref x), l1, l2, l3] (.ref x :: st) u := WP_u (.aload_n 0) [] rfl
theorem eX3_put_59 {l0 l1 l2 l3 : Option Value} {st : List Value} {a : Nat} : GX3_put w Q 59 [l0, l1, l2, l3] (.ref a :: st) u ↔ okR w a 3 0 ∧ GX3_put w Q 62 [l0, l1, l2, l3] (.ref (rfF w a 0) :: st) u := (WP_u (.getfield 9) [] rfl).trans ex_and
theorem eX3_put_62 {l0 l2 l3 : Option Value} {st : List Value} {x : Int32} : GX3_put w Q 62 [l0, some (.int x), l2, l3] st u ↔ GX3_put w Q 63 [l0, some (.int x), l2, l3] (.int x :: st) u := WP_u (.iload_n 1) [] rfl
theorem eX3_put_63 {l0 l1 l3 : Option Value} {st : List Value} {x : Int64} : GX3_put w Q 63 [l0, l1, some (.long x), l3] st u ↔ GX3_put w Q 64 [l0, l1, some (.long x), l3] (.long x :: st) u := WP_u (.lload_n 2) [] rfl
theorem eX3_put_64 {l0 l1 l2 l3 : Option Value} {st : List Value} {a : Nat} {i : Int32} {x : Int64} : GX3_put w Q 64 [l0, l1, l2, l3] (.long x :: .int i :: .ref a :: st) u ↔ okAJ w a i ∧ GX3_put w Q 65 [l0, l1, l2, l3] st (uJ u (ixAJ w a i) x) := (WP_u (.lastore) [] rfl).trans ex_and
theorem eX3_put_65 {l0 l1 l2 l3 : Option Value} : GX3_put w Q 65 [l0, l1, l2, l3] [] u ↔ Q none u := (WP_u (.return_) [] rfl).trans ex_k
end
def VX3_put (w : WW) : Prop := ∀ (s : Nat) (a1 : Int32) (a2 : Int64) (u : MM), s < 4 → pX3_put s a1 a2 u → GX3_put w (fun r u' => r = none ∧ u' = (mX3_put s a1 a2 u)) 0 [some (.ref (stA w s)), some (.int a1), some (.long a2), none] [] u
def KX4_isLetter (w : WW) : KT := (al flX4, al ciX4, al clX4, fun _ => none, al [(25, 0), (35, 1), (66, 2), (89, 3), (95, 4), (124, 5), (114, 6), (116, 7), (118, 8), (120, 9), (122, 10)], al [])
abbrev GX4_isLetter (w : WW) (Q : Option Value → MM → Prop) : Nat → LL → List Value → MM → Prop := WP w MX4_isLetter TX4_isLetter (KX4_isLetter w) Q
section
variable {w : WW} {Q : Option Value → MM → Prop} {u : MM}
theorem eX4_isLetter_0 {st : List Value} {x : Int32} : GX4_isLetter w Q 0 [some (.int x)] st u ↔ GX4_isLetter w Q 1 [some (.int x)] (.int x :: st) u := WP_u (.iload_n 0) [] rfl
theorem eX4_isLetter_1 {l0 : Option Value} {st : List Value} : GX4_isLetter w Q 1 [l0] st u ↔ GX4_isLetter w Q 3 [l0] (.int 97 :: st) u := WP_bipush rfl (by decide)
theorem eX4_isLetter_3 {l0 : Option Value} {st : List Value} {x y : Int32} : GX4_isLetter w Q 3 [l0] (.int y :: .int x :: st) u ↔ (x < y → GX4_isLetter w Q 16 [l0] st u) ∧ (¬ (x < y) → GX4_isLetter w Q 6 [l0] st u) := (WP_u (.if_icmp .lt 13) [16] rfl).trans ex_br
theorem eX4_isLetter_6 {st : List Value} {x : Int32} : GX4_isLetter w Q 6 [some (.int x)] st u ↔ GX4_isLetter w Q 7 [some (.int x)] (.int x :: st) u := WP_u (.iload_n 0) [] rfl
theorem eX4_isLetter_7 {l0 : Option Value} {st : List Value} : GX4_isLetter w Q 7 [l0] st u ↔ GX4_isLetter w Q 9 [l0] (.int 122 :: st) u := WP_bipush rfl (by decide)
theorem eX4_isLetter_9 {l0 : Option Value} {st : List Value} {x y : Int32} : GX4_isLetter w Q 9 [l0] (.int y :: .int x :: st) u ↔ (y < x → GX4_isLetter w Q 16 [l0] st u) ∧ (¬ (y < x) → GX4_isLetter w Q 12 [l0] st u) := (WP_u (.if_icmp .gt 7) [16] rfl).trans ex_br
theorem eX4_isLetter_12 {l0 : Option Value} {st : List Value} : GX4_isLetter w Q 12 [l0] st u ↔ GX4_isLetter w Q 13 [l0] (.int 1 :: st) u := WP_iconst rfl (by decide)
theorem eX4_isLetter_13 {l0 : Option Value} {st : List Value} : GX4_isLetter w Q 13 [l0] st u ↔ GX4_isLetter w Q 17 [l0] st u := WP_u (.goto 4) [17] rfl
theorem eX4_isLetter_16 {l0 : Option Value} {st : List Value} : GX4_isLetter w Q 16 [l0] st u ↔ GX4_isLetter w Q 17 [l0] (.int 0 :: st) u := WP_iconst rfl (by decide)
theorem eX4_isLetter_17 {l0 : Option Value} {x : Int32} : GX4_isLetter w Q 17 [l0] [.int x] u ↔ nb x ∧ Q (some (.int x)) u := (WP_u (.ireturn) [] rfl).trans ex_k
end
def VX4_isLetter (w : WW) : Prop := ∀ (a0 : Int32) (u : MM), pX4_isLetter a0 u → GX4_isLetter w (fun r u' => r = some (.int (rX4_isLetter a0 u)) ∧ u' = u) 0 [some (.int a0)] [] u
def KX4_isDigit (w : WW) : KT := (al flX4, al ciX4, al clX4, fun _ => none, al [(25, 0), (35, 1), (66, 2), (89, 3), (95, 4), (124, 5), (114, 6), (116, 7), (118, 8), (120, 9), (122, 10)], al [])
abbrev GX4_isDigit (w : WW) (Q : Option Value → MM → Prop) : Nat → LL → List Value → MM → Prop := WP w MX4_isDigit TX4_isDigit (KX4_isDigit w) Q
section
variable {w : WW} {Q : Option Value → MM → Prop} {u : MM}
theorem eX4_isDigit_0 {st : List Value} {x : Int32} : GX4_isDigit w Q 0 [some (.int x)] st u ↔ GX4_isDigit w Q 1 [some (.int x)] (.int x :: st) u := WP_u (.iload_n 0) [] rfl
theorem eX4_isDigit_1 {l0 : Option Value} {st : List Value} : GX4_isDigit w Q 1 [l0] st u ↔ GX4_isDigit w Q 3 [l0] (.int 48 :: st) u := WP_bipush rfl (by decide)
theorem eX4_isDigit_3 {l0 : Option Value} {st : List Value} {x y : Int32} : GX4_isDigit w Q 3 [l0] (.int y :: .int x :: st) u ↔ (x < y → GX4_isDigit w Q 16 [l0] st u) ∧ (¬ (x < y) → GX4_isDigit w Q 6 [l0] st u) := (WP_u (.if_icmp .lt 13) [16] rfl).trans ex_br
theorem eX4_isDigit_6 {st : List Value} {x : Int32} : GX4_isDigit w Q 6 [some (.int x)] st u ↔ GX4_isDigit w Q 7 [some (.int x)] (.int x :: st) u := WP_u (.iload_n 0) [] rfl
theorem eX4_isDigit_7 {l0 : Option Value} {st : List Value} : GX4_isDigit w Q 7 [l0] st u ↔ GX4_isDigit w Q 9 [l0] (.int 57 :: st) u := WP_bipush rfl (by decide)
theorem eX4_isDigit_9 {l0 : Option Value} {st : List Value} {x y : Int32} : GX4_isDigit w Q 9 [l0] (.int y :: .int x :: st) u ↔ (y < x → GX4_isDigit w Q 16 [l0] st u) ∧ (¬ (y < x) → GX4_isDigit w Q 12 [l0] st u) := (WP_u (.if_icmp .gt 7) [16] rfl).trans ex_br
theorem eX4_isDigit_12 {l0 : Option Value} {st : List Value} : GX4_isDigit w Q 12 [l0] st u ↔ GX4_isDigit w Q 13 [l0] (.int 1 :: st) u := WP_iconst rfl (by decide)
theorem eX4_isDigit_13 {l0 : Option Value} {st : List Value} : GX4_isDigit w Q 13 [l0] st u ↔ GX4_isDigit w Q 17 [l0] st u := WP_u (.goto 4) [17] rfl
theorem eX4_isDigit_16 {l0 : Option Value} {st : List Value} : GX4_isDigit w Q 16 [l0] st u ↔ GX4_isDigit w Q 17 [l0] (.int 0 :: st) u := WP_iconst rfl (by decide)
theorem eX4_isDigit_17 {l0 : Option Value} {x : Int32} : GX4_isDigit w Q 17 [l0] [.int x] u ↔ nb x ∧ Q (some (.int x)) u := (WP_u (.ireturn) [] rfl).trans ex_k
end
def VX4_isDigit (w : WW) : Prop := ∀ (a0 : Int32) (u : MM), pX4_isDigit a0 u → GX4_isDigit w (fun r u' => r = some (.int (rX4_isDigit a0 u)) ∧ u' = u) 0 [some (.int a0)] [] u
def KX4_append (w : WW) : KT := (al flX4, al ciX4, al clX4, fun _ => none, al [(25, 0), (35, 1), (66, 2), (89, 3), (95, 4), (124, 5), (114, 6), (116, 7), (118, 8), (120, 9), (122, 10)], al [])
abbrev GX4_append (w : WW) (Q : Option Value → MM → Prop) : Nat → LL → List Value → MM → Prop := WP w MX4_append TX4_append (KX4_append w) Q
section
variable {w : WW} {Q : Option Value → MM → Prop} {u : MM}
theorem eX4_append_0 {l1 : Option Value} {st : List Value} {x : Nat} : GX4_append w Q 0 [some (.ref x), l1] st u ↔ GX4_append w Q 1 [some (.ref x), l1] (.ref x :: st) u := WP_u (.aload_n 0) [] rfl
theorem eX4_append_1 {l0 l1 : Option Value} {st : List Value} {a : Nat} : GX4_append w Q 1 [l0, l1] (.ref a :: st) u ↔ okI w a 4 1 ∧ GX4_append w Q 4 [l0, l1] (.int (u.1 (ixI w a 1)) :: st) u := (WP_u (.getfield 15) [] rfl).trans ex_and
theorem eX4_append_4 {l0 l1 : Option Value} {st : List Value} : GX4_append w Q 4 [l0, l1] st u ↔ GX4_append w Q 6 [l0, l1] (.int 120 :: st) u := WP_bipush rfl (by decide)
theorem eX4_append_6 {l0 l1 : Option Value} {st : List Value} {x y : Int32} : GX4_append w Q 6 [l0, l1] (.int y :: .int x :: st) u ↔ (y ≤ x → GX4_append w Q 29 [l0, l1] st u) ∧ (¬ (y ≤ x) → GX4_append w Q 9 [l0, l1] st u) := (WP_u (.if_icmp .ge 23) [29] rfl).trans ex_br
theorem eX4_append_9 {l1 : Option Value} {st : List Value} {x : Nat} : GX4_append w Q 9 [some (.ref x), l1] st u ↔ GX4_append w Q 10 [some (.ref x), l1] (.ref x :: st) u := WP_u (.aload_n 0) [] rfl
theorem eX4_append_10 {l0 l1 : Option Value} {st : List Value} {a : Nat} : GX4_append w Q 10 [l0, l1] (.ref a :: st) u ↔ okR w a 4 0 ∧ GX4_append w Q 13 [l0, l1] (.ref (rfF w a 0) :: st) u := (WP_u (.getfield 9) [] rfl).trans ex_and
theorem eX4_append_13 {l1 : Option Value} {st : List Value} {x : Nat} : GX4_append w Q 13 [some (.ref x), l1] st u ↔ GX4_append w Q 14 [some (.ref x), l1] (.ref x :: st) u := WP_u (.aload_n 0) [] rfl
theorem eX4_append_14 {l0 l1 : Option Value} {st : List Value} {a : Nat} : GX4_append w Q 14 [l0, l1] (.ref a :: st) u ↔ okI w a 4 1 ∧ GX4_append w Q 17 [l0, l1] (.int (u.1 (ixI w a 1)) :: st) u := (WP_u (.getfield 15) [] rfl).trans ex_and
theorem eX4_append_17 {l0 : Option Value} {st : List Value} {x : Int32} : GX4_append w Q 17 [l0, some (.int x)] st u ↔ GX4_append w Q 18 [l0, some (.int x)] (.int x :: st) u := WP_u (.iload_n 1) [] rfl
theorem eX4_append_18 {l0 l1 : Option Value} {st : List Value} {a : Nat} {i x : Int32} : GX4_append w Q 18 [l0, l1] (.int x :: .int i :: .ref a :: st) u ↔ okAS w a i ∧ GX4_append w Q 19 [l0, l1] st (uI u (ixA w a i) x) := (WP_u (.iastore) [] rfl).trans ex_and
theorem eX4_append_19 {l1 : Option Value} {st : List Value} {x : Nat} : GX4_append w Q 19 [some (.ref x), l1] st u ↔ GX4_append w Q 20 [some (.ref x), l1] (.ref x :: st) u := WP_u (.aload_n 0) [] rfl
theorem eX4_append_20 {l0 l1 : Option Value} {st : List Value} {x : Nat} : GX4_append w Q 20 [l0, l1] (.ref x :: st) u ↔ GX4_append w Q 21 [l0, l1] (.ref x :: .ref x :: st) u := (WP_u (.dup) [] rfl).trans (ex_drop rfl)
theorem eX4_append_21 {l0 l1 : Option Value} {st : List Value} {a : Nat} : GX4_append w Q 21 [l0, l1] (.ref a :: st) u ↔ okI w a 4 1 ∧ GX4_append w Q 24 [l0, l1] (.int (u.1 (ixI w a 1)) :: st) u := (WP_u (.getfield 15) [] rfl).trans ex_and
theorem eX4_append_24 {l0 l1 : Option Value} {st : List Value} : GX4_append w Q 24 [l0, l1] st u ↔ GX4_append w Q 25 [l0, l1] (.int 1 :: st) u := WP_iconst rfl (by decide)
theorem eX4_append_25 {l0 l1 : Option Value} {st : List Value} {x y : Int32} : GX4_append w Q 25 [l0, l1] (.int y :: .int x :: st) u ↔ GX4_append w Q 26 [l0, l1] (.int (x + y) :: st) u := WP_u (.iadd) [] rfl
theorem eX4_append_26 {l0 l1 : Option Value} {st : List Value} {a : Nat} {x : Int32} : GX4_append w Q 26 [l0, l1] (.int x :: .ref a :: st) u ↔ okI w a 4 1 ∧ GX4_append w Q 29 [l0, l1] st (uI u (ixI w a 1) x) := (WP_u (.putfield 15) [] rfl).trans ex_and
theorem eX4_append_29 {l0 l1 : Option Value} : GX4_append w Q 29 [l0, l1] [] u ↔ Q none u := (WP_u (.return_) [] rfl).trans ex_k
end
def VX4_append (w : WW) : Prop := ∀ (a1 : Int32) (u : MM), pX4_append a1 u → GX4_append w (fun r u' => r = none ∧ u' = (mX4_append a1 u)) 0 [some (.ref (tpA w)), some (.int a1)] [] u
def KX4_isNumberBelow (w : WW) : KT := (al flX4, al ciX4, al clX4, fun _ => none, al [(25, 0), (35, 1), (66, 2), (89, 3), (95, 4), (124, 5), (114, 6), (116, 7), (118, 8), (120, 9), (122, 10)], al [])
abbrev GX4_isNumberBelow (w : WW) (Q : Option Value → MM → Prop) : Nat → LL → List Value → MM → Prop := WP w MX4_isNumberBelow TX4_isNumberBelow (KX4_isNumberBelow w) Q
section
variable {w : WW} {Q : Option Value → MM → Prop} {u : MM}
theorem eX4_isNumberBelow_0 {l1 : Option Value} {st : List Value} {x : Nat} : GX4_isNumberBelow w Q 0 [some (.ref x), l1] st u ↔ GX4_isNumberBelow w Q 1 [some (.ref x), l1] (.ref x :: st) u := WP_u (.aload_n 0) [] rfl
theorem eX4_isNumberBelow_1 {l0 l1 : Option Value} {st : List Value} {a : Nat} : GX4_isNumberBelow w Q 1 [l0, l1] (.ref a :: st) u ↔ okI w a 4 2 ∧ GX4_isNumberBelow w Q 4 [l0, l1] (.int (u.1 (ixI w a 2)) :: st) u := (WP_u (.getfield 43) [] rfl).trans ex_and
theorem eX4_isNumberBelow_4 {l0 l1 : Option Value} {st : List Value} : GX4_isNumberBelow w Q 4 [l0, l1] st u ↔ GX4_isNumberBelow w Q 5 [l0, l1] (.int 2 :: st) u := WP_iconst rfl (by decide)
theorem eX4_isNumberBelow_5 {l0 l1 : Option Value} {st : List Value} {x y : Int32} : GX4_isNumberBelow w Q 5 [l0, l1] (.int y :: .int x :: st) u ↔ (¬ x = y → GX4_isNumberBelow w Q 20 [l0, l1] st u) ∧ (¬ (¬ x = y) → GX4_isNumberBelow w Q 8 [l0, l1] st u) := (WP_u (.if_icmp .ne 15) [20] rfl).trans ex_br
theorem eX4_isNumberBelow_8 {l1 : Option Value} {st : List Value} {x : Nat} : GX4_isNumberBelow w Q 8 [some (.ref x), l1] st u ↔ GX4_isNumberBelow w Q 9 [some (.ref x), l1] (.ref x :: st) u := WP_u (.aload_n 0) [] rfl
theorem eX4_isNumberBelow_9 {l0 l1 : Option Value} {st : List Value} {a : Nat} : GX4_isNumberBelow w Q 9 [l0, l1] (.ref a :: st) u ↔ okI w a 4 5 ∧ GX4_isNumberBelow w Q 12 [l0, l1] (.int (u.1 (ixI w a 5)) :: st) u := (WP_u (.getfield 59) [] rfl).trans ex_and
theorem eX4_isNumberBelow_12 {l0 : Option Value} {st : List Value} {x : Int32} : GX4_isNumberBelow w Q 12 [l0, some (.int x)] st u ↔ GX4_isNumberBelow w Q 13 [l0, some (.int x)] (.int x :: st) u := WP_u (.iload_n 1) [] rfl
theorem eX4_isNumberBelow_13 {l0 l1 : Option Value} {st : List Value} {x y : Int32} : GX4_isNumberBelow w Q 13 [l0, l1] (.int y :: .int x :: st) u ↔ (y ≤ x → GX4_isNumberBelow w Q 20 [l0, l1] st u) ∧ (¬ (y ≤ x) → GX4_isNumberBelow w Q 16 [l0, l1] st u) := (WP_u (.if_icmp .ge 7) [20] rfl).trans ex_br
theorem eX4_isNumberBelow_16 {l0 l1 : Option Value} {st : List Value} : GX4_isNumberBelow w Q 16 [l0, l1] st u ↔ GX4_isNumberBelow w Q 17 [l0, l1] (.int 1 :: st) u := WP_iconst rfl (by decide)
theorem eX4_isNumberBelow_17 {l0 l1 : Option Value} {st : List Value} : GX4_isNumberBelow w Q 17 [l0, l1] st u ↔ GX4_isNumberBelow w Q 21 [l0, l1] st u := WP_u (.goto 4) [21] rfl
theorem eX4_isNumberBelow_20 {l0 l1 : Option Value} {st : List Value} : GX4_isNumberBelow w Q 20 [l0, l1] st u ↔ GX4_isNumberBelow w Q 21 [l0, l1] (.int 0 :: st) u := WP_iconst rfl (by decide)
theorem eX4_isNumberBelow_21 {l0 l1 : Option Value} {x : Int32} : GX4_isNumberBelow w Q 21 [l0, l1] [.int x] u ↔ nb x ∧ Q (some (.int x)) u := (WP_u (.ireturn) [] rfl).trans ex_k
end
def VX4_isNumberBelow (w : WW) : Prop := ∀ (a1 : Int32) (u : MM), pX4_isNumberBelow a1 u → GX4_isNumberBelow w (fun r u' => r = some (.int (rX4_isNumberBelow a1 u)) ∧ u' = u) 0 [some (.ref (tpA w)), some (.int a1)] [] u
def KX4_readWord (w : WW) : KT := (al flX4, al ciX4, al clX4, fun _ => none, al [(25, 0), (35, 1), (66, 2), (89, 3), (95, 4), (124, 5), (114, 6), (116, 7), (118, 8), (120, 9), (122, 10)], al [(65670, csX4_isLetter w)])
abbrev GX4_readWord (w : WW) (Q : Option Value → MM → Prop) : Nat → LL → List Value → MM → Prop := WP w MX4_readWord TX4_readWord (KX4_readWord w) Q
section
variable {w : WW} {Q : Option Value → MM → Prop} {u : MM}
theorem eX4_readWord_0 {st : List Value} {x : Nat} : GX4_readWord w Q 0 [some (.ref x)] st u ↔ GX4_readWord w Q 1 [some (.ref x)] (.ref x :: st) u := WP_u (.aload_n 0) [] rfl
theorem eX4_readWord_1 {l0 : Option Value} {st : List Value} {a : Nat} : GX4_readWord w Q 1 [l0] (.ref a :: st) u ↔ okI w a 4 4 ∧ GX4_readWord w Q 4 [l0] (.int (u.1 (ixI w a 4)) :: st) u := (WP_u (.getfield 19) [] rfl).trans ex_and
theorem eX4_readWord_4 {st : List Value} {x : Nat} : GX4_readWord w Q 4 [some (.ref x)] st u ↔ GX4_readWord w Q 5 [some (.ref x)] (.ref x :: st) u := WP_u (.aload_n 0) [] rfl
theorem eX4_readWord_5 {l0 : Option Value} {st : List Value} {a : Nat} : GX4_readWord w Q 5 [l0] (.ref a :: st) u ↔ okI w a 4 1 ∧ GX4_readWord w Q 8 [l0] (.int (u.1 (ixI w a 1)) :: st) u := (WP_u (.getfield 15) [] rfl).trans ex_and
theorem eX4_readWord_8 {l0 : Option Value} {st : List Value} {x y : Int32} : GX4_readWord w Q 8 [l0] (.int y :: .int x :: st) u ↔ (y ≤ x → GX4_readWord w Q 39 [l0] st u) ∧ (¬ (y ≤ x) → GX4_readWord w Q 11 [l0] st u) := (WP_u (.if_icmp .ge 31) [39] rfl).trans ex_br
theorem eX4_readWord_11 {st : List Value} {x : Nat} : GX4_readWord w Q 11 [some (.ref x)] st u ↔ GX4_readWord w Q 12 [some (.ref x)] (.ref x :: st) u := WP_u (.aload_n 0) [] rfl
theorem eX4_readWord_12 {l0 : Option Value} {st : List Value} {a : Nat} : GX4_readWord w Q 12 [l0] (.ref a :: st) u ↔ okR w a 4 0 ∧ GX4_readWord w Q 15 [l0] (.ref (rfF w a 0) :: st) u := (WP_u (.getfield 9) [] rfl).trans ex_and
theorem eX4_readWord_15 {st : List Value} {x : Nat} : GX4_readWord w Q 15 [some (.ref x)] st u ↔ GX4_readWord w Q 16 [some (.ref x)] (.ref x :: st) u := WP_u (.aload_n 0) [] rfl
theorem eX4_readWord_16 {l0 : Option Value} {st : List Value} {a : Nat} : GX4_readWord w Q 16 [l0] (.ref a :: st) u ↔ okI w a 4 4 ∧ GX4_readWord w Q 19 [l0] (.int (u.1 (ixI w a 4)) :: st) u := (WP_u (.getfield 19) [] rfl).trans ex_and
theorem eX4_readWord_19 {l0 : Option Value} {st : List Value} {a : Nat} {i : Int32} : GX4_readWord w Q 19 [l0] (.int i :: .ref a :: st) u ↔ okAI w a i ∧ GX4_readWord w Q 20 [l0] (.int (rdA w u a i) :: st) u := (WP_u (.iaload) [] rfl).trans ex_and
theorem eX4_readWord_20 {l0 : Option Value} {x0 : Int32} : GX4_readWord w Q 20 [l0] [.int x0] u ↔ (pX4_isLetter x0 u) ∧ GX4_readWord w Q 23 [l0] [.int (rX4_isLetter x0 u)] u := (WP_u (.invokestatic 134) [] rfl).trans (ex_call ⟨Nat.le_of_ble_eq_true rfl, Nat.le_of_ble_eq_true rfl⟩)
theorem eX4_readWord_23 {l0 : Option Value} {st : List Value} {x : Int32} : GX4_readWord w Q 23 [l0] (.int x :: st) u ↔ (x = 0 → GX4_readWord w Q 39 [l0] st u) ∧ (¬ (x = 0) → GX4_readWord w Q 26 [l0] st u) := (WP_u (.ifCond .eq 16) [39] rfl).trans ex_br
theorem eX4_readWord_26 {st : List Value} {x : Nat} : GX4_readWord w Q 26 [some (.ref x)] st u ↔ GX4_readWord w Q 27 [some (.ref x)] (.ref x :: st) u := WP_u (.aload_n 0) [] rfl
theorem eX4_readWord_27 {l0 : Option Value} {st : List Value} {x : Nat} : GX4_readWord w Q 27 [l0] (.ref x :: st) u ↔ GX4_readWord w Q 28 [l0] (.ref x :: .ref x :: st) u := (WP_u (.dup) [] rfl).trans (ex_drop rfl)
theorem eX4_readWord_28 {l0 : Option Value} {st : List Value} {a : Nat} : GX4_readWord w Q 28 [l0] (.ref a :: st) u ↔ okI w a 4 4 ∧ GX4_readWord w Q 31 [l0] (.int (u.1 (ixI w a 4)) :: st) u := (WP_u (.getfield 19) [] rfl).trans ex_and
theorem eX4_readWord_31 {l0 : Option Value} {st : List Value} : GX4_readWord w Q 31 [l0] st u ↔ GX4_readWord w Q 32 [l0] (.int 1 :: st) u := WP_iconst rfl (by decide)
theorem eX4_readWord_32 {l0 : Option Value} {st : List Value} {x y : Int32} : GX4_readWord w Q 32 [l0] (.int y :: .int x :: st) u ↔ GX4_readWord w Q 33 [l0] (.int (x + y) :: st) u := WP_u (.iadd) [] rfl
theorem eX4_readWord_33 {l0 : Option Value} {st : List Value} {a : Nat} {x : Int32} : GX4_readWord w Q 33 [l0] (.int x :: .ref a :: st) u ↔ okI w a 4 4 ∧ GX4_readWord w Q 36 [l0] st (uI u (ixI w a 4) x) := (WP_u (.putfield 19) [] rfl).trans ex_and
theorem eX4_readWord_36 {l0 : Option Value} {st : List Value} : GX4_readWord w Q 36 [l0] st u ↔ GX4_readWord w Q 0 [l0] st u := WP_u (.goto (-36)) [0] rfl
theorem eX4_readWord_39 {l0 : Option Value} : GX4_readWord w Q 39 [l0] [] u ↔ Q none u := (WP_u (.return_) [] rfl).trans ex_k
end
def VX4_readWord (w : WW) : Prop := ∀  (u : MM), pX4_readWord u → GX4_readWord w (fun r u' => r = none ∧ u' = (mX4_readWord u)) 0 [some (.ref (tpA w))] [] u
def KX4_readNumber (w : WW) : KT := (al flX4, al ciX4, al clX4, fun _ => none, al [(25, 0), (35, 1), (66, 2), (89, 3), (95, 4), (124, 5), (114, 6), (116, 7), (118, 8), (120, 9), (122, 10)], al [(65676, csX4_isDigit w), (65682, csJ9_min_7cf53 w)])
abbrev GX4_readNumber (w : WW) (Q : Option Value → MM → Prop) : Nat → LL → List Value → MM → Prop := WP w MX4_readNumber TX4_readNumber (KX4_readNumber w) Q
section
variable {w : WW} {Q : Option Value → MM → Prop} {u : MM}
theorem eX4_readNumber_0 {st : List Value} {x : Nat} : GX4_readNumber w Q 0 [some (.ref x)] st u ↔ GX4_readNumber w Q 1 [some (.ref x)] (.ref x :: st) u := WP_u (.aload_n 0) [] rfl
theorem eX4_readNumber_1 {l0 : Option Value} {st : List Value} : GX4_readNumber w Q 1 [l0] st u ↔ GX4_readNumber w Q 2 [l0] (.int 0 :: st) u := WP_iconst rfl (by decide)
theorem eX4_readNumber_2 {l0 : Option Value} {st : List Value} {a : Nat} {x : Int32} : GX4_readNumber w Q 2 [l0] (.int x :: .ref a :: st) u ↔ okI w a 4 5 ∧ GX4_readNumber w Q 5 [l0] st (uI u (ixI w a 5) x) := (WP_u (.putfield 59) [] rfl).trans ex_and
theorem eX4_readNumber_5 {st : List Value} {x : Nat} : GX4_readNumber w Q 5 [some (.ref x)] st u ↔ GX4_readNumber w Q 6 [some (.ref x)] (.ref x :: st) u := WP_u (.aload_n 0) [] rfl
theorem eX4_readNumber_6 {l0 : Option Value} {st : List Value} {a : Nat} : GX4_readNumber w Q 6 [l0] (.ref a :: st) u ↔ okI w a 4 4 ∧ GX4_readNumber w Q 9 [l0] (.int (u.1 (ixI w a 4)) :: st) u := (WP_u (.getfield 19) [] rfl).trans ex_and
theorem eX4_readNumber_9 {st : List Value} {x : Nat} : GX4_readNumber w Q 9 [some (.ref x)] st u ↔ GX4_readNumber w Q 10 [some (.ref x)] (.ref x :: st) u := WP_u (.aload_n 0) [] rfl
theorem eX4_readNumber_10 {l0 : Option Value} {st : List Value} {a : Nat} : GX4_readNumber w Q 10 [l0] (.ref a :: st) u ↔ okI w a 4 1 ∧ GX4_readNumber w Q 13 [l0] (.int (u.1 (ixI w a 1)) :: st) u := (WP_u (.getfield 15) [] rfl).trans ex_and
theorem eX4_readNumber_13 {l0 : Option Value} {st : List Value} {x y : Int32} : GX4_readNumber w Q 13 [l0] (.int y :: .int x :: st) u ↔ (y ≤ x → GX4_readNumber w Q 74 [l0] st u) ∧ (¬ (y ≤ x) → GX4_readNumber w Q 16 [l0] st u) := (WP_u (.if_icmp .ge 61) [74] rfl).trans ex_br
theorem eX4_readNumber_16 {st : List Value} {x : Nat} : GX4_readNumber w Q 16 [some (.ref x)] st u ↔ GX4_readNumber w Q 17 [some (.ref x)] (.ref x :: st) u := WP_u (.aload_n 0) [] rfl
theorem eX4_readNumber_17 {l0 : Option Value} {st : List Value} {a : Nat} : GX4_readNumber w Q 17 [l0] (.ref a :: st) u ↔ okR w a 4 0 ∧ GX4_readNumber w Q 20 [l0] (.ref (rfF w a 0) :: st) u := (WP_u (.getfield 9) [] rfl).trans ex_and
theorem eX4_readNumber_20 {st : List Value} {x : Nat} : GX4_readNumber w Q 20 [some (.ref x)] st u ↔ GX4_readNumber w Q 21 [some (.ref x)] (.ref x :: st) u := WP_u (.aload_n 0) [] rfl
theorem eX4_readNumber_21 {l0 : Option Value} {st : List Value} {a : Nat} : GX4_readNumber w Q 21 [l0] (.ref a :: st) u ↔ okI w a 4 4 ∧ GX4_readNumber w Q 24 [l0] (.int (u.1 (ixI w a 4)) :: st) u := (WP_u (.getfield 19) [] rfl).trans ex_and
theorem eX4_readNumber_24 {l0 : Option Value} {st : List Value} {a : Nat} {i : Int32} : GX4_readNumber w Q 24 [l0] (.int i :: .ref a :: st) u ↔ okAI w a i ∧ GX4_readNumber w Q 25 [l0] (.int (rdA w u a i) :: st) u := (WP_u (.iaload) [] rfl).trans ex_and
theorem eX4_readNumber_25 {l0 : Option Value} {x0 : Int32} : GX4_readNumber w Q 25 [l0] [.int x0] u ↔ (pX4_isDigit x0 u) ∧ GX4_readNumber w Q 28 [l0] [.int (rX4_isDigit x0 u)] u := (WP_u (.invokestatic 140) [] rfl).trans (ex_call ⟨Nat.le_of_ble_eq_true rfl, Nat.le_of_ble_eq_true rfl⟩)
theorem eX4_readNumber_28 {l0 : Option Value} {st : List Value} {x : Int32} : GX4_readNumber w Q 28 [l0] (.int x :: st) u ↔ (x = 0 → GX4_readNumber w Q 74 [l0] st u) ∧ (¬ (x = 0) → GX4_readNumber w Q 31 [l0] st u) := (WP_u (.ifCond .eq 46) [74] rfl).trans ex_br
theorem eX4_readNumber_31 {st : List Value} {x : Nat} : GX4_readNumber w Q 31 [some (.ref x)] st u ↔ GX4_readNumber w Q 32 [some (.ref x)] (.ref x :: st) u := WP_u (.aload_n 0) [] rfl
theorem eX4_readNumber_32 {l0 : Option Value} {st : List Value} : GX4_readNumber w Q 32 [l0] st u ↔ GX4_readNumber w Q 34 [l0] (.int 10 :: st) u := WP_bipush rfl (by decide)
theorem eX4_readNumber_34 {st : List Value} {x : Nat} : GX4_readNumber w Q 34 [some (.ref x)] st u ↔ GX4_readNumber w Q 35 [some (.ref x)] (.ref x :: st) u := WP_u (.aload_n 0) [] rfl
theorem eX4_readNumber_35 {l0 : Option Value} {st : List Value} {a : Nat} : GX4_readNumber w Q 35 [l0] (.ref a :: st) u ↔ okI w a 4 5 ∧ GX4_readNumber w Q 38 [l0] (.int (u.1 (ixI w a 5)) :: st) u := (WP_u (.getfield 59) [] rfl).trans ex_and
theorem eX4_readNumber_38 {l0 : Option Value} {st : List Value} {x y : Int32} : GX4_readNumber w Q 38 [l0] (.int y :: .int x :: st) u ↔ GX4_readNumber w Q 39 [l0] (.int (x * y) :: st) u := WP_u (.imul) [] rfl
theorem eX4_readNumber_39 {st : List Value} {x : Nat} : GX4_readNumber w Q 39 [some (.ref x)] st u ↔ GX4_readNumber w Q 40 [some (.ref x)] (.ref x :: st) u := WP_u (.aload_n 0) [] rfl
theorem eX4_readNumber_40 {l0 : Option Value} {st : List Value} {a : Nat} : GX4_readNumber w Q 40 [l0] (.ref a :: st) u ↔ okR w a 4 0 ∧ GX4_readNumber w Q 43 [l0] (.ref (rfF w a 0) :: st) u := (WP_u (.getfield 9) [] rfl).trans ex_and
theorem eX4_readNumber_43 {st : List Value} {x : Nat} : GX4_readNumber w Q 43 [some (.ref x)] st u ↔ GX4_readNumber w Q 44 [some (.ref x)] (.ref x :: st) u := WP_u (.aload_n 0) [] rfl
theorem eX4_readNumber_44 {l0 : Option Value} {st : List Value} {a : Nat} : GX4_readNumber w Q 44 [l0] (.ref a :: st) u ↔ okI w a 4 4 ∧ GX4_readNumber w Q 47 [l0] (.int (u.1 (ixI w a 4)) :: st) u := (WP_u (.getfield 19) [] rfl).trans ex_and
theorem eX4_readNumber_47 {l0 : Option Value} {st : List Value} {a : Nat} {i : Int32} : GX4_readNumber w Q 47 [l0] (.int i :: .ref a :: st) u ↔ okAI w a i ∧ GX4_readNumber w Q 48 [l0] (.int (rdA w u a i) :: st) u := (WP_u (.iaload) [] rfl).trans ex_and
theorem eX4_readNumber_48 {l0 : Option Value} {st : List Value} {x y : Int32} : GX4_readNumber w Q 48 [l0] (.int y :: .int x :: st) u ↔ GX4_readNumber w Q 49 [l0] (.int (x + y) :: st) u := WP_u (.iadd) [] rfl
theorem eX4_readNumber_49 {l0 : Option Value} {st : List Value} : GX4_readNumber w Q 49 [l0] st u ↔ GX4_readNumber w Q 51 [l0] (.int 48 :: st) u := WP_bipush rfl (by decide)
theorem eX4_readNumber_51 {l0 : Option Value} {st : List Value} {x y : Int32} : GX4_readNumber w Q 51 [l0] (.int y :: .int x :: st) u ↔ GX4_readNumber w Q 52 [l0] (.int (x - y) :: st) u := WP_u (.isub) [] rfl
theorem eX4_readNumber_52 {l0 : Option Value} {st : List Value} : GX4_readNumber w Q 52 [l0] st u ↔ GX4_readNumber w Q 55 [l0] (.int 10000 :: st) u := WP_sipush rfl (by decide)
theorem eX4_readNumber_55 {l0 : Option Value} {x0 : Int32} {x1 : Int32} {x2 : Nat} : GX4_readNumber w Q 55 [l0] [.int x0, .int x1, .ref x2] u ↔ (pJ9_min_7cf53 x1 x0 u) ∧ GX4_readNumber w Q 58 [l0] [.int (rJ9_min_7cf53 x1 x0 u), .ref x2] u := (WP_u (.invokestatic 146) [] rfl).trans (ex_call ⟨Nat.le_of_ble_eq_true rfl, Nat.le_of_ble_eq_true rfl⟩)
theorem eX4_readNumber_58 {l0 : Option Value} {st : List Value} {a : Nat} {x : Int32} : GX4_readNumber w Q 58 [l0] (.int x :: .ref a :: st) u ↔ okI w a 4 5 ∧ GX4_readNumber w Q 61 [l0] st (uI u (ixI w a 5) x) := (WP_u (.putfield 59) [] rfl).trans ex_and
theorem eX4_readNumber_61 {st : List Value} {x : Nat} : GX4_readNumber w Q 61 [some (.ref x)] st u ↔ GX4_readNumber w Q 62 [some (.ref x)] (.ref x :: st) u := WP_u (.aload_n 0) [] rfl
theorem eX4_readNumber_62 {l0 : Option Value} {st : List Value} {x : Nat} : GX4_readNumber w Q 62 [l0] (.ref x :: st) u ↔ GX4_readNumber w Q 63 [l0] (.ref x :: .ref x :: st) u := (WP_u (.dup) [] rfl).trans (ex_drop rfl)
theorem eX4_readNumber_63 {l0 : Option Value} {st : List Value} {a : Nat} : GX4_readNumber w Q 63 [l0] (.ref a :: st) u ↔ okI w a 4 4 ∧ GX4_readNumber w Q 66 [l0] (.int (u.1 (ixI w a 4)) :: st) u := (WP_u (.getfield 19) [] rfl).trans ex_and
theorem eX4_readNumber_66 {l0 : Option Value} {st : List Value} : GX4_readNumber w Q 66 [l0] st u ↔ GX4_readNumber w Q 67 [l0] (.int 1 :: st) u := WP_iconst rfl (by decide)
theorem eX4_readNumber_67 {l0 : Option Value} {st : List Value} {x y : Int32} : GX4_readNumber w Q 67 [l0] (.int y :: .int x :: st) u ↔ GX4_readNumber w Q 68 [l0] (.int (x + y) :: st) u := WP_u (.iadd) [] rfl
theorem eX4_readNumber_68 {l0 : Option Value} {st : List Value} {a : Nat} {x : Int32} : GX4_readNumber w Q 68 [l0] (.int x :: .ref a :: st) u ↔ okI w a 4 4 ∧ GX4_readNumber w Q 71 [l0] st (uI u (ixI w a 4) x) := (WP_u (.putfield 19) [] rfl).trans ex_and
theorem eX4_readNumber_71 {l0 : Option Value} {st : List Value} : GX4_readNumber w Q 71 [l0] st u ↔ GX4_readNumber w Q 5 [l0] st u := WP_u (.goto (-66)) [5] rfl
theorem eX4_readNumber_74 {l0 : Option Value} : GX4_readNumber w Q 74 [l0] [] u ↔ Q none u := (WP_u (.return_) [] rfl).trans ex_k
end
def VX4_readNumber (w : WW) : Prop := ∀  (u : MM), pX4_readNumber u → GX4_readNumber w (fun r u' => r = none ∧ u' = (mX4_readNumber u)) 0 [some (.ref (tpA w))] [] u
def KX4_advance (w : WW) : KT := (al flX4, al ciX4, al clX4, fun _ => none, al [(25, 0), (35, 1), (66, 2), (89, 3), (95, 4), (124, 5), (114, 6), (116, 7), (118, 8), (120, 9), (122, 10)], al [(137, csX4_readWord w), (143, csX4_readNumber w), (65670, csX4_isLetter w), (65676, csX4_isDigit w)])
abbrev GX4_advance (w : WW) (Q : Option Value → MM → Prop) : Nat → LL → List Value → MM → Prop := WP w MX4_advance TX4_advance (KX4_advance w) Q
section
variable {w : WW} {Q : Option Value → MM → Prop} {u : MM}
theorem eX4_advance_0 {st : List Value} {x : Nat} : GX4_advance w Q 0 [some (.ref x)] st u ↔ GX4_advance w Q 1 [some (.ref x)] (.ref x :: st) u := WP_u (.aload_n 0) [] rfl
theorem eX4_advance_1 {l0 : Option Value} {st : List Value} {a : Nat} : GX4_advance w Q 1 [l0] (.ref a :: st) u ↔ okI w a 4 4 ∧ GX4_advance w Q 4 [l0] (.int (u.1 (ixI w a 4)) :: st) u := (WP_u (.getfield 19) [] rfl).trans ex_and
theorem eX4_advance_4 {st : List Value} {x : Nat} : GX4_advance w Q 4 [some (.ref x)] st u ↔ GX4_advance w Q 5 [some (.ref x)] (.ref x :: st) u := WP_u (.aload_n 0) [] rfl
theorem eX4_advance_5 {l0 : Option Value} {st : List Value} {a : Nat} : GX4_advance w Q 5 [l0] (.ref a :: st) u ↔ okI w a 4 1 ∧ GX4_advance w Q 8 [l0] (.int (u.1 (ixI w a 1)) :: st) u := (WP_u (.getfield 15) [] rfl).trans ex_and
theorem eX4_advance_8 {l0 : Option Value} {st : List Value} {x y : Int32} : GX4_advance w Q 8 [l0] (.int y :: .int x :: st) u ↔ (y ≤ x → GX4_advance w Q 38 [l0] st u) ∧ (¬ (y ≤ x) → GX4_advance w Q 11 [l0] st u) := (WP_u (.if_icmp .ge 30) [38] rfl).trans ex_br
theorem eX4_advance_11 {st : List Value} {x : Nat} : GX4_advance w Q 11 [some (.ref x)] st u ↔ GX4_advance w Q 12 [some (.ref x)] (.ref x :: st) u := WP_u (.aload_n 0) [] rfl
theorem eX4_advance_12 {l0 : Option Value} {st : List Value} {a : Nat} : GX4_advance w Q 12 [l0] (.ref a :: st) u ↔ okR w a 4 0 ∧ GX4_advance w Q 15 [l0] (.ref (rfF w a 0) :: st) u := (WP_u (.getfield 9) [] rfl).trans ex_and
theorem eX4_advance_15 {st : List Value} {x : Nat} : GX4_advance w Q 15 [some (.ref x)] st u ↔ GX4_advance w Q 16 [some (.ref x)] (.ref x :: st) u := WP_u (.aload_n 0) [] rfl
theorem eX4_advance_16 {l0 : Option Value} {st : List Value} {a : Nat} : GX4_advance w Q 16 [l0] (.ref a :: st) u ↔ okI w a 4 4 ∧ GX4_advance w Q 19 [l0] (.int (u.1 (ixI w a 4)) :: st) u := (WP_u (.getfield 19) [] rfl).trans ex_and
theorem eX4_advance_19 {l0 : Option Value} {st : List Value} {a : Nat} {i : Int32} : GX4_advance w Q 19 [l0] (.int i :: .ref a :: st) u ↔ okAI w a i ∧ GX4_advance w Q 20 [l0] (.int (rdA w u a i) :: st) u := (WP_u (.iaload) [] rfl).trans ex_and
theorem eX4_advance_20 {l0 : Option Value} {st : List Value} : GX4_advance w Q 20 [l0] st u ↔ GX4_advance w Q 22 [l0] (.int 32 :: st) u := WP_bipush rfl (by decide)
theorem eX4_advance_22 {l0 : Option Value} {st : List Value} {x y : Int32} : GX4_advance w Q 22 [l0] (.int y :: .int x :: st) u ↔ (¬ x = y → GX4_advance w Q 38 [l0] st u) ∧ (¬ (¬ x = y) → GX4_advance w Q 25 [l0] st u) := (WP_u (.if_icmp .ne 16) [38] rfl).trans ex_br
theorem eX4_advance_25 {st : List Value} {x : Nat} : GX4_advance w Q 25 [some (.ref x)] st u ↔ GX4_advance w Q 26 [some (.ref x)] (.ref x :: st) u := WP_u (.aload_n 0) [] rfl
theorem eX4_advance_26 {l0 : Option Value} {st : List Value} {x : Nat} : GX4_advance w Q 26 [l0] (.ref x :: st) u ↔ GX4_advance w Q 27 [l0] (.ref x :: .ref x :: st) u := (WP_u (.dup) [] rfl).trans (ex_drop rfl)
theorem eX4_advance_27 {l0 : Option Value} {st : List Value} {a : Nat} : GX4_advance w Q 27 [l0] (.ref a :: st) u ↔ okI w a 4 4 ∧ GX4_advance w Q 30 [l0] (.int (u.1 (ixI w a 4)) :: st) u := (WP_u (.getfield 19) [] rfl).trans ex_and
theorem eX4_advance_30 {l0 : Option Value} {st : List Value} : GX4_advance w Q 30 [l0] st u ↔ GX4_advance w Q 31 [l0] (.int 1 :: st) u := WP_iconst rfl (by decide)
theorem eX4_advance_31 {l0 : Option Value} {st : List Value} {x y : Int32} : GX4_advance w Q 31 [l0] (.int y :: .int x :: st) u ↔ GX4_advance w Q 32 [l0] (.int (x + y) :: st) u := WP_u (.iadd) [] rfl
theorem eX4_advance_32 {l0 : Option Value} {st : List Value} {a : Nat} {x : Int32} : GX4_advance w Q 32 [l0] (.int x :: .ref a :: st) u ↔ okI w a 4 4 ∧ GX4_advance w Q 35 [l0] st (uI u (ixI w a 4) x) := (WP_u (.putfield 19) [] rfl).trans ex_and
theorem eX4_advance_35 {l0 : Option Value} {st : List Value} : GX4_advance w Q 35 [l0] st u ↔ GX4_advance w Q 0 [l0] st u := WP_u (.goto (-35)) [0] rfl
theorem eX4_advance_38 {st : List Value} {x : Nat} : GX4_advance w Q 38 [some (.ref x)] st u ↔ GX4_advance w Q 39 [some (.ref x)] (.ref x :: st) u := WP_u (.aload_n 0) [] rfl
theorem eX4_advance_39 {st : List Value} {x : Nat} : GX4_advance w Q 39 [some (.ref x)] st u ↔ GX4_advance w Q 40 [some (.ref x)] (.ref x :: st) u := WP_u (.aload_n 0) [] rfl
theorem eX4_advance_40 {l0 : Option Value} {st : List Value} {a : Nat} : GX4_advance w Q 40 [l0] (.ref a :: st) u ↔ okI w a 4 4 ∧ GX4_advance w Q 43 [l0] (.int (u.1 (ixI w a 4)) :: st) u := (WP_u (.getfield 19) [] rfl).trans ex_and
theorem eX4_advance_43 {l0 : Option Value} {st : List Value} {a : Nat} {x : Int32} : GX4_advance w Q 43 [l0] (.int x :: .ref a :: st) u ↔ okI w a 4 3 ∧ GX4_advance w Q 46 [l0] st (uI u (ixI w a 3) x) := (WP_u (.putfield 46) [] rfl).trans ex_and
theorem eX4_advance_46 {st : List Value} {x : Nat} : GX4_advance w Q 46 [some (.ref x)] st u ↔ GX4_advance w Q 47 [some (.ref x)] (.ref x :: st) u := WP_u (.aload_n 0) [] rfl
theorem eX4_advance_47 {l0 : Option Value} {st : List Value} {a : Nat} : GX4_advance w Q 47 [l0] (.ref a :: st) u ↔ okI w a 4 3 ∧ GX4_advance w Q 50 [l0] (.int (u.1 (ixI w a 3)) :: st) u := (WP_u (.getfield 46) [] rfl).trans ex_and
theorem eX4_advance_50 {st : List Value} {x : Nat} : GX4_advance w Q 50 [some (.ref x)] st u ↔ GX4_advance w Q 51 [some (.ref x)] (.ref x :: st) u := WP_u (.aload_n 0) [] rfl
theorem eX4_advance_51 {l0 : Option Value} {st : List Value} {a : Nat} : GX4_advance w Q 51 [l0] (.ref a :: st) u ↔ okI w a 4 1 ∧ GX4_advance w Q 54 [l0] (.int (u.1 (ixI w a 1)) :: st) u := (WP_u (.getfield 15) [] rfl).trans ex_and
theorem eX4_advance_54 {l0 : Option Value} {st : List Value} {x y : Int32} : GX4_advance w Q 54 [l0] (.int y :: .int x :: st) u ↔ (x < y → GX4_advance w Q 65 [l0] st u) ∧ (¬ (x < y) → GX4_advance w Q 57 [l0] st u) := (WP_u (.if_icmp .lt 11) [65] rfl).trans ex_br
theorem eX4_advance_57 {st : List Value} {x : Nat} : GX4_advance w Q 57 [some (.ref x)] st u ↔ GX4_advance w Q 58 [some (.ref x)] (.ref x :: st) u := WP_u (.aload_n 0) [] rfl
theorem eX4_advance_58 {l0 : Option Value} {st : List Value} : GX4_advance w Q 58 [l0] st u ↔ GX4_advance w Q 59 [l0] (.int 0 :: st) u := WP_iconst rfl (by decide)
theorem eX4_advance_59 {l0 : Option Value} {st : List Value} {a : Nat} {x : Int32} : GX4_advance w Q 59 [l0] (.int x :: .ref a :: st) u ↔ okI w a 4 2 ∧ GX4_advance w Q 62 [l0] st (uI u (ixI w a 2) x) := (WP_u (.putfield 43) [] rfl).trans ex_and
theorem eX4_advance_62 {l0 : Option Value} {st : List Value} : GX4_advance w Q 62 [l0] st u ↔ GX4_advance w Q 152 [l0] st u := WP_u (.goto 90) [152] rfl
theorem eX4_advance_65 {st : List Value} {x : Nat} : GX4_advance w Q 65 [some (.ref x)] st u ↔ GX4_advance w Q 66 [some (.ref x)] (.ref x :: st) u := WP_u (.aload_n 0) [] rfl
theorem eX4_advance_66 {l0 : Option Value} {st : List Value} {a : Nat} : GX4_advance w Q 66 [l0] (.ref a :: st) u ↔ okR w a 4 0 ∧ GX4_advance w Q 69 [l0] (.ref (rfF w a 0) :: st) u := (WP_u (.getfield 9) [] rfl).trans ex_and
theorem eX4_advance_69 {st : List Value} {x : Nat} : GX4_advance w Q 69 [some (.ref x)] st u ↔ GX4_advance w Q 70 [some (.ref x)] (.ref x :: st) u := WP_u (.aload_n 0) [] rfl
theorem eX4_advance_70 {l0 : Option Value} {st : List Value} {a : Nat} : GX4_advance w Q 70 [l0] (.ref a :: st) u ↔ okI w a 4 3 ∧ GX4_advance w Q 73 [l0] (.int (u.1 (ixI w a 3)) :: st) u := (WP_u (.getfield 46) [] rfl).trans ex_and
theorem eX4_advance_73 {l0 : Option Value} {st : List Value} {a : Nat} {i : Int32} : GX4_advance w Q 73 [l0] (.int i :: .ref a :: st) u ↔ okAI w a i ∧ GX4_advance w Q 74 [l0] (.int (rdA w u a i) :: st) u := (WP_u (.iaload) [] rfl).trans ex_and
theorem eX4_advance_74 {l0 : Option Value} {x0 : Int32} : GX4_advance w Q 74 [l0] [.int x0] u ↔ (pX4_isLetter x0 u) ∧ GX4_advance w Q 77 [l0] [.int (rX4_isLetter x0 u)] u := (WP_u (.invokestatic 134) [] rfl).trans (ex_call ⟨Nat.le_of_ble_eq_true rfl, Nat.le_of_ble_eq_true rfl⟩)
theorem eX4_advance_77 {l0 : Option Value} {st : List Value} {x : Int32} : GX4_advance w Q 77 [l0] (.int x :: st) u ↔ (x = 0 → GX4_advance w Q 92 [l0] st u) ∧ (¬ (x = 0) → GX4_advance w Q 80 [l0] st u) := (WP_u (.ifCond .eq 15) [92] rfl).trans ex_br
theorem eX4_advance_80 {st : List Value} {x : Nat} : GX4_advance w Q 80 [some (.ref x)] st u ↔ GX4_advance w Q 81 [some (.ref x)] (.ref x :: st) u := WP_u (.aload_n 0) [] rfl
theorem eX4_advance_81 {l0 : Option Value} {st : List Value} : GX4_advance w Q 81 [l0] st u ↔ GX4_advance w Q 82 [l0] (.int 1 :: st) u := WP_iconst rfl (by decide)
theorem eX4_advance_82 {l0 : Option Value} {st : List Value} {a : Nat} {x : Int32} : GX4_advance w Q 82 [l0] (.int x :: .ref a :: st) u ↔ okI w a 4 2 ∧ GX4_advance w Q 85 [l0] st (uI u (ixI w a 2) x) := (WP_u (.putfield 43) [] rfl).trans ex_and
theorem eX4_advance_85 {st : List Value} {x : Nat} : GX4_advance w Q 85 [some (.ref x)] st u ↔ GX4_advance w Q 86 [some (.ref x)] (.ref x :: st) u := WP_u (.aload_n 0) [] rfl
theorem eX4_advance_86 {l0 : Option Value} {x0 : Nat} : GX4_advance w Q 86 [l0] [.ref x0] u ↔ (x0 = tpA w ∧ pX4_readWord u) ∧ GX4_advance w Q 89 [l0] [] (mX4_readWord u) := (WP_u (.invokevirtual 137) [] rfl).trans (ex_call ⟨Nat.le_of_ble_eq_true rfl, Nat.le_of_ble_eq_true rfl⟩)
theorem eX4_advance_89 {l0 : Option Value} {st : List Value} : GX4_advance w Q 89 [l0] st u ↔ GX4_advance w Q 152 [l0] st u := WP_u (.goto 63) [152] rfl
theorem eX4_advance_92 {st : List Value} {x : Nat} : GX4_advance w Q 92 [some (.ref x)] st u ↔ GX4_advance w Q 93 [some (.ref x)] (.ref x :: st) u := WP_u (.aload_n 0) [] rfl
theorem eX4_advance_93 {l0 : Option Value} {st : List Value} {a : Nat} : GX4_advance w Q 93 [l0] (.ref a :: st) u ↔ okR w a 4 0 ∧ GX4_advance w Q 96 [l0] (.ref (rfF w a 0) :: st) u := (WP_u (.getfield 9) [] rfl).trans ex_and
theorem eX4_advance_96 {st : List Value} {x : Nat} : GX4_advance w Q 96 [some (.ref x)] st u ↔ GX4_advance w Q 97 [some (.ref x)] (.ref x :: st) u := WP_u (.aload_n 0) [] rfl
theorem eX4_advance_97 {l0 : Option Value} {st : List Value} {a : Nat} : GX4_advance w Q 97 [l0] (.ref a :: st) u ↔ okI w a 4 3 ∧ GX4_advance w Q 100 [l0] (.int (u.1 (ixI w a 3)) :: st) u := (WP_u (.getfield 46) [] rfl).trans ex_and
theorem eX4_advance_100 {l0 : Option Value} {st : List Value} {a : Nat} {i : Int32} : GX4_advance w Q 100 [l0] (.int i :: .ref a :: st) u ↔ okAI w a i ∧ GX4_advance w Q 101 [l0] (.int (rdA w u a i) :: st) u := (WP_u (.iaload) [] rfl).trans ex_and
theorem eX4_advance_101 {l0 : Option Value} {x0 : Int32} : GX4_advance w Q 101 [l0] [.int x0] u ↔ (pX4_isDigit x0 u) ∧ GX4_advance w Q 104 [l0] [.int (rX4_isDigit x0 u)] u := (WP_u (.invokestatic 140) [] rfl).trans (ex_call ⟨Nat.le_of_ble_eq_true rfl, Nat.le_of_ble_eq_true rfl⟩)
theorem eX4_advance_104 {l0 : Option Value} {st : List Value} {x : Int32} : GX4_advance w Q 104 [l0] (.int x :: st) u ↔ (x = 0 → GX4_advance w Q 119 [l0] st u) ∧ (¬ (x = 0) → GX4_advance w Q 107 [l0] st u) := (WP_u (.ifCond .eq 15) [119] rfl).trans ex_br
theorem eX4_advance_107 {st : List Value} {x : Nat} : GX4_advance w Q 107 [some (.ref x)] st u ↔ GX4_advance w Q 108 [some (.ref x)] (.ref x :: st) u := WP_u (.aload_n 0) [] rfl
theorem eX4_advance_108 {l0 : Option Value} {st : List Value} : GX4_advance w Q 108 [l0] st u ↔ GX4_advance w Q 109 [l0] (.int 2 :: st) u := WP_iconst rfl (by decide)
theorem eX4_advance_109 {l0 : Option Value} {st : List Value} {a : Nat} {x : Int32} : GX4_advance w Q 109 [l0] (.int x :: .ref a :: st) u ↔ okI w a 4 2 ∧ GX4_advance w Q 112 [l0] st (uI u (ixI w a 2) x) := (WP_u (.putfield 43) [] rfl).trans ex_and
theorem eX4_advance_112 {st : List Value} {x : Nat} : GX4_advance w Q 112 [some (.ref x)] st u ↔ GX4_advance w Q 113 [some (.ref x)] (.ref x :: st) u := WP_u (.aload_n 0) [] rfl
theorem eX4_advance_113 {l0 : Option Value} {x0 : Nat} : GX4_advance w Q 113 [l0] [.ref x0] u ↔ (x0 = tpA w ∧ pX4_readNumber u) ∧ GX4_advance w Q 116 [l0] [] (mX4_readNumber u) := (WP_u (.invokevirtual 143) [] rfl).trans (ex_call ⟨Nat.le_of_ble_eq_true rfl, Nat.le_of_ble_eq_true rfl⟩)
theorem eX4_advance_116 {l0 : Option Value} {st : List Value} : GX4_advance w Q 116 [l0] st u ↔ GX4_advance w Q 152 [l0] st u := WP_u (.goto 36) [152] rfl
theorem eX4_advance_119 {st : List Value} {x : Nat} : GX4_advance w Q 119 [some (.ref x)] st u ↔ GX4_advance w Q 120 [some (.ref x)] (.ref x :: st) u := WP_u (.aload_n 0) [] rfl
theorem eX4_advance_120 {st : List Value} {x : Nat} : GX4_advance w Q 120 [some (.ref x)] st u ↔ GX4_advance w Q 121 [some (.ref x)] (.ref x :: st) u := WP_u (.aload_n 0) [] rfl
theorem eX4_advance_121 {l0 : Option Value} {st : List Value} {a : Nat} : GX4_advance w Q 121 [l0] (.ref a :: st) u ↔ okR w a 4 0 ∧ GX4_advance w Q 124 [l0] (.ref (rfF w a 0) :: st) u := (WP_u (.getfield 9) [] rfl).trans ex_and
theorem eX4_advance_124 {st : List Value} {x : Nat} : GX4_advance w Q 124 [some (.ref x)] st u ↔ GX4_advance w Q 125 [some (.ref x)] (.ref x :: st) u := WP_u (.aload_n 0) [] rfl
theorem eX4_advance_125 {l0 : Option Value} {st : List Value} {a : Nat} : GX4_advance w Q 125 [l0] (.ref a :: st) u ↔ okI w a 4 3 ∧ GX4_advance w Q 128 [l0] (.int (u.1 (ixI w a 3)) :: st) u := (WP_u (.getfield 46) [] rfl).trans ex_and
theorem eX4_advance_128 {l0 : Option Value} {st : List Value} {a : Nat} {i : Int32} : GX4_advance w Q 128 [l0] (.int i :: .ref a :: st) u ↔ okAI w a i ∧ GX4_advance w Q 129 [l0] (.int (rdA w u a i) :: st) u := (WP_u (.iaload) [] rfl).trans ex_and
theorem eX4_advance_129 {l0 : Option Value} {st : List Value} : GX4_advance w Q 129 [l0] st u ↔ GX4_advance w Q 131 [l0] (.int 59 :: st) u := WP_bipush rfl (by decide)
theorem eX4_advance_131 {l0 : Option Value} {st : List Value} {x y : Int32} : GX4_advance w Q 131 [l0] (.int y :: .int x :: st) u ↔ (¬ x = y → GX4_advance w Q 138 [l0] st u) ∧ (¬ (¬ x = y) → GX4_advance w Q 134 [l0] st u) := (WP_u (.if_icmp .ne 7) [138] rfl).trans ex_br
theorem eX4_advance_134 {l0 : Option Value} {st : List Value} : GX4_advance w Q 134 [l0] st u ↔ GX4_advance w Q 135 [l0] (.int 3 :: st) u := WP_iconst rfl (by decide)
theorem eX4_advance_135 {l0 : Option Value} {st : List Value} : GX4_advance w Q 135 [l0] st u ↔ GX4_advance w Q 139 [l0] st u := WP_u (.goto 4) [139] rfl
theorem eX4_advance_138 {l0 : Option Value} {st : List Value} : GX4_advance w Q 138 [l0] st u ↔ GX4_advance w Q 139 [l0] (.int 4 :: st) u := WP_iconst rfl (by decide)
theorem eX4_advance_139 {l0 : Option Value} {st : List Value} {a : Nat} {x : Int32} : GX4_advance w Q 139 [l0] (.int x :: .ref a :: st) u ↔ okI w a 4 2 ∧ GX4_advance w Q 142 [l0] st (uI u (ixI w a 2) x) := (WP_u (.putfield 43) [] rfl).trans ex_and
theorem eX4_advance_142 {st : List Value} {x : Nat} : GX4_advance w Q 142 [some (.ref x)] st u ↔ GX4_advance w Q 143 [some (.ref x)] (.ref x :: st) u := WP_u (.aload_n 0) [] rfl
theorem eX4_advance_143 {st : List Value} {x : Nat} : GX4_advance w Q 143 [some (.ref x)] st u ↔ GX4_advance w Q 144 [some (.ref x)] (.ref x :: st) u := WP_u (.aload_n 0) [] rfl
theorem eX4_advance_144 {l0 : Option Value} {st : List Value} {a : Nat} : GX4_advance w Q 144 [l0] (.ref a :: st) u ↔ okI w a 4 3 ∧ GX4_advance w Q 147 [l0] (.int (u.1 (ixI w a 3)) :: st) u := (WP_u (.getfield 46) [] rfl).trans ex_and
theorem eX4_advance_147 {l0 : Option Value} {st : List Value} : GX4_advance w Q 147 [l0] st u ↔ GX4_advance w Q 148 [l0] (.int 1 :: st) u := WP_iconst rfl (by decide)
theorem eX4_advance_148 {l0 : Option Value} {st : List Value} {x y : Int32} : GX4_advance w Q 148 [l0] (.int y :: .int x :: st) u ↔ GX4_advance w Q 149 [l0] (.int (x + y) :: st) u := WP_u (.iadd) [] rfl
theorem eX4_advance_149 {l0 : Option Value} {st : List Value} {a : Nat} {x : Int32} : GX4_advance w Q 149 [l0] (.int x :: .ref a :: st) u ↔ okI w a 4 4 ∧ GX4_advance w Q 152 [l0] st (uI u (ixI w a 4) x) := (WP_u (.putfield 19) [] rfl).trans ex_and
theorem eX4_advance_152 {l0 : Option Value} : GX4_advance w Q 152 [l0] [] u ↔ Q none u := (WP_u (.return_) [] rfl).trans ex_k
end
def VX4_advance (w : WW) : Prop := ∀  (u : MM), pX4_advance u → GX4_advance w (fun r u' => r = none ∧ u' = (mX4_advance u)) 0 [some (.ref (tpA w))] [] u
theorem lX3_layOut {w : WW} {s : Nat} (hs : s < 4) {b n : Int32} {u : MM} {Q : Option Value → MM → Prop} (hQ : Q none (zr u (40 * s) 40)) :
    ∀ (m i : Nat), i + m = 40 → GX3_layOut w Q 20 [some (.ref (stA w s)), some (.int b), some (.int n), some (.int (nI i))] [] (zr u (40 * s) i) := by
  intro m
  induction m with
  | zero =>
    intro i hi
    have e : i = 40 := by omega
    subst e
    have hle : (40 : Int32) ≤ nI 40 := by decide
    rw [eX3_layOut_20]
    simp only [eX3_layOut_0, eX3_layOut_1, eX3_layOut_2, eX3_layOut_5, eX3_layOut_6, eX3_layOut_7, eX3_layOut_10, eX3_layOut_11, eX3_layOut_14, eX3_layOut_15, eX3_layOut_18, eX3_layOut_19, eX3_layOut_21, eX3_layOut_23, eX3_layOut_26, eX3_layOut_27, eX3_layOut_30, eX3_layOut_31, eX3_layOut_32, eX3_layOut_33, eX3_layOut_36, eX3_layOut_39, kl_i, kl_r, kl_n, kl_l, true_and, and_true, true_implies, false_implies, not_true_eq_false, not_false_eq_true, i10, Classical.not_not, hle]
    exact hQ
  | succ m ih =>
    intro i hi
    have hlt : ¬ (40 : Int32) ≤ nI i := nI_ge (a := i) (b := 40) (by omega) (by decide)
    have hv : vp_in (nI i) 40 := vi_nI (by omega)
    have hN : NN (nI i) = i := NN_nI (by omega)
    have e : uJ (zr u (40 * s) i) (40 * s + i) 0 = zr u (40 * s) (i + 1) := by
      apply Prod.ext
      · rfl
      · funext j
        simp only [uJ, zr, vp_updL]
        by_cases h : j = 40 * s + i
        · rw [if_pos h, if_pos (by omega)]
        · rw [if_neg h]; exact ifq (by omega)
    rw [eX3_layOut_20]
    simp only [eX3_layOut_0, eX3_layOut_1, eX3_layOut_2, eX3_layOut_5, eX3_layOut_6, eX3_layOut_7, eX3_layOut_10, eX3_layOut_11, eX3_layOut_14, eX3_layOut_15, eX3_layOut_18, eX3_layOut_19, eX3_layOut_21, eX3_layOut_23, eX3_layOut_26, eX3_layOut_27, eX3_layOut_30, eX3_layOut_31, eX3_layOut_32, eX3_layOut_33, eX3_layOut_36, eX3_layOut_39, kl_i, kl_r, kl_n, kl_l, true_and, and_true, true_implies, false_implies, not_true_eq_false, not_false_eq_true, i10, Classical.not_not, hlt, ok_st0 w hs, rf_st0 w hs, aj_sn w hs, xj_sn w hs, hv, hN, e]
    rw [nI_1]; exact ih (i + 1) (by omega)
theorem vX3_layOut (w : WW) : VX3_layOut w := by
  intro s b n u hs h
  have key := lX3_layOut (w := w) hs (b := b) (n := n) (u := uI (uI u (430 + 2 * s) b) (430 + 2 * s + 1) (if b = 0 then 0 else n)) (Q := fun r u' => r = none ∧ u' = mX3_layOut s b n u) ⟨rfl, rfl⟩ 40 0 (by decide)
  rw [zr_0] at key
  simp only [eX3_layOut_0, eX3_layOut_1, eX3_layOut_2, eX3_layOut_5, eX3_layOut_6, eX3_layOut_7, eX3_layOut_10, eX3_layOut_11, eX3_layOut_14, eX3_layOut_15, eX3_layOut_18, eX3_layOut_19, eX3_layOut_21, eX3_layOut_23, eX3_layOut_26, eX3_layOut_27, eX3_layOut_30, eX3_layOut_31, eX3_layOut_32, eX3_layOut_33, eX3_layOut_36, eX3_layOut_39, kl_i, kl_r, kl_n, kl_l, true_and, and_true, true_implies, false_implies, not_true_eq_false, not_false_eq_true, i10, Classical.not_not, ok_st1 w hs, ix_st1 w hs, ok_st2 w hs, ix_st2 w hs]
  refine ⟨fun c => ?_, fun c => ?_⟩
  · rw [if_neg c] at key; exact key
  · rw [if_pos c] at key; exact key
set_option maxRecDepth 20000 in
theorem KX3_layOut_ok (w : WW) : KOk w MX3_layOut (KX3_layOut w) := KOk_mk flX3_ok ciX3_ok clX3_ok (fun _ _ h => by cases h) (fun _ _ h => by cases h) (List.forall_mem_nil _)
theorem ctX3_layOut (w : WW) : CT w yX3_layOut MX3_layOut (csX3_layOut w).2.1 (csX3_layOut w).2.2 := by
  refine CT_of (by decide) rfl TX3_layOut_ok TX3_layOut_v (KX3_layOut_ok w) (fun as u h => ?_)
  obtain ⟨a0, a1, a2, rfl, h⟩ := sgRII h
  obtain ⟨h0, hh⟩ := h
  obtain ⟨q0, e0, rfl⟩ := h0
  rw [tq_stA] at hh
  refine ⟨Nat.le_of_ble_eq_true rfl, ?_⟩
  have key := vX3_layOut w q0 a1 a2 u e0 hh
  simp only [csX3_layOut, tq_stA]
  exact key
theorem prX3_layOut (w : WW) : ∀ as u, (csX3_layOut w).2.1 as u → ∃ a r, as = .ref a :: r ∧ r.length = 2 ∧ okO w a 3 := by
  intro as u h
  obtain ⟨a0, a1, a2, rfl, h⟩ := sgRII h
  exact ⟨_, _, rfl, rfl, okO_t h⟩
theorem vX3_put (w : WW) : VX3_put w := by
  intro s i v u hs h
  have h' : vp_in i 40 := h
  simp only [eX3_put_0, eX3_put_1, eX3_put_4, eX3_put_32, eX3_put_33, eX3_put_36, eX3_put_37, eX3_put_38, eX3_put_39, eX3_put_40, eX3_put_41, eX3_put_42, eX3_put_45, eX3_put_46, eX3_put_49, eX3_put_50, eX3_put_51, eX3_put_52, eX3_put_53, eX3_put_54, eX3_put_55, eX3_put_58, eX3_put_59, eX3_put_62, eX3_put_63, eX3_put_64, eX3_put_65, kl_i, kl_r, kl_n, kl_l, true_and, and_true, true_implies, false_implies, not_true_eq_false, not_false_eq_true, i10, Classical.not_not, ok_st1 w hs, ix_st1 w hs, ok_st0 w hs, rf_st0 w hs, aj_sn w hs, xj_sn w hs, h', mX3_put, nrw8, nrw16]
  refine ⟨fun c => ?_, fun c => ⟨fun d => ?_, fun d => ?_⟩⟩
  · unfold nrw; rw [if_pos c]
  · unfold nrw; rw [if_neg c, if_pos d]
  · unfold nrw; rw [if_neg c, if_neg d]
set_option maxRecDepth 20000 in
theorem KX3_put_ok (w : WW) : KOk w MX3_put (KX3_put w) := KOk_mk flX3_ok ciX3_ok clX3_ok (fun _ _ h => by cases h) (fun _ _ h => by cases h) (List.forall_mem_nil _)
theorem ctX3_put (w : WW) : CT w yX3_put MX3_put (csX3_put w).2.1 (csX3_put w).2.2 := by
  refine CT_of (by decide) rfl TX3_put_ok TX3_put_v (KX3_put_ok w) (fun as u h => ?_)
  obtain ⟨a0, a1, a2, rfl, h⟩ := sgRIJ h
  obtain ⟨h0, hh⟩ := h
  obtain ⟨q0, e0, rfl⟩ := h0
  rw [tq_stA] at hh
  refine ⟨Nat.le_of_ble_eq_true rfl, ?_⟩
  have key := vX3_put w q0 a1 a2 u e0 hh
  simp only [csX3_put, tq_stA]
  exact key
theorem prX3_put (w : WW) : ∀ as u, (csX3_put w).2.1 as u → ∃ a r, as = .ref a :: r ∧ r.length = 2 ∧ okO w a 3 := by
  intro as u h
  obtain ⟨a0, a1, a2, rfl, h⟩ := sgRIJ h
  exact ⟨_, _, rfl, rfl, okO_t h⟩
theorem vX4_isLetter (w : WW) : VX4_isLetter w := by
  intro b u h
  simp only [eX4_isLetter_0, eX4_isLetter_1, eX4_isLetter_3, eX4_isLetter_6, eX4_isLetter_7, eX4_isLetter_9, eX4_isLetter_12, eX4_isLetter_13, eX4_isLetter_16, eX4_isLetter_17, kl_i, kl_r, kl_n, kl_l, true_and, and_true, true_implies, false_implies, not_true_eq_false, not_false_eq_true, i10, Classical.not_not, rX4_isLetter, Option.some.injEq, Value.int.injEq]
  refine ⟨fun h => ⟨nb_0, ?_⟩, fun h => ⟨fun h2 => ⟨nb_0, ?_⟩, fun h2 => ⟨nb_1, ?_⟩⟩⟩
  · exact (bi_f (fun z => absurd h (Int32.not_lt.mpr z.1))).symm
  · exact (bi_f (fun z => absurd h2 (Int32.not_lt.mpr z.2))).symm
  · exact (bi_t ⟨Int32.not_lt.mp h, Int32.not_lt.mp h2⟩).symm
set_option maxRecDepth 20000 in
theorem KX4_isLetter_ok (w : WW) : KOk w MX4_isLetter (KX4_isLetter w) := KOk_mk flX4_ok ciX4_ok clX4_ok (fun _ _ h => by cases h) (fun n t h => tx_ok n t h) (List.forall_mem_nil _)
theorem ctX4_isLetter (w : WW) : CT w yX4_isLetter MX4_isLetter (csX4_isLetter w).2.1 (csX4_isLetter w).2.2 := by
  refine CT_of (by decide) rfl TX4_isLetter_ok TX4_isLetter_v (KX4_isLetter_ok w) (fun as u h => ?_)
  obtain ⟨a0, rfl, h⟩ := sgI h
  have hh := h
  refine ⟨Nat.le_of_ble_eq_true rfl, ?_⟩
  have key := vX4_isLetter w a0 u hh
  exact key
theorem vX4_isDigit (w : WW) : VX4_isDigit w := by
  intro b u h
  simp only [eX4_isDigit_0, eX4_isDigit_1, eX4_isDigit_3, eX4_isDigit_6, eX4_isDigit_7, eX4_isDigit_9, eX4_isDigit_12, eX4_isDigit_13, eX4_isDigit_16, eX4_isDigit_17, kl_i, kl_r, kl_n, kl_l, true_and, and_true, true_implies, false_implies, not_true_eq_false, not_false_eq_true, i10, Classical.not_not, rX4_isDigit, Option.some.injEq, Value.int.injEq]
  refine ⟨fun h => ⟨nb_0, ?_⟩, fun h => ⟨fun h2 => ⟨nb_0, ?_⟩, fun h2 => ⟨nb_1, ?_⟩⟩⟩
  · exact (bi_f (fun z => absurd h (Int32.not_lt.mpr z.1))).symm
  · exact (bi_f (fun z => absurd h2 (Int32.not_lt.mpr z.2))).symm
  · exact (bi_t ⟨Int32.not_lt.mp h, Int32.not_lt.mp h2⟩).symm
set_option maxRecDepth 20000 in
theorem KX4_isDigit_ok (w : WW) : KOk w MX4_isDigit (KX4_isDigit w) := KOk_mk flX4_ok ciX4_ok clX4_ok (fun _ _ h => by cases h) (fun n t h => tx_ok n t h) (List.forall_mem_nil _)
theorem ctX4_isDigit (w : WW) : CT w yX4_isDigit MX4_isDigit (csX4_isDigit w).2.1 (csX4_isDigit w).2.2 := by
  refine CT_of (by decide) rfl TX4_isDigit_ok TX4_isDigit_v (KX4_isDigit_ok w) (fun as u h => ?_)
  obtain ⟨a0, rfl, h⟩ := sgI h
  have hh := h
  refine ⟨Nat.le_of_ble_eq_true rfl, ?_⟩
  have key := vX4_isDigit w a0 u hh
  exact key
theorem vX4_append (w : WW) : VX4_append w := by
  intro b u h
  have h' : vp_in (u.1 281) 120 := h
  have hlt : ¬ (120 : Int32) ≤ u.1 281 := by
    obtain ⟨j, hj, e⟩ := vi_of h'
    rw [e]; exact nI_ge (a := j) (b := 120) hj (by decide)
  have rd : (uI u (300 + NN (u.1 281)) b).1 281 = u.1 281 := by
    simp only [uI, upd]; rw [if_neg (by omega)]
  simp only [eX4_append_0, eX4_append_1, eX4_append_4, eX4_append_6, eX4_append_9, eX4_append_10, eX4_append_13, eX4_append_14, eX4_append_17, eX4_append_18, eX4_append_19, eX4_append_20, eX4_append_21, eX4_append_24, eX4_append_25, eX4_append_26, eX4_append_29, kl_i, kl_r, kl_n, kl_l, true_and, and_true, true_implies, false_implies, not_true_eq_false, not_false_eq_true, i10, Classical.not_not, ok_tp1, ix_tp1, ok_tp0, rf_tp0, as_tbb, xa_tbb, hlt, h', rd, mX4_append]
set_option maxRecDepth 20000 in
theorem KX4_append_ok (w : WW) : KOk w MX4_append (KX4_append w) := KOk_mk flX4_ok ciX4_ok clX4_ok (fun _ _ h => by cases h) (fun n t h => tx_ok n t h) (List.forall_mem_nil _)
theorem ctX4_append (w : WW) : CT w yX4_append MX4_append (csX4_append w).2.1 (csX4_append w).2.2 := by
  refine CT_of (by decide) rfl TX4_append_ok TX4_append_v (KX4_append_ok w) (fun as u h => ?_)
  obtain ⟨a0, a1, rfl, h⟩ := sgRI h
  obtain ⟨rfl, hh⟩ := h
  refine ⟨Nat.le_of_ble_eq_true rfl, ?_⟩
  have key := vX4_append w a1 u hh
  exact key
theorem prX4_append (w : WW) : ∀ as u, (csX4_append w).2.1 as u → ∃ a r, as = .ref a :: r ∧ r.length = 1 ∧ okO w a 4 := by
  intro as u h
  obtain ⟨a0, a1, rfl, h⟩ := sgRI h
  exact ⟨_, _, rfl, rfl, okO_tp h⟩
theorem vX4_isNumberBelow (w : WW) : VX4_isNumberBelow w := by
  intro n u h
  simp only [eX4_isNumberBelow_0, eX4_isNumberBelow_1, eX4_isNumberBelow_4, eX4_isNumberBelow_5, eX4_isNumberBelow_8, eX4_isNumberBelow_9, eX4_isNumberBelow_12, eX4_isNumberBelow_13, eX4_isNumberBelow_16, eX4_isNumberBelow_17, eX4_isNumberBelow_20, eX4_isNumberBelow_21, kl_i, kl_r, kl_n, kl_l, true_and, and_true, true_implies, false_implies, not_true_eq_false, not_false_eq_true, i10, Classical.not_not, ok_tp2, ix_tp2, ok_tp5, ix_tp5, rX4_isNumberBelow, Option.some.injEq, Value.int.injEq]
  refine ⟨fun h => ⟨nb_0, ?_⟩, fun h => ⟨fun h2 => ⟨nb_0, ?_⟩, fun h2 => ⟨nb_1, ?_⟩⟩⟩
  · exact (bi_f (fun z => h z.1)).symm
  · exact (bi_f (fun z => absurd z.2 (Int32.not_lt.mpr h2))).symm
  · exact (bi_t ⟨h, Int32.not_le.mp h2⟩).symm
set_option maxRecDepth 20000 in
theorem KX4_isNumberBelow_ok (w : WW) : KOk w MX4_isNumberBelow (KX4_isNumberBelow w) := KOk_mk flX4_ok ciX4_ok clX4_ok (fun _ _ h => by cases h) (fun n t h => tx_ok n t h) (List.forall_mem_nil _)
theorem ctX4_isNumberBelow (w : WW) : CT w yX4_isNumberBelow MX4_isNumberBelow (csX4_isNumberBelow w).2.1 (csX4_isNumberBelow w).2.2 := by
  refine CT_of (by decide) rfl TX4_isNumberBelow_ok TX4_isNumberBelow_v (KX4_isNumberBelow_ok w) (fun as u h => ?_)
  obtain ⟨a0, a1, rfl, h⟩ := sgRI h
  obtain ⟨rfl, hh⟩ := h
  refine ⟨Nat.le_of_ble_eq_true rfl, ?_⟩
  have key := vX4_isNumberBelow w a1 u hh
  exact key
theorem prX4_isNumberBelow (w : WW) : ∀ as u, (csX4_isNumberBelow w).2.1 as u → ∃ a r, as = .ref a :: r ∧ r.length = 1 ∧ okO w a 4 := by
  intro as u h
  obtain ⟨a0, a1, rfl, h⟩ := sgRI h
  exact ⟨_, _, rfl, rfl, okO_tp h⟩
