/-! ===== the class itself: its halls, its findings, its small methods ===== -/
def qP : Nat := 0
def qT : Nat := 1
def qK : Nat := 2
theorem hqP : qP < 3 := by decide
theorem hqT : qT < 3 := by decide
theorem hqK : qK < 3 := by decide
theorem rfP (w : WW) : rfF w (xA w) 0 = hA w qP := rf_x0 w
theorem rfT (w : WW) : rfF w (xA w) 1 = hA w qT := rf_x1 w
theorem rfK (w : WW) : rfF w (xA w) 2 = hA w qK := rf_x2 w
theorem neTP : (qT ≠ qP) = True := eq_true (by decide)
theorem nePT : (qP ≠ qT) = True := eq_true (by decide)
theorem neKP : (qK ≠ qP) = True := eq_true (by decide)
theorem nePK : (qP ≠ qK) = True := eq_true (by decide)
abbrev RP (u : MM) : Nat → Int32 := vw u (91 * qP)
def fndX (k : Nat) (u : MM) : MM := uI u (440 + k) (u.1 (440 + k) + 1)
def moX (o : OP) (u : MM) : MM := match o with
  | .inl k => fndX k u
  | .inr (_, S) => pv u (91 * qP) S
/-- coins and worths within bounds at the second t -/
def Cv (R : Nat → Int32) (t : Nat) : Prop := R 0 = nI t ∧ (∀ s, s < NN (R 1) → ∃ v, v ≤ 99 ∧ se R s 1 = nI v) ∧ (∀ c, c < NN (R 2) → ∃ x, x ≤ 99 * t ∧ on R c 4 = nI x)
def HC (R : Nat → Int32) : Prop := Hv R ∧ ∃ t, t ≤ 9999 ∧ Cv R t
def IX (u : MM) : Prop := HC (vw u (91 * qP))
def pX5_finding (k : Int32) (_ : MM) : Prop := vp_in k 7
def rX5_finding (k : Int32) (_ : MM) : Int32 := -1000000001 - k
def mX5_finding (k : Int32) (u : MM) : MM := fndX (NN k) u
def pX5_isFromTo (_ _ _ : Int32) (_ : MM) : Prop := True
def rX5_isFromTo (a b c : Int32) (_ : MM) : Int32 := bi (b ≤ a ∧ a ≤ c)
def pX5_isSpot (_ : Int32) (_ : MM) : Prop := True
def rX5_isSpot (a : Int32) (_ : MM) : Int32 := bi (0 ≤ a ∧ a ≤ 99)
def pX5_isKind (_ : Int32) (_ : MM) : Prop := True
def rX5_isKind (a : Int32) (_ : MM) : Int32 := bi (0 ≤ a ∧ a ≤ 5)
def pX5_isSheet (_ : Int32) (_ : MM) : Prop := True
def rX5_isSheet (a : Int32) (_ : MM) : Int32 := bi (0 ≤ a ∧ a ≤ 3)
def pX5_isSeat (_ : Int32) (_ : MM) : Prop := True
def rX5_isSeat (s : Int32) (u : MM) : Int32 := bi (isSt (vw u (91 * qP)) s)
def pX5_isOne (_ : Int32) (_ : MM) : Prop := True
def rX5_isOne (s : Int32) (u : MM) : Int32 := bi (isOn (vw u (91 * qP)) s)
def pX5_isTooLateFor (n : Int32) (u : MM) : Prop := IX u ∧ 0 ≤ n ∧ n ≤ 200
def rX5_isTooLateFor (n : Int32) (u : MM) : Int32 := bi (late (vw u (91 * qP)) n)
def pX5_steps (_ _ : Int32) (_ : MM) : Prop := True
def rX5_steps (a b : Int32) (_ : MM) : Int32 := stepsP a b
def pX5_isNextInTrialFrom (c _ s : Int32) (u : MM) : Prop := Hv (vw u (91 * qT)) ∧ vp_in c (NN (vw u (91 * qT) 2)) ∧ on (vw u (91 * qT)) (NN c) 5 = -1 ∧ vp_in s 6
def rX5_isNextInTrialFrom (c p s : Int32) (u : MM) : Int32 := bi (would (vw u (91 * qT)) (NN c) p (NN s))
def mX5_isNextInTrialFrom (c p _s : Int32) (u : MM) : MM := pv u (91 * qT) (ost (vw u (91 * qT)) (NN c) 1 p)
def pX5_worthInTrialFrom (c _ : Int32) (u : MM) : Prop := Hv (vw u (91 * qT)) ∧ vp_in c (NN (vw u (91 * qT) 2)) ∧ on (vw u (91 * qT)) (NN c) 5 = -1
def rX5_worthInTrialFrom (c p : Int32) (u : MM) : Int32 := wo (vw u (91 * qT)) (NN c) p (NN (vw u (91 * qT) 1))
def mX5_worthInTrialFrom (c p : Int32) (u : MM) : MM := if NN (vw u (91 * qT) 1) = 0 then u else pv u (91 * qT) (ost (vw u (91 * qT)) (NN c) 1 p)
def pX5_coughInTrial (s : Int32) (u : MM) : Prop := Hv (vw u (91 * qT)) ∧ vp_in s (NN (vw u (91 * qT) 1))
def rX5_coughInTrial (s : Int32) (u : MM) : Int32 := bi (¬ se (vw u (91 * qT)) (NN s) 2 < 0)
def mX5_coughInTrial (s : Int32) (u : MM) : MM := mX0_makeRise qT s u
def flX5 : List (Nat × (Nat × Nat × Nat)) := [(10, (5, 0, 2)), (16, (5, 1, 2)), (19, (5, 2, 2)), (22, (5, 3, 3)), (29, (5, 4, 2)), (35, (5, 5, 2)), (40, (5, 6, 2)), (70, (0, 0, 2)), (74, (2, 0, 0)), (80, (2, 1, 0)), (83, (2, 2, 0)), (102, (0, 1, 2)), (106, (1, 0, 0)), (111, (1, 1, 0)), (112, (1, 2, 0)), (115, (1, 3, 0)), (118, (1, 4, 0)), (121, (1, 5, 0)), (124, (1, 6, 0)), (134, (0, 4, 0)), (179, (0, 2, 0)), (196, (0, 3, 0)), (217, (4, 1, 0)), (234, (3, 2, 0)), (238, (3, 0, 2)), (246, (3, 1, 0))]
def ciX5 : List (Nat × Int32) := [(266, (-1000000001 : Int32))]
def clX5 : List (Nat × Int64) := [(264, (-1 : Int64))]
theorem flX5_ok : (flX5.all fun q => fOk RX5 q.1 q.2.1 q.2.2.1 q.2.2.2) = true := by decide +kernel
theorem ciX5_ok : (ciX5.all fun q => decide (Cond.constant RX5 q.1 q.2 ∈ Gt)) = true := by decide +kernel
theorem clX5_ok : (clX5.all fun q => decide (Cond.constantLong RX5 q.1 q.2 ∈ Gt)) = true := by decide +kernel
def MX5_finding : MI := (cX5_finding, 2, some .int, RX5, { frames := 0, cells := 0, slots := 0, locals := 0 })
def TX5_finding : TB := [(0, .aload_n 0, 1, []), (1, .getfield 40, 3, []), (4, .iload_n 1, 1, []), (5, .dup2, 1, []), (6, .iaload, 1, []), (7, .iconst 1, 1, []), (8, .iadd, 1, []), (9, .iastore, 1, []), (10, .ldc_w 266, 3, []), (13, .iload_n 1, 1, []), (14, .isub, 1, []), (15, .ireturn, 1, [])]
set_option maxRecDepth 20000 in
theorem TX5_finding_ok : TX5_finding.all (chk MX5_finding.1) = true := by decide +kernel
theorem TX5_finding_v : TX5_finding.all vOk = true := by decide +kernel
def csX5_finding (w : WW) : CS := (2, fun as u => match as with | [.ref a0, .int a1] => a0 = xA w ∧ pX5_finding a1 u | _ => False, fun as u => match as with | [.ref a0, .int a1] => (some (.int (rX5_finding a1 u)), (mX5_finding a1 u)) | _ => (none, u))
def MX5_isFromTo : MI := (cX5_isFromTo, 3, some .boolean, RX5, { frames := 0, cells := 0, slots := 0, locals := 0 })
def TX5_isFromTo : TB := [(0, .iload_n 0, 1, []), (1, .iload_n 1, 1, []), (2, .if_icmp .lt 12, 3, [14]), (5, .iload_n 0, 1, []), (6, .iload_n 2, 1, []), (7, .if_icmp .gt 7, 3, [14]), (10, .iconst 1, 1, []), (11, .goto 4, 3, [15]), (14, .iconst 0, 1, []), (15, .ireturn, 1, [])]
set_option maxRecDepth 20000 in
theorem TX5_isFromTo_ok : TX5_isFromTo.all (chk MX5_isFromTo.1) = true := by decide +kernel
theorem TX5_isFromTo_v : TX5_isFromTo.all vOk = true := by decide +kernel
def csX5_isFromTo (w : WW) : CS := (3, fun as u => match as with | [.int a0, .int a1, .int a2] => pX5_isFromTo a0 a1 a2 u | _ => False, fun as u => match as with | [.int a0, .int a1, .int a2] => (some (.int (rX5_isFromTo a0 a1 a2 u)), u) | _ => (none, u))
def MX5_isSpot : MI := (cX5_isSpot, 1, some .boolean, RX5, { frames := 1, cells := 0, slots := 0, locals := 22 })
def TX5_isSpot : TB := [(0, .iload_n 0, 1, []), (1, .iconst 0, 1, []), (2, .bipush 99, 2, []), (4, .invokestatic 48, 3, []), (7, .ireturn, 1, [])]
set_option maxRecDepth 20000 in
theorem TX5_isSpot_ok : TX5_isSpot.all (chk MX5_isSpot.1) = true := by decide +kernel
theorem TX5_isSpot_v : TX5_isSpot.all vOk = true := by decide +kernel
def csX5_isSpot (w : WW) : CS := (1, fun as u => match as with | [.int a0] => pX5_isSpot a0 u | _ => False, fun as u => match as with | [.int a0] => (some (.int (rX5_isSpot a0 u)), u) | _ => (none, u))
def MX5_isKind : MI := (cX5_isKind, 1, some .boolean, RX5, { frames := 1, cells := 0, slots := 0, locals := 22 })
def TX5_isKind : TB := [(0, .iload_n 0, 1, []), (1, .iconst 0, 1, []), (2, .iconst 5, 1, []), (3, .invokestatic 48, 3, []), (6, .ireturn, 1, [])]
set_option maxRecDepth 20000 in
theorem TX5_isKind_ok : TX5_isKind.all (chk MX5_isKind.1) = true := by decide +kernel
theorem TX5_isKind_v : TX5_isKind.all vOk = true := by decide +kernel
def csX5_isKind (w : WW) : CS := (1, fun as u => match as with | [.int a0] => pX5_isKind a0 u | _ => False, fun as u => match as with | [.int a0] => (some (.int (rX5_isKind a0 u)), u) | _ => (none, u))
def MX5_isSheet : MI := (cX5_isSheet, 1, some .boolean, RX5, { frames := 1, cells := 0, slots := 0, locals := 22 })
def TX5_isSheet : TB := [(0, .iload_n 0, 1, []), (1, .iconst 0, 1, []), (2, .iconst 3, 1, []), (3, .invokestatic 48, 3, []), (6, .ireturn, 1, [])]
set_option maxRecDepth 20000 in
theorem TX5_isSheet_ok : TX5_isSheet.all (chk MX5_isSheet.1) = true := by decide +kernel
theorem TX5_isSheet_v : TX5_isSheet.all vOk = true := by decide +kernel
def csX5_isSheet (w : WW) : CS := (1, fun as u => match as with | [.int a0] => pX5_isSheet a0 u | _ => False, fun as u => match as with | [.int a0] => (some (.int (rX5_isSheet a0 u)), u) | _ => (none, u))
def MX5_isSeat : MI := (cX5_isSeat, 2, some .boolean, RX5, { frames := 1, cells := 0, slots := 0, locals := 22 })
def TX5_isSeat : TB := [(0, .iload_n 1, 1, []), (1, .iconst 0, 1, []), (2, .aload_n 0, 1, []), (3, .getfield 10, 3, []), (6, .getfield 179, 3, []), (9, .iconst 1, 1, []), (10, .isub, 1, []), (11, .invokestatic 48, 3, []), (14, .ireturn, 1, [])]
set_option maxRecDepth 20000 in
theorem TX5_isSeat_ok : TX5_isSeat.all (chk MX5_isSeat.1) = true := by decide +kernel
theorem TX5_isSeat_v : TX5_isSeat.all vOk = true := by decide +kernel
def csX5_isSeat (w : WW) : CS := (2, fun as u => match as with | [.ref a0, .int a1] => a0 = xA w ∧ pX5_isSeat a1 u | _ => False, fun as u => match as with | [.ref a0, .int a1] => (some (.int (rX5_isSeat a1 u)), u) | _ => (none, u))
def MX5_isOne : MI := (cX5_isOne, 2, some .boolean, RX5, { frames := 1, cells := 0, slots := 0, locals := 22 })
def TX5_isOne : TB := [(0, .iload_n 1, 1, []), (1, .iconst 0, 1, []), (2, .aload_n 0, 1, []), (3, .getfield 10, 3, []), (6, .getfield 196, 3, []), (9, .iconst 1, 1, []), (10, .isub, 1, []), (11, .invokestatic 48, 3, []), (14, .ireturn, 1, [])]
set_option maxRecDepth 20000 in
theorem TX5_isOne_ok : TX5_isOne.all (chk MX5_isOne.1) = true := by decide +kernel
theorem TX5_isOne_v : TX5_isOne.all vOk = true := by decide +kernel
def csX5_isOne (w : WW) : CS := (2, fun as u => match as with | [.ref a0, .int a1] => a0 = xA w ∧ pX5_isOne a1 u | _ => False, fun as u => match as with | [.ref a0, .int a1] => (some (.int (rX5_isOne a1 u)), u) | _ => (none, u))
def MX5_isTooLateFor : MI := (cX5_isTooLateFor, 2, some .boolean, RX5, { frames := 0, cells := 0, slots := 0, locals := 0 })
def TX5_isTooLateFor : TB := [(0, .aload_n 0, 1, []), (1, .getfield 10, 3, []), (4, .getfield 134, 3, []), (7, .sipush 9999, 3, []), (10, .iload_n 1, 1, []), (11, .isub, 1, []), (12, .if_icmp .le 7, 3, [19]), (15, .iconst 1, 1, []), (16, .goto 4, 3, [20]), (19, .iconst 0, 1, []), (20, .ireturn, 1, [])]
set_option maxRecDepth 20000 in
theorem TX5_isTooLateFor_ok : TX5_isTooLateFor.all (chk MX5_isTooLateFor.1) = true := by decide +kernel
theorem TX5_isTooLateFor_v : TX5_isTooLateFor.all vOk = true := by decide +kernel
def csX5_isTooLateFor (w : WW) : CS := (2, fun as u => match as with | [.ref a0, .int a1] => a0 = xA w ∧ pX5_isTooLateFor a1 u | _ => False, fun as u => match as with | [.ref a0, .int a1] => (some (.int (rX5_isTooLateFor a1 u)), u) | _ => (none, u))
def MX5_steps : MI := (cX5_steps, 2, some .int, RX5, { frames := 1, cells := 0, slots := 0, locals := 21 })
def TX5_steps : TB := [(0, .iload_n 0, 1, []), (1, .bipush 10, 2, []), (3, .idiv, 1, []), (4, .iload_n 1, 1, []), (5, .bipush 10, 2, []), (7, .idiv, 1, []), (8, .isub, 1, []), (9, .invokestatic 267, 3, []), (12, .iload_n 0, 1, []), (13, .bipush 10, 2, []), (15, .irem, 1, []), (16, .iload_n 1, 1, []), (17, .bipush 10, 2, []), (19, .irem, 1, []), (20, .isub, 1, []), (21, .invokestatic 267, 3, []), (24, .invokestatic 270, 3, []), (27, .ireturn, 1, [])]
set_option maxRecDepth 20000 in
theorem TX5_steps_ok : TX5_steps.all (chk MX5_steps.1) = true := by decide +kernel
theorem TX5_steps_v : TX5_steps.all vOk = true := by decide +kernel
def csX5_steps (w : WW) : CS := (2, fun as u => match as with | [.int a0, .int a1] => pX5_steps a0 a1 u | _ => False, fun as u => match as with | [.int a0, .int a1] => (some (.int (rX5_steps a0 a1 u)), u) | _ => (none, u))
def MX5_isNextInTrialFrom : MI := (cX5_isNextInTrialFrom, 4, some .boolean, RX5, { frames := 3, cells := 0, slots := 0, locals := 69 })
def TX5_isNextInTrialFrom : TB := [(0, .aload_n 0, 1, []), (1, .getfield 16, 3, []), (4, .getfield 102, 3, []), (7, .iload_n 1, 1, []), (8, .aaload, 1, []), (9, .iload_n 2, 1, []), (10, .putfield 111, 3, []), (13, .aload_n 0, 1, []), (14, .getfield 16, 3, []), (17, .iload_n 3, 1, []), (18, .invokevirtual 86, 3, []), (21, .iload_n 1, 1, []), (22, .if_icmp .ne 7, 3, [29]), (25, .iconst 1, 1, []), (26, .goto 4, 3, [30]), (29, .iconst 0, 1, []), (30, .ireturn, 1, [])]
set_option maxRecDepth 20000 in
theorem TX5_isNextInTrialFrom_ok : TX5_isNextInTrialFrom.all (chk MX5_isNextInTrialFrom.1) = true := by decide +kernel
theorem TX5_isNextInTrialFrom_v : TX5_isNextInTrialFrom.all vOk = true := by decide +kernel
def csX5_isNextInTrialFrom (w : WW) : CS := (4, fun as u => match as with | [.ref a0, .int a1, .int a2, .int a3] => a0 = xA w ∧ wOk w ∧ pX5_isNextInTrialFrom a1 a2 a3 u | _ => False, fun as u => match as with | [.ref a0, .int a1, .int a2, .int a3] => (some (.int (rX5_isNextInTrialFrom a1 a2 a3 u)), (mX5_isNextInTrialFrom a1 a2 a3 u)) | _ => (none, u))
def MX5_worthInTrialFrom : MI := (cX5_worthInTrialFrom, 5, some .int, RX5, { frames := 4, cells := 0, slots := 0, locals := 92 })
def TX5_worthInTrialFrom : TB := [(0, .iconst 0, 1, []), (1, .istore_n 3, 1, []), (2, .iconst 0, 1, []), (3, .istore 4, 2, []), (5, .iload 4, 2, []), (7, .aload_n 0, 1, []), (8, .getfield 16, 3, []), (11, .getfield 179, 3, []), (14, .if_icmp .ge 36, 3, [50]), (17, .aload_n 0, 1, []), (18, .iload_n 1, 1, []), (19, .iload_n 2, 1, []), (20, .iload 4, 2, []), (22, .invokevirtual 205, 3, []), (25, .ifCond .eq 19, 3, [44]), (28, .iload_n 3, 1, []), (29, .aload_n 0, 1, []), (30, .getfield 16, 3, []), (33, .getfield 70, 3, []), (36, .iload 4, 2, []), (38, .aaload, 1, []), (39, .getfield 80, 3, []), (42, .iadd, 1, []), (43, .istore_n 3, 1, []), (44, .iinc 4 1, 3, []), (47, .goto (-42), 3, [5]), (50, .iload_n 3, 1, []), (51, .ireturn, 1, [])]
set_option maxRecDepth 20000 in
theorem TX5_worthInTrialFrom_ok : TX5_worthInTrialFrom.all (chk MX5_worthInTrialFrom.1) = true := by decide +kernel
theorem TX5_worthInTrialFrom_v : TX5_worthInTrialFrom.all vOk = true := by decide +kernel
def csX5_worthInTrialFrom (w : WW) : CS := (3, fun as u => match as with | [.ref a0, .int a1, .int a2] => a0 = xA w ∧ wOk w ∧ pX5_worthInTrialFrom a1 a2 u | _ => False, fun as u => match as with | [.ref a0, .int a1, .int a2] => (some (.int (rX5_worthInTrialFrom a1 a2 u)), (mX5_worthInTrialFrom a1 a2 u)) | _ => (none, u))
def MX5_coughInTrial : MI := (cX5_coughInTrial, 3, some .boolean, RX5, { frames := 4, cells := 0, slots := 0, locals := 92 })
def TX5_coughInTrial : TB := [(0, .aload_n 0, 1, []), (1, .getfield 16, 3, []), (4, .iload_n 1, 1, []), (5, .invokevirtual 162, 3, []), (8, .istore_n 2, 1, []), (9, .aload_n 0, 1, []), (10, .getfield 16, 3, []), (13, .iload_n 1, 1, []), (14, .invokevirtual 165, 3, []), (17, .iload_n 2, 1, []), (18, .ireturn, 1, [])]
set_option maxRecDepth 20000 in
theorem TX5_coughInTrial_ok : TX5_coughInTrial.all (chk MX5_coughInTrial.1) = true := by decide +kernel
theorem TX5_coughInTrial_v : TX5_coughInTrial.all vOk = true := by decide +kernel
def csX5_coughInTrial (w : WW) : CS := (2, fun as u => match as with | [.ref a0, .int a1] => a0 = xA w ∧ wOk w ∧ pX5_coughInTrial a1 u | _ => False, fun as u => match as with | [.ref a0, .int a1] => (some (.int (rX5_coughInTrial a1 u)), (mX5_coughInTrial a1 u)) | _ => (none, u))
def KX5_finding (w : WW) : KT := (al flX5, al ciX5, al clX5, fun _ => none, fun _ => none, al [])
abbrev GX5_finding (w : WW) (Q : Option Value → MM → Prop) : Nat → LL → List Value → MM → Prop := WP w MX5_finding TX5_finding (KX5_finding w) Q
section
variable {w : WW} {Q : Option Value → MM → Prop} {u : MM}
theorem eX5_finding_0 {l1 : Option Value} {st : List Value} {x : Nat} : GX5_finding w Q 0 [some (.ref x), l1] st u ↔ GX5_finding w Q 1 [some (.ref x), l1] (.ref x :: st) u := WP_u (.aload_n 0) [] rfl
theorem eX5_finding_1 {l0 l1 : Option Value} {st : List Value} {a : Nat} : GX5_finding w Q 1 [l0, l1] (.ref a :: st) u ↔ okR w a 5 6 ∧ GX5_finding w Q 4 [l0, l1] (.ref (rfF w a 6) :: st) u := (WP_u (.getfield 40) [] rfl).trans ex_and
theorem eX5_finding_4 {l0 : Option Value} {st : List Value} {x : Int32} : GX5_finding w Q 4 [l0, some (.int x)] st u ↔ GX5_finding w Q 5 [l0, some (.int x)] (.int x :: st) u := WP_u (.iload_n 1) [] rfl
theorem eX5_finding_5 {l0 l1 : Option Value} {st : List Value} {x : Int32} {y : Nat} : GX5_finding w Q 5 [l0, l1] (.int x :: .ref y :: st) u ↔ GX5_finding w Q 6 [l0, l1] (.int x :: .ref y :: .int x :: .ref y :: st) u := (WP_u (.dup2) [] rfl).trans (ex_drop ⟨rfl, rfl⟩)
theorem eX5_finding_6 {l0 l1 : Option Value} {st : List Value} {a : Nat} {i : Int32} : GX5_finding w Q 6 [l0, l1] (.int i :: .ref a :: st) u ↔ okAI w a i ∧ GX5_finding w Q 7 [l0, l1] (.int (rdA w u a i) :: st) u := (WP_u (.iaload) [] rfl).trans ex_and
theorem eX5_finding_7 {l0 l1 : Option Value} {st : List Value} : GX5_finding w Q 7 [l0, l1] st u ↔ GX5_finding w Q 8 [l0, l1] (.int 1 :: st) u := WP_iconst rfl (by decide)
theorem eX5_finding_8 {l0 l1 : Option Value} {st : List Value} {x y : Int32} : GX5_finding w Q 8 [l0, l1] (.int y :: .int x :: st) u ↔ GX5_finding w Q 9 [l0, l1] (.int (x + y) :: st) u := WP_u (.iadd) [] rfl
theorem eX5_finding_9 {l0 l1 : Option Value} {st : List Value} {a : Nat} {i x : Int32} : GX5_finding w Q 9 [l0, l1] (.int x :: .int i :: .ref a :: st) u ↔ okAS w a i ∧ GX5_finding w Q 10 [l0, l1] st (uI u (ixA w a i) x) := (WP_u (.iastore) [] rfl).trans ex_and
theorem eX5_finding_10 {l0 l1 : Option Value} {st : List Value} : GX5_finding w Q 10 [l0, l1] st u ↔ GX5_finding w Q 13 [l0, l1] (.int (-1000000001) :: st) u := WP_u (.ldc_w 266) [] rfl
theorem eX5_finding_13 {l0 : Option Value} {st : List Value} {x : Int32} : GX5_finding w Q 13 [l0, some (.int x)] st u ↔ GX5_finding w Q 14 [l0, some (.int x)] (.int x :: st) u := WP_u (.iload_n 1) [] rfl
theorem eX5_finding_14 {l0 l1 : Option Value} {st : List Value} {x y : Int32} : GX5_finding w Q 14 [l0, l1] (.int y :: .int x :: st) u ↔ GX5_finding w Q 15 [l0, l1] (.int (x - y) :: st) u := WP_u (.isub) [] rfl
theorem eX5_finding_15 {l0 l1 : Option Value} {x : Int32} : GX5_finding w Q 15 [l0, l1] [.int x] u ↔ Q (some (.int x)) u := (WP_u (.ireturn) [] rfl).trans (ex_ret rfl)
end
def VX5_finding (w : WW) : Prop := ∀ (a1 : Int32) (u : MM), pX5_finding a1 u → GX5_finding w (fun r u' => r = some (.int (rX5_finding a1 u)) ∧ u' = (mX5_finding a1 u)) 0 [some (.ref (xA w)), some (.int a1)] [] u
def KX5_isFromTo (w : WW) : KT := (al flX5, al ciX5, al clX5, fun _ => none, fun _ => none, al [])
abbrev GX5_isFromTo (w : WW) (Q : Option Value → MM → Prop) : Nat → LL → List Value → MM → Prop := WP w MX5_isFromTo TX5_isFromTo (KX5_isFromTo w) Q
section
variable {w : WW} {Q : Option Value → MM → Prop} {u : MM}
theorem eX5_isFromTo_0 {l1 l2 : Option Value} {st : List Value} {x : Int32} : GX5_isFromTo w Q 0 [some (.int x), l1, l2] st u ↔ GX5_isFromTo w Q 1 [some (.int x), l1, l2] (.int x :: st) u := WP_u (.iload_n 0) [] rfl
theorem eX5_isFromTo_1 {l0 l2 : Option Value} {st : List Value} {x : Int32} : GX5_isFromTo w Q 1 [l0, some (.int x), l2] st u ↔ GX5_isFromTo w Q 2 [l0, some (.int x), l2] (.int x :: st) u := WP_u (.iload_n 1) [] rfl
theorem eX5_isFromTo_2 {l0 l1 l2 : Option Value} {st : List Value} {x y : Int32} : GX5_isFromTo w Q 2 [l0, l1, l2] (.int y :: .int x :: st) u ↔ (x < y → GX5_isFromTo w Q 14 [l0, l1, l2] st u) ∧ (¬ (x < y) → GX5_isFromTo w Q 5 [l0, l1, l2] st u) := (WP_u (.if_icmp .lt 12) [14] rfl).trans ex_br
theorem eX5_isFromTo_5 {l1 l2 : Option Value} {st : List Value} {x : Int32} : GX5_isFromTo w Q 5 [some (.int x), l1, l2] st u ↔ GX5_isFromTo w Q 6 [some (.int x), l1, l2] (.int x :: st) u := WP_u (.iload_n 0) [] rfl
theorem eX5_isFromTo_6 {l0 l1 : Option Value} {st : List Value} {x : Int32} : GX5_isFromTo w Q 6 [l0, l1, some (.int x)] st u ↔ GX5_isFromTo w Q 7 [l0, l1, some (.int x)] (.int x :: st) u := WP_u (.iload_n 2) [] rfl
theorem eX5_isFromTo_7 {l0 l1 l2 : Option Value} {st : List Value} {x y : Int32} : GX5_isFromTo w Q 7 [l0, l1, l2] (.int y :: .int x :: st) u ↔ (y < x → GX5_isFromTo w Q 14 [l0, l1, l2] st u) ∧ (¬ (y < x) → GX5_isFromTo w Q 10 [l0, l1, l2] st u) := (WP_u (.if_icmp .gt 7) [14] rfl).trans ex_br
theorem eX5_isFromTo_10 {l0 l1 l2 : Option Value} {st : List Value} : GX5_isFromTo w Q 10 [l0, l1, l2] st u ↔ GX5_isFromTo w Q 11 [l0, l1, l2] (.int 1 :: st) u := WP_iconst rfl (by decide)
theorem eX5_isFromTo_11 {l0 l1 l2 : Option Value} {st : List Value} : GX5_isFromTo w Q 11 [l0, l1, l2] st u ↔ GX5_isFromTo w Q 15 [l0, l1, l2] st u := WP_u (.goto 4) [15] rfl
theorem eX5_isFromTo_14 {l0 l1 l2 : Option Value} {st : List Value} : GX5_isFromTo w Q 14 [l0, l1, l2] st u ↔ GX5_isFromTo w Q 15 [l0, l1, l2] (.int 0 :: st) u := WP_iconst rfl (by decide)
theorem eX5_isFromTo_15 {l0 l1 l2 : Option Value} {x : Int32} : GX5_isFromTo w Q 15 [l0, l1, l2] [.int x] u ↔ nb x ∧ Q (some (.int x)) u := (WP_u (.ireturn) [] rfl).trans ex_k
end
def VX5_isFromTo (w : WW) : Prop := ∀ (a0 : Int32) (a1 : Int32) (a2 : Int32) (u : MM), pX5_isFromTo a0 a1 a2 u → GX5_isFromTo w (fun r u' => r = some (.int (rX5_isFromTo a0 a1 a2 u)) ∧ u' = u) 0 [some (.int a0), some (.int a1), some (.int a2)] [] u
def KX5_isSpot (w : WW) : KT := (al flX5, al ciX5, al clX5, fun _ => none, fun _ => none, al [(65584, csX5_isFromTo w)])
abbrev GX5_isSpot (w : WW) (Q : Option Value → MM → Prop) : Nat → LL → List Value → MM → Prop := WP w MX5_isSpot TX5_isSpot (KX5_isSpot w) Q
section
variable {w : WW} {Q : Option Value → MM → Prop} {u : MM}
theorem eX5_isSpot_0 {st : List Value} {x : Int32} : GX5_isSpot w Q 0 [some (.int x)] st u ↔ GX5_isSpot w Q 1 [some (.int x)] (.int x :: st) u := WP_u (.iload_n 0) [] rfl
theorem eX5_isSpot_1 {l0 : Option Value} {st : List Value} : GX5_isSpot w Q 1 [l0] st u ↔ GX5_isSpot w Q 2 [l0] (.int 0 :: st) u := WP_iconst rfl (by decide)
theorem eX5_isSpot_2 {l0 : Option Value} {st : List Value} : GX5_isSpot w Q 2 [l0] st u ↔ GX5_isSpot w Q 4 [l0] (.int 99 :: st) u := WP_bipush rfl (by decide)
theorem eX5_isSpot_4 {l0 : Option Value} {x0 : Int32} {x1 : Int32} {x2 : Int32} : GX5_isSpot w Q 4 [l0] [.int x0, .int x1, .int x2] u ↔ (pX5_isFromTo x2 x1 x0 u) ∧ GX5_isSpot w Q 7 [l0] [.int (rX5_isFromTo x2 x1 x0 u)] u := (WP_u (.invokestatic 48) [] rfl).trans (ex_call ⟨Nat.le_of_ble_eq_true rfl, Nat.le_of_ble_eq_true rfl⟩)
theorem eX5_isSpot_7 {l0 : Option Value} {x : Int32} : GX5_isSpot w Q 7 [l0] [.int x] u ↔ nb x ∧ Q (some (.int x)) u := (WP_u (.ireturn) [] rfl).trans ex_k
end
def VX5_isSpot (w : WW) : Prop := ∀ (a0 : Int32) (u : MM), pX5_isSpot a0 u → GX5_isSpot w (fun r u' => r = some (.int (rX5_isSpot a0 u)) ∧ u' = u) 0 [some (.int a0)] [] u
def KX5_isKind (w : WW) : KT := (al flX5, al ciX5, al clX5, fun _ => none, fun _ => none, al [(65584, csX5_isFromTo w)])
abbrev GX5_isKind (w : WW) (Q : Option Value → MM → Prop) : Nat → LL → List Value → MM → Prop := WP w MX5_isKind TX5_isKind (KX5_isKind w) Q
section
variable {w : WW} {Q : Option Value → MM → Prop} {u : MM}
theorem eX5_isKind_0 {st : List Value} {x : Int32} : GX5_isKind w Q 0 [some (.int x)] st u ↔ GX5_isKind w Q 1 [some (.int x)] (.int x :: st) u := WP_u (.iload_n 0) [] rfl
theorem eX5_isKind_1 {l0 : Option Value} {st : List Value} : GX5_isKind w Q 1 [l0] st u ↔ GX5_isKind w Q 2 [l0] (.int 0 :: st) u := WP_iconst rfl (by decide)
theorem eX5_isKind_2 {l0 : Option Value} {st : List Value} : GX5_isKind w Q 2 [l0] st u ↔ GX5_isKind w Q 3 [l0] (.int 5 :: st) u := WP_iconst rfl (by decide)
theorem eX5_isKind_3 {l0 : Option Value} {x0 : Int32} {x1 : Int32} {x2 : Int32} : GX5_isKind w Q 3 [l0] [.int x0, .int x1, .int x2] u ↔ (pX5_isFromTo x2 x1 x0 u) ∧ GX5_isKind w Q 6 [l0] [.int (rX5_isFromTo x2 x1 x0 u)] u := (WP_u (.invokestatic 48) [] rfl).trans (ex_call ⟨Nat.le_of_ble_eq_true rfl, Nat.le_of_ble_eq_true rfl⟩)
theorem eX5_isKind_6 {l0 : Option Value} {x : Int32} : GX5_isKind w Q 6 [l0] [.int x] u ↔ nb x ∧ Q (some (.int x)) u := (WP_u (.ireturn) [] rfl).trans ex_k
end
def VX5_isKind (w : WW) : Prop := ∀ (a0 : Int32) (u : MM), pX5_isKind a0 u → GX5_isKind w (fun r u' => r = some (.int (rX5_isKind a0 u)) ∧ u' = u) 0 [some (.int a0)] [] u
def KX5_isSheet (w : WW) : KT := (al flX5, al ciX5, al clX5, fun _ => none, fun _ => none, al [(65584, csX5_isFromTo w)])
abbrev GX5_isSheet (w : WW) (Q : Option Value → MM → Prop) : Nat → LL → List Value → MM → Prop := WP w MX5_isSheet TX5_isSheet (KX5_isSheet w) Q
section
variable {w : WW} {Q : Option Value → MM → Prop} {u : MM}
theorem eX5_isSheet_0 {st : List Value} {x : Int32} : GX5_isSheet w Q 0 [some (.int x)] st u ↔ GX5_isSheet w Q 1 [some (.int x)] (.int x :: st) u := WP_u (.iload_n 0) [] rfl
theorem eX5_isSheet_1 {l0 : Option Value} {st : List Value} : GX5_isSheet w Q 1 [l0] st u ↔ GX5_isSheet w Q 2 [l0] (.int 0 :: st) u := WP_iconst rfl (by decide)
theorem eX5_isSheet_2 {l0 : Option Value} {st : List Value} : GX5_isSheet w Q 2 [l0] st u ↔ GX5_isSheet w Q 3 [l0] (.int 3 :: st) u := WP_iconst rfl (by decide)
theorem eX5_isSheet_3 {l0 : Option Value} {x0 : Int32} {x1 : Int32} {x2 : Int32} : GX5_isSheet w Q 3 [l0] [.int x0, .int x1, .int x2] u ↔ (pX5_isFromTo x2 x1 x0 u) ∧ GX5_isSheet w Q 6 [l0] [.int (rX5_isFromTo x2 x1 x0 u)] u := (WP_u (.invokestatic 48) [] rfl).trans (ex_call ⟨Nat.le_of_ble_eq_true rfl, Nat.le_of_ble_eq_true rfl⟩)
theorem eX5_isSheet_6 {l0 : Option Value} {x : Int32} : GX5_isSheet w Q 6 [l0] [.int x] u ↔ nb x ∧ Q (some (.int x)) u := (WP_u (.ireturn) [] rfl).trans ex_k
end
def VX5_isSheet (w : WW) : Prop := ∀ (a0 : Int32) (u : MM), pX5_isSheet a0 u → GX5_isSheet w (fun r u' => r = some (.int (rX5_isSheet a0 u)) ∧ u' = u) 0 [some (.int a0)] [] u
def KX5_isSeat (w : WW) : KT := (al flX5, al ciX5, al clX5, fun _ => none, fun _ => none, al [(65584, csX5_isFromTo w)])
abbrev GX5_isSeat (w : WW) (Q : Option Value → MM → Prop) : Nat → LL → List Value → MM → Prop := WP w MX5_isSeat TX5_isSeat (KX5_isSeat w) Q
section
variable {w : WW} {Q : Option Value → MM → Prop} {u : MM}
theorem eX5_isSeat_0 {l0 : Option Value} {st : List Value} {x : Int32} : GX5_isSeat w Q 0 [l0, some (.int x)] st u ↔ GX5_isSeat w Q 1 [l0, some (.int x)] (.int x :: st) u := WP_u (.iload_n 1) [] rfl
theorem eX5_isSeat_1 {l0 l1 : Option Value} {st : List Value} : GX5_isSeat w Q 1 [l0, l1] st u ↔ GX5_isSeat w Q 2 [l0, l1] (.int 0 :: st) u := WP_iconst rfl (by decide)
theorem eX5_isSeat_2 {l1 : Option Value} {st : List Value} {x : Nat} : GX5_isSeat w Q 2 [some (.ref x), l1] st u ↔ GX5_isSeat w Q 3 [some (.ref x), l1] (.ref x :: st) u := WP_u (.aload_n 0) [] rfl
theorem eX5_isSeat_3 {l0 l1 : Option Value} {st : List Value} {a : Nat} : GX5_isSeat w Q 3 [l0, l1] (.ref a :: st) u ↔ okR w a 5 0 ∧ GX5_isSeat w Q 6 [l0, l1] (.ref (rfF w a 0) :: st) u := (WP_u (.getfield 10) [] rfl).trans ex_and
theorem eX5_isSeat_6 {l0 l1 : Option Value} {st : List Value} {a : Nat} : GX5_isSeat w Q 6 [l0, l1] (.ref a :: st) u ↔ okI w a 0 2 ∧ GX5_isSeat w Q 9 [l0, l1] (.int (u.1 (ixI w a 2)) :: st) u := (WP_u (.getfield 179) [] rfl).trans ex_and
theorem eX5_isSeat_9 {l0 l1 : Option Value} {st : List Value} : GX5_isSeat w Q 9 [l0, l1] st u ↔ GX5_isSeat w Q 10 [l0, l1] (.int 1 :: st) u := WP_iconst rfl (by decide)
theorem eX5_isSeat_10 {l0 l1 : Option Value} {st : List Value} {x y : Int32} : GX5_isSeat w Q 10 [l0, l1] (.int y :: .int x :: st) u ↔ GX5_isSeat w Q 11 [l0, l1] (.int (x - y) :: st) u := WP_u (.isub) [] rfl
theorem eX5_isSeat_11 {l0 l1 : Option Value} {x0 : Int32} {x1 : Int32} {x2 : Int32} : GX5_isSeat w Q 11 [l0, l1] [.int x0, .int x1, .int x2] u ↔ (pX5_isFromTo x2 x1 x0 u) ∧ GX5_isSeat w Q 14 [l0, l1] [.int (rX5_isFromTo x2 x1 x0 u)] u := (WP_u (.invokestatic 48) [] rfl).trans (ex_call ⟨Nat.le_of_ble_eq_true rfl, Nat.le_of_ble_eq_true rfl⟩)
theorem eX5_isSeat_14 {l0 l1 : Option Value} {x : Int32} : GX5_isSeat w Q 14 [l0, l1] [.int x] u ↔ nb x ∧ Q (some (.int x)) u := (WP_u (.ireturn) [] rfl).trans ex_k
end
def VX5_isSeat (w : WW) : Prop := ∀ (a1 : Int32) (u : MM), pX5_isSeat a1 u → GX5_isSeat w (fun r u' => r = some (.int (rX5_isSeat a1 u)) ∧ u' = u) 0 [some (.ref (xA w)), some (.int a1)] [] u
def KX5_isOne (w : WW) : KT := (al flX5, al ciX5, al clX5, fun _ => none, fun _ => none, al [(65584, csX5_isFromTo w)])
abbrev GX5_isOne (w : WW) (Q : Option Value → MM → Prop) : Nat → LL → List Value → MM → Prop := WP w MX5_isOne TX5_isOne (KX5_isOne w) Q
section
variable {w : WW} {Q : Option Value → MM → Prop} {u : MM}
theorem eX5_isOne_0 {l0 : Option Value} {st : List Value} {x : Int32} : GX5_isOne w Q 0 [l0, some (.int x)] st u ↔ GX5_isOne w Q 1 [l0, some (.int x)] (.int x :: st) u := WP_u (.iload_n 1) [] rfl
theorem eX5_isOne_1 {l0 l1 : Option Value} {st : List Value} : GX5_isOne w Q 1 [l0, l1] st u ↔ GX5_isOne w Q 2 [l0, l1] (.int 0 :: st) u := WP_iconst rfl (by decide)
theorem eX5_isOne_2 {l1 : Option Value} {st : List Value} {x : Nat} : GX5_isOne w Q 2 [some (.ref x), l1] st u ↔ GX5_isOne w Q 3 [some (.ref x), l1] (.ref x :: st) u := WP_u (.aload_n 0) [] rfl
theorem eX5_isOne_3 {l0 l1 : Option Value} {st : List Value} {a : Nat} : GX5_isOne w Q 3 [l0, l1] (.ref a :: st) u ↔ okR w a 5 0 ∧ GX5_isOne w Q 6 [l0, l1] (.ref (rfF w a 0) :: st) u := (WP_u (.getfield 10) [] rfl).trans ex_and
theorem eX5_isOne_6 {l0 l1 : Option Value} {st : List Value} {a : Nat} : GX5_isOne w Q 6 [l0, l1] (.ref a :: st) u ↔ okI w a 0 3 ∧ GX5_isOne w Q 9 [l0, l1] (.int (u.1 (ixI w a 3)) :: st) u := (WP_u (.getfield 196) [] rfl).trans ex_and
theorem eX5_isOne_9 {l0 l1 : Option Value} {st : List Value} : GX5_isOne w Q 9 [l0, l1] st u ↔ GX5_isOne w Q 10 [l0, l1] (.int 1 :: st) u := WP_iconst rfl (by decide)
theorem eX5_isOne_10 {l0 l1 : Option Value} {st : List Value} {x y : Int32} : GX5_isOne w Q 10 [l0, l1] (.int y :: .int x :: st) u ↔ GX5_isOne w Q 11 [l0, l1] (.int (x - y) :: st) u := WP_u (.isub) [] rfl
theorem eX5_isOne_11 {l0 l1 : Option Value} {x0 : Int32} {x1 : Int32} {x2 : Int32} : GX5_isOne w Q 11 [l0, l1] [.int x0, .int x1, .int x2] u ↔ (pX5_isFromTo x2 x1 x0 u) ∧ GX5_isOne w Q 14 [l0, l1] [.int (rX5_isFromTo x2 x1 x0 u)] u := (WP_u (.invokestatic 48) [] rfl).trans (ex_call ⟨Nat.le_of_ble_eq_true rfl, Nat.le_of_ble_eq_true rfl⟩)
theorem eX5_isOne_14 {l0 l1 : Option Value} {x : Int32} : GX5_isOne w Q 14 [l0, l1] [.int x] u ↔ nb x ∧ Q (some (.int x)) u := (WP_u (.ireturn) [] rfl).trans ex_k
end
def VX5_isOne (w : WW) : Prop := ∀ (a1 : Int32) (u : MM), pX5_isOne a1 u → GX5_isOne w (fun r u' => r = some (.int (rX5_isOne a1 u)) ∧ u' = u) 0 [some (.ref (xA w)), some (.int a1)] [] u
def KX5_isTooLateFor (w : WW) : KT := (al flX5, al ciX5, al clX5, fun _ => none, fun _ => none, al [])
abbrev GX5_isTooLateFor (w : WW) (Q : Option Value → MM → Prop) : Nat → LL → List Value → MM → Prop := WP w MX5_isTooLateFor TX5_isTooLateFor (KX5_isTooLateFor w) Q
section
variable {w : WW} {Q : Option Value → MM → Prop} {u : MM}
theorem eX5_isTooLateFor_0 {l1 : Option Value} {st : List Value} {x : Nat} : GX5_isTooLateFor w Q 0 [some (.ref x), l1] st u ↔ GX5_isTooLateFor w Q 1 [some (.ref x), l1] (.ref x :: st) u := WP_u (.aload_n 0) [] rfl
theorem eX5_isTooLateFor_1 {l0 l1 : Option Value} {st : List Value} {a : Nat} : GX5_isTooLateFor w Q 1 [l0, l1] (.ref a :: st) u ↔ okR w a 5 0 ∧ GX5_isTooLateFor w Q 4 [l0, l1] (.ref (rfF w a 0) :: st) u := (WP_u (.getfield 10) [] rfl).trans ex_and
theorem eX5_isTooLateFor_4 {l0 l1 : Option Value} {st : List Value} {a : Nat} : GX5_isTooLateFor w Q 4 [l0, l1] (.ref a :: st) u ↔ okI w a 0 4 ∧ GX5_isTooLateFor w Q 7 [l0, l1] (.int (u.1 (ixI w a 4)) :: st) u := (WP_u (.getfield 134) [] rfl).trans ex_and
theorem eX5_isTooLateFor_7 {l0 l1 : Option Value} {st : List Value} : GX5_isTooLateFor w Q 7 [l0, l1] st u ↔ GX5_isTooLateFor w Q 10 [l0, l1] (.int 9999 :: st) u := WP_sipush rfl (by decide)
theorem eX5_isTooLateFor_10 {l0 : Option Value} {st : List Value} {x : Int32} : GX5_isTooLateFor w Q 10 [l0, some (.int x)] st u ↔ GX5_isTooLateFor w Q 11 [l0, some (.int x)] (.int x :: st) u := WP_u (.iload_n 1) [] rfl
theorem eX5_isTooLateFor_11 {l0 l1 : Option Value} {st : List Value} {x y : Int32} : GX5_isTooLateFor w Q 11 [l0, l1] (.int y :: .int x :: st) u ↔ GX5_isTooLateFor w Q 12 [l0, l1] (.int (x - y) :: st) u := WP_u (.isub) [] rfl
theorem eX5_isTooLateFor_12 {l0 l1 : Option Value} {st : List Value} {x y : Int32} : GX5_isTooLateFor w Q 12 [l0, l1] (.int y :: .int x :: st) u ↔ (x ≤ y → GX5_isTooLateFor w Q 19 [l0, l1] st u) ∧ (¬ (x ≤ y) → GX5_isTooLateFor w Q 15 [l0, l1] st u) := (WP_u (.if_icmp .le 7) [19] rfl).trans ex_br
theorem eX5_isTooLateFor_15 {l0 l1 : Option Value} {st : List Value} : GX5_isTooLateFor w Q 15 [l0, l1] st u ↔ GX5_isTooLateFor w Q 16 [l0, l1] (.int 1 :: st) u := WP_iconst rfl (by decide)
theorem eX5_isTooLateFor_16 {l0 l1 : Option Value} {st : List Value} : GX5_isTooLateFor w Q 16 [l0, l1] st u ↔ GX5_isTooLateFor w Q 20 [l0, l1] st u := WP_u (.goto 4) [20] rfl
theorem eX5_isTooLateFor_19 {l0 l1 : Option Value} {st : List Value} : GX5_isTooLateFor w Q 19 [l0, l1] st u ↔ GX5_isTooLateFor w Q 20 [l0, l1] (.int 0 :: st) u := WP_iconst rfl (by decide)
theorem eX5_isTooLateFor_20 {l0 l1 : Option Value} {x : Int32} : GX5_isTooLateFor w Q 20 [l0, l1] [.int x] u ↔ nb x ∧ Q (some (.int x)) u := (WP_u (.ireturn) [] rfl).trans ex_k
end
def VX5_isTooLateFor (w : WW) : Prop := ∀ (a1 : Int32) (u : MM), pX5_isTooLateFor a1 u → GX5_isTooLateFor w (fun r u' => r = some (.int (rX5_isTooLateFor a1 u)) ∧ u' = u) 0 [some (.ref (xA w)), some (.int a1)] [] u
def KX5_steps (w : WW) : KT := (al flX5, al ciX5, al clX5, fun _ => none, fun _ => none, al [(65803, csJ9_abs_0f7a4 w), (65806, csJ9_max_7cf53 w)])
abbrev GX5_steps (w : WW) (Q : Option Value → MM → Prop) : Nat → LL → List Value → MM → Prop := WP w MX5_steps TX5_steps (KX5_steps w) Q
section
variable {w : WW} {Q : Option Value → MM → Prop} {u : MM}
theorem eX5_steps_0 {l1 : Option Value} {st : List Value} {x : Int32} : GX5_steps w Q 0 [some (.int x), l1] st u ↔ GX5_steps w Q 1 [some (.int x), l1] (.int x :: st) u := WP_u (.iload_n 0) [] rfl
theorem eX5_steps_1 {l0 l1 : Option Value} {st : List Value} : GX5_steps w Q 1 [l0, l1] st u ↔ GX5_steps w Q 3 [l0, l1] (.int 10 :: st) u := WP_bipush rfl (by decide)
theorem eX5_steps_3 {l0 l1 : Option Value} {st : List Value} {x y : Int32} : GX5_steps w Q 3 [l0, l1] (.int y :: .int x :: st) u ↔ ¬ y = 0 ∧ GX5_steps w Q 4 [l0, l1] (.int (x / y) :: st) u := (WP_u (.idiv) [] rfl).trans ex_and
theorem eX5_steps_4 {l0 : Option Value} {st : List Value} {x : Int32} : GX5_steps w Q 4 [l0, some (.int x)] st u ↔ GX5_steps w Q 5 [l0, some (.int x)] (.int x :: st) u := WP_u (.iload_n 1) [] rfl
theorem eX5_steps_5 {l0 l1 : Option Value} {st : List Value} : GX5_steps w Q 5 [l0, l1] st u ↔ GX5_steps w Q 7 [l0, l1] (.int 10 :: st) u := WP_bipush rfl (by decide)
theorem eX5_steps_7 {l0 l1 : Option Value} {st : List Value} {x y : Int32} : GX5_steps w Q 7 [l0, l1] (.int y :: .int x :: st) u ↔ ¬ y = 0 ∧ GX5_steps w Q 8 [l0, l1] (.int (x / y) :: st) u := (WP_u (.idiv) [] rfl).trans ex_and
theorem eX5_steps_8 {l0 l1 : Option Value} {st : List Value} {x y : Int32} : GX5_steps w Q 8 [l0, l1] (.int y :: .int x :: st) u ↔ GX5_steps w Q 9 [l0, l1] (.int (x - y) :: st) u := WP_u (.isub) [] rfl
theorem eX5_steps_9 {l0 l1 : Option Value} {x0 : Int32} : GX5_steps w Q 9 [l0, l1] [.int x0] u ↔ (pJ9_abs_0f7a4 x0 u) ∧ GX5_steps w Q 12 [l0, l1] [.int (rJ9_abs_0f7a4 x0 u)] u := (WP_u (.invokestatic 267) [] rfl).trans (ex_call ⟨Nat.le_of_ble_eq_true rfl, Nat.le_of_ble_eq_true rfl⟩)
theorem eX5_steps_12 {l1 : Option Value} {st : List Value} {x : Int32} : GX5_steps w Q 12 [some (.int x), l1] st u ↔ GX5_steps w Q 13 [some (.int x), l1] (.int x :: st) u := WP_u (.iload_n 0) [] rfl
theorem eX5_steps_13 {l0 l1 : Option Value} {st : List Value} : GX5_steps w Q 13 [l0, l1] st u ↔ GX5_steps w Q 15 [l0, l1] (.int 10 :: st) u := WP_bipush rfl (by decide)
theorem eX5_steps_15 {l0 l1 : Option Value} {st : List Value} {x y : Int32} : GX5_steps w Q 15 [l0, l1] (.int y :: .int x :: st) u ↔ ¬ y = 0 ∧ GX5_steps w Q 16 [l0, l1] (.int (x - x / y * y) :: st) u := (WP_u (.irem) [] rfl).trans ex_and
theorem eX5_steps_16 {l0 : Option Value} {st : List Value} {x : Int32} : GX5_steps w Q 16 [l0, some (.int x)] st u ↔ GX5_steps w Q 17 [l0, some (.int x)] (.int x :: st) u := WP_u (.iload_n 1) [] rfl
theorem eX5_steps_17 {l0 l1 : Option Value} {st : List Value} : GX5_steps w Q 17 [l0, l1] st u ↔ GX5_steps w Q 19 [l0, l1] (.int 10 :: st) u := WP_bipush rfl (by decide)
theorem eX5_steps_19 {l0 l1 : Option Value} {st : List Value} {x y : Int32} : GX5_steps w Q 19 [l0, l1] (.int y :: .int x :: st) u ↔ ¬ y = 0 ∧ GX5_steps w Q 20 [l0, l1] (.int (x - x / y * y) :: st) u := (WP_u (.irem) [] rfl).trans ex_and
theorem eX5_steps_20 {l0 l1 : Option Value} {st : List Value} {x y : Int32} : GX5_steps w Q 20 [l0, l1] (.int y :: .int x :: st) u ↔ GX5_steps w Q 21 [l0, l1] (.int (x - y) :: st) u := WP_u (.isub) [] rfl
theorem eX5_steps_21 {l0 l1 : Option Value} {x0 : Int32} {x1 : Int32} : GX5_steps w Q 21 [l0, l1] [.int x0, .int x1] u ↔ (pJ9_abs_0f7a4 x0 u) ∧ GX5_steps w Q 24 [l0, l1] [.int (rJ9_abs_0f7a4 x0 u), .int x1] u := (WP_u (.invokestatic 267) [] rfl).trans (ex_call ⟨Nat.le_of_ble_eq_true rfl, Nat.le_of_ble_eq_true rfl⟩)
theorem eX5_steps_24 {l0 l1 : Option Value} {x0 : Int32} {x1 : Int32} : GX5_steps w Q 24 [l0, l1] [.int x0, .int x1] u ↔ (pJ9_max_7cf53 x1 x0 u) ∧ GX5_steps w Q 27 [l0, l1] [.int (rJ9_max_7cf53 x1 x0 u)] u := (WP_u (.invokestatic 270) [] rfl).trans (ex_call ⟨Nat.le_of_ble_eq_true rfl, Nat.le_of_ble_eq_true rfl⟩)
theorem eX5_steps_27 {l0 l1 : Option Value} {x : Int32} : GX5_steps w Q 27 [l0, l1] [.int x] u ↔ Q (some (.int x)) u := (WP_u (.ireturn) [] rfl).trans (ex_ret rfl)
end
def VX5_steps (w : WW) : Prop := ∀ (a0 : Int32) (a1 : Int32) (u : MM), pX5_steps a0 a1 u → GX5_steps w (fun r u' => r = some (.int (rX5_steps a0 a1 u)) ∧ u' = u) 0 [some (.int a0), some (.int a1)] [] u
def KX5_isNextInTrialFrom (w : WW) : KT := (al flX5, al ciX5, al clX5, fun _ => none, fun _ => none, al [(86, csX0_nextFor w)])
abbrev GX5_isNextInTrialFrom (w : WW) (Q : Option Value → MM → Prop) : Nat → LL → List Value → MM → Prop := WP w MX5_isNextInTrialFrom TX5_isNextInTrialFrom (KX5_isNextInTrialFrom w) Q
section
variable {w : WW} {Q : Option Value → MM → Prop} {u : MM}
theorem eX5_isNextInTrialFrom_0 {l1 l2 l3 : Option Value} {st : List Value} {x : Nat} : GX5_isNextInTrialFrom w Q 0 [some (.ref x), l1, l2, l3] st u ↔ GX5_isNextInTrialFrom w Q 1 [some (.ref x), l1, l2, l3] (.ref x :: st) u := WP_u (.aload_n 0) [] rfl
theorem eX5_isNextInTrialFrom_1 {l0 l1 l2 l3 : Option Value} {st : List Value} {a : Nat} : GX5_isNextInTrialFrom w Q 1 [l0, l1, l2, l3] (.ref a :: st) u ↔ okR w a 5 1 ∧ GX5_isNextInTrialFrom w Q 4 [l0, l1, l2, l3] (.ref (rfF w a 1) :: st) u := (WP_u (.getfield 16) [] rfl).trans ex_and
theorem eX5_isNextInTrialFrom_4 {l0 l1 l2 l3 : Option Value} {st : List Value} {a : Nat} : GX5_isNextInTrialFrom w Q 4 [l0, l1, l2, l3] (.ref a :: st) u ↔ okR w a 0 1 ∧ GX5_isNextInTrialFrom w Q 7 [l0, l1, l2, l3] (.ref (rfF w a 1) :: st) u := (WP_u (.getfield 102) [] rfl).trans ex_and
theorem eX5_isNextInTrialFrom_7 {l0 l2 l3 : Option Value} {st : List Value} {x : Int32} : GX5_isNextInTrialFrom w Q 7 [l0, some (.int x), l2, l3] st u ↔ GX5_isNextInTrialFrom w Q 8 [l0, some (.int x), l2, l3] (.int x :: st) u := WP_u (.iload_n 1) [] rfl
theorem eX5_isNextInTrialFrom_8 {l0 l1 l2 l3 : Option Value} {st : List Value} {a : Nat} {i : Int32} : GX5_isNextInTrialFrom w Q 8 [l0, l1, l2, l3] (.int i :: .ref a :: st) u ↔ okAR w a i ∧ GX5_isNextInTrialFrom w Q 9 [l0, l1, l2, l3] (.ref (rfA w a i) :: st) u := (WP_u (.aaload) [] rfl).trans ex_and
theorem eX5_isNextInTrialFrom_9 {l0 l1 l3 : Option Value} {st : List Value} {x : Int32} : GX5_isNextInTrialFrom w Q 9 [l0, l1, some (.int x), l3] st u ↔ GX5_isNextInTrialFrom w Q 10 [l0, l1, some (.int x), l3] (.int x :: st) u := WP_u (.iload_n 2) [] rfl
theorem eX5_isNextInTrialFrom_10 {l0 l1 l2 l3 : Option Value} {st : List Value} {a : Nat} {x : Int32} : GX5_isNextInTrialFrom w Q 10 [l0, l1, l2, l3] (.int x :: .ref a :: st) u ↔ okI w a 1 1 ∧ GX5_isNextInTrialFrom w Q 13 [l0, l1, l2, l3] st (uI u (ixI w a 1) x) := (WP_u (.putfield 111) [] rfl).trans ex_and
theorem eX5_isNextInTrialFrom_13 {l1 l2 l3 : Option Value} {st : List Value} {x : Nat} : GX5_isNextInTrialFrom w Q 13 [some (.ref x), l1, l2, l3] st u ↔ GX5_isNextInTrialFrom w Q 14 [some (.ref x), l1, l2, l3] (.ref x :: st) u := WP_u (.aload_n 0) [] rfl
theorem eX5_isNextInTrialFrom_14 {l0 l1 l2 l3 : Option Value} {st : List Value} {a : Nat} : GX5_isNextInTrialFrom w Q 14 [l0, l1, l2, l3] (.ref a :: st) u ↔ okR w a 5 1 ∧ GX5_isNextInTrialFrom w Q 17 [l0, l1, l2, l3] (.ref (rfF w a 1) :: st) u := (WP_u (.getfield 16) [] rfl).trans ex_and
theorem eX5_isNextInTrialFrom_17 {l0 l1 l2 : Option Value} {st : List Value} {x : Int32} : GX5_isNextInTrialFrom w Q 17 [l0, l1, l2, some (.int x)] st u ↔ GX5_isNextInTrialFrom w Q 18 [l0, l1, l2, some (.int x)] (.int x :: st) u := WP_u (.iload_n 3) [] rfl
theorem eX5_isNextInTrialFrom_18 {l0 l1 l2 l3 : Option Value} {x0 : Int32} {x1 : Nat} : GX5_isNextInTrialFrom w Q 18 [l0, l1, l2, l3] [.int x0, .ref x1] u ↔ (hOk w x1 ∧ wOk w ∧ pX0_nextFor (hq w x1) x0 u) ∧ GX5_isNextInTrialFrom w Q 21 [l0, l1, l2, l3] [.int (rX0_nextFor (hq w x1) x0 u)] u := (WP_u (.invokevirtual 86) [] rfl).trans (ex_call ⟨Nat.le_of_ble_eq_true rfl, Nat.le_of_ble_eq_true rfl⟩)
theorem eX5_isNextInTrialFrom_21 {l0 l2 l3 : Option Value} {st : List Value} {x : Int32} : GX5_isNextInTrialFrom w Q 21 [l0, some (.int x), l2, l3] st u ↔ GX5_isNextInTrialFrom w Q 22 [l0, some (.int x), l2, l3] (.int x :: st) u := WP_u (.iload_n 1) [] rfl
theorem eX5_isNextInTrialFrom_22 {l0 l1 l2 l3 : Option Value} {st : List Value} {x y : Int32} : GX5_isNextInTrialFrom w Q 22 [l0, l1, l2, l3] (.int y :: .int x :: st) u ↔ (¬ x = y → GX5_isNextInTrialFrom w Q 29 [l0, l1, l2, l3] st u) ∧ (¬ (¬ x = y) → GX5_isNextInTrialFrom w Q 25 [l0, l1, l2, l3] st u) := (WP_u (.if_icmp .ne 7) [29] rfl).trans ex_br
theorem eX5_isNextInTrialFrom_25 {l0 l1 l2 l3 : Option Value} {st : List Value} : GX5_isNextInTrialFrom w Q 25 [l0, l1, l2, l3] st u ↔ GX5_isNextInTrialFrom w Q 26 [l0, l1, l2, l3] (.int 1 :: st) u := WP_iconst rfl (by decide)
theorem eX5_isNextInTrialFrom_26 {l0 l1 l2 l3 : Option Value} {st : List Value} : GX5_isNextInTrialFrom w Q 26 [l0, l1, l2, l3] st u ↔ GX5_isNextInTrialFrom w Q 30 [l0, l1, l2, l3] st u := WP_u (.goto 4) [30] rfl
theorem eX5_isNextInTrialFrom_29 {l0 l1 l2 l3 : Option Value} {st : List Value} : GX5_isNextInTrialFrom w Q 29 [l0, l1, l2, l3] st u ↔ GX5_isNextInTrialFrom w Q 30 [l0, l1, l2, l3] (.int 0 :: st) u := WP_iconst rfl (by decide)
theorem eX5_isNextInTrialFrom_30 {l0 l1 l2 l3 : Option Value} {x : Int32} : GX5_isNextInTrialFrom w Q 30 [l0, l1, l2, l3] [.int x] u ↔ nb x ∧ Q (some (.int x)) u := (WP_u (.ireturn) [] rfl).trans ex_k
end
def VX5_isNextInTrialFrom (w : WW) : Prop := ∀ (a1 : Int32) (a2 : Int32) (a3 : Int32) (u : MM), wOk w → pX5_isNextInTrialFrom a1 a2 a3 u → GX5_isNextInTrialFrom w (fun r u' => r = some (.int (rX5_isNextInTrialFrom a1 a2 a3 u)) ∧ u' = (mX5_isNextInTrialFrom a1 a2 a3 u)) 0 [some (.ref (xA w)), some (.int a1), some (.int a2), some (.int a3)] [] u
def KX5_worthInTrialFrom (w : WW) : KT := (al flX5, al ciX5, al clX5, fun _ => none, fun _ => none, al [(205, csX5_isNextInTrialFrom w)])
abbrev GX5_worthInTrialFrom (w : WW) (Q : Option Value → MM → Prop) : Nat → LL → List Value → MM → Prop := WP w MX5_worthInTrialFrom TX5_worthInTrialFrom (KX5_worthInTrialFrom w) Q
section
variable {w : WW} {Q : Option Value → MM → Prop} {u : MM}
theorem eX5_worthInTrialFrom_0 {l0 l1 l2 l3 l4 : Option Value} {st : List Value} : GX5_worthInTrialFrom w Q 0 [l0, l1, l2, l3, l4] st u ↔ GX5_worthInTrialFrom w Q 1 [l0, l1, l2, l3, l4] (.int 0 :: st) u := WP_iconst rfl (by decide)
theorem eX5_worthInTrialFrom_1 {l0 l1 l2 l3 l4 : Option Value} {st : List Value} {x : Int32} : GX5_worthInTrialFrom w Q 1 [l0, l1, l2, l3, l4] (.int x :: st) u ↔ GX5_worthInTrialFrom w Q 2 [l0, l1, kl l2, some (.int x), l4] st u := (WP_u (.istore_n 3) [] rfl).trans (ex_drop (Nat.le_of_ble_eq_true rfl))
theorem eX5_worthInTrialFrom_2 {l0 l1 l2 l3 l4 : Option Value} {st : List Value} : GX5_worthInTrialFrom w Q 2 [l0, l1, l2, l3, l4] st u ↔ GX5_worthInTrialFrom w Q 3 [l0, l1, l2, l3, l4] (.int 0 :: st) u := WP_iconst rfl (by decide)
theorem eX5_worthInTrialFrom_3 {l0 l1 l2 l3 l4 : Option Value} {st : List Value} {x : Int32} : GX5_worthInTrialFrom w Q 3 [l0, l1, l2, l3, l4] (.int x :: st) u ↔ GX5_worthInTrialFrom w Q 5 [l0, l1, l2, kl l3, some (.int x)] st u := (WP_u (.istore 4) [] rfl).trans (ex_drop (Nat.le_of_ble_eq_true rfl))
theorem eX5_worthInTrialFrom_5 {l0 l1 l2 l3 : Option Value} {st : List Value} {x : Int32} : GX5_worthInTrialFrom w Q 5 [l0, l1, l2, l3, some (.int x)] st u ↔ GX5_worthInTrialFrom w Q 7 [l0, l1, l2, l3, some (.int x)] (.int x :: st) u := WP_u (.iload 4) [] rfl
theorem eX5_worthInTrialFrom_7 {l1 l2 l3 l4 : Option Value} {st : List Value} {x : Nat} : GX5_worthInTrialFrom w Q 7 [some (.ref x), l1, l2, l3, l4] st u ↔ GX5_worthInTrialFrom w Q 8 [some (.ref x), l1, l2, l3, l4] (.ref x :: st) u := WP_u (.aload_n 0) [] rfl
theorem eX5_worthInTrialFrom_8 {l0 l1 l2 l3 l4 : Option Value} {st : List Value} {a : Nat} : GX5_worthInTrialFrom w Q 8 [l0, l1, l2, l3, l4] (.ref a :: st) u ↔ okR w a 5 1 ∧ GX5_worthInTrialFrom w Q 11 [l0, l1, l2, l3, l4] (.ref (rfF w a 1) :: st) u := (WP_u (.getfield 16) [] rfl).trans ex_and
theorem eX5_worthInTrialFrom_11 {l0 l1 l2 l3 l4 : Option Value} {st : List Value} {a : Nat} : GX5_worthInTrialFrom w Q 11 [l0, l1, l2, l3, l4] (.ref a :: st) u ↔ okI w a 0 2 ∧ GX5_worthInTrialFrom w Q 14 [l0, l1, l2, l3, l4] (.int (u.1 (ixI w a 2)) :: st) u := (WP_u (.getfield 179) [] rfl).trans ex_and
theorem eX5_worthInTrialFrom_14 {l0 l1 l2 l3 l4 : Option Value} {st : List Value} {x y : Int32} : GX5_worthInTrialFrom w Q 14 [l0, l1, l2, l3, l4] (.int y :: .int x :: st) u ↔ (y ≤ x → GX5_worthInTrialFrom w Q 50 [l0, l1, l2, l3, l4] st u) ∧ (¬ (y ≤ x) → GX5_worthInTrialFrom w Q 17 [l0, l1, l2, l3, l4] st u) := (WP_u (.if_icmp .ge 36) [50] rfl).trans ex_br
theorem eX5_worthInTrialFrom_17 {l1 l2 l3 l4 : Option Value} {st : List Value} {x : Nat} : GX5_worthInTrialFrom w Q 17 [some (.ref x), l1, l2, l3, l4] st u ↔ GX5_worthInTrialFrom w Q 18 [some (.ref x), l1, l2, l3, l4] (.ref x :: st) u := WP_u (.aload_n 0) [] rfl
theorem eX5_worthInTrialFrom_18 {l0 l2 l3 l4 : Option Value} {st : List Value} {x : Int32} : GX5_worthInTrialFrom w Q 18 [l0, some (.int x), l2, l3, l4] st u ↔ GX5_worthInTrialFrom w Q 19 [l0, some (.int x), l2, l3, l4] (.int x :: st) u := WP_u (.iload_n 1) [] rfl
theorem eX5_worthInTrialFrom_19 {l0 l1 l3 l4 : Option Value} {st : List Value} {x : Int32} : GX5_worthInTrialFrom w Q 19 [l0, l1, some (.int x), l3, l4] st u ↔ GX5_worthInTrialFrom w Q 20 [l0, l1, some (.int x), l3, l4] (.int x :: st) u := WP_u (.iload_n 2) [] rfl
theorem eX5_worthInTrialFrom_20 {l0 l1 l2 l3 : Option Value} {st : List Value} {x : Int32} : GX5_worthInTrialFrom w Q 20 [l0, l1, l2, l3, some (.int x)] st u ↔ GX5_worthInTrialFrom w Q 22 [l0, l1, l2, l3, some (.int x)] (.int x :: st) u := WP_u (.iload 4) [] rfl
theorem eX5_worthInTrialFrom_22 {l0 l1 l2 l3 l4 : Option Value} {x0 : Int32} {x1 : Int32} {x2 : Int32} {x3 : Nat} : GX5_worthInTrialFrom w Q 22 [l0, l1, l2, l3, l4] [.int x0, .int x1, .int x2, .ref x3] u ↔ (x3 = xA w ∧ wOk w ∧ pX5_isNextInTrialFrom x2 x1 x0 u) ∧ GX5_worthInTrialFrom w Q 25 [l0, l1, l2, l3, l4] [.int (rX5_isNextInTrialFrom x2 x1 x0 u)] (mX5_isNextInTrialFrom x2 x1 x0 u) := (WP_u (.invokevirtual 205) [] rfl).trans (ex_call ⟨Nat.le_of_ble_eq_true rfl, Nat.le_of_ble_eq_true rfl⟩)
theorem eX5_worthInTrialFrom_25 {l0 l1 l2 l3 l4 : Option Value} {st : List Value} {x : Int32} : GX5_worthInTrialFrom w Q 25 [l0, l1, l2, l3, l4] (.int x :: st) u ↔ (x = 0 → GX5_worthInTrialFrom w Q 44 [l0, l1, l2, l3, l4] st u) ∧ (¬ (x = 0) → GX5_worthInTrialFrom w Q 28 [l0, l1, l2, l3, l4] st u) := (WP_u (.ifCond .eq 19) [44] rfl).trans ex_br
theorem eX5_worthInTrialFrom_28 {l0 l1 l2 l4 : Option Value} {st : List Value} {x : Int32} : GX5_worthInTrialFrom w Q 28 [l0, l1, l2, some (.int x), l4] st u ↔ GX5_worthInTrialFrom w Q 29 [l0, l1, l2, some (.int x), l4] (.int x :: st) u := WP_u (.iload_n 3) [] rfl
theorem eX5_worthInTrialFrom_29 {l1 l2 l3 l4 : Option Value} {st : List Value} {x : Nat} : GX5_worthInTrialFrom w Q 29 [some (.ref x), l1, l2, l3, l4] st u ↔ GX5_worthInTrialFrom w Q 30 [some (.ref x), l1, l2, l3, l4] (.ref x :: st) u := WP_u (.aload_n 0) [] rfl
theorem eX5_worthInTrialFrom_30 {l0 l1 l2 l3 l4 : Option Value} {st : List Value} {a : Nat} : GX5_worthInTrialFrom w Q 30 [l0, l1, l2, l3, l4] (.ref a :: st) u ↔ okR w a 5 1 ∧ GX5_worthInTrialFrom w Q 33 [l0, l1, l2, l3, l4] (.ref (rfF w a 1) :: st) u := (WP_u (.getfield 16) [] rfl).trans ex_and
theorem eX5_worthInTrialFrom_33 {l0 l1 l2 l3 l4 : Option Value} {st : List Value} {a : Nat} : GX5_worthInTrialFrom w Q 33 [l0, l1, l2, l3, l4] (.ref a :: st) u ↔ okR w a 0 0 ∧ GX5_worthInTrialFrom w Q 36 [l0, l1, l2, l3, l4] (.ref (rfF w a 0) :: st) u := (WP_u (.getfield 70) [] rfl).trans ex_and
theorem eX5_worthInTrialFrom_36 {l0 l1 l2 l3 : Option Value} {st : List Value} {x : Int32} : GX5_worthInTrialFrom w Q 36 [l0, l1, l2, l3, some (.int x)] st u ↔ GX5_worthInTrialFrom w Q 38 [l0, l1, l2, l3, some (.int x)] (.int x :: st) u := WP_u (.iload 4) [] rfl
theorem eX5_worthInTrialFrom_38 {l0 l1 l2 l3 l4 : Option Value} {st : List Value} {a : Nat} {i : Int32} : GX5_worthInTrialFrom w Q 38 [l0, l1, l2, l3, l4] (.int i :: .ref a :: st) u ↔ okAR w a i ∧ GX5_worthInTrialFrom w Q 39 [l0, l1, l2, l3, l4] (.ref (rfA w a i) :: st) u := (WP_u (.aaload) [] rfl).trans ex_and
theorem eX5_worthInTrialFrom_39 {l0 l1 l2 l3 l4 : Option Value} {st : List Value} {a : Nat} : GX5_worthInTrialFrom w Q 39 [l0, l1, l2, l3, l4] (.ref a :: st) u ↔ okI w a 2 1 ∧ GX5_worthInTrialFrom w Q 42 [l0, l1, l2, l3, l4] (.int (u.1 (ixI w a 1)) :: st) u := (WP_u (.getfield 80) [] rfl).trans ex_and
theorem eX5_worthInTrialFrom_42 {l0 l1 l2 l3 l4 : Option Value} {st : List Value} {x y : Int32} : GX5_worthInTrialFrom w Q 42 [l0, l1, l2, l3, l4] (.int y :: .int x :: st) u ↔ GX5_worthInTrialFrom w Q 43 [l0, l1, l2, l3, l4] (.int (x + y) :: st) u := WP_u (.iadd) [] rfl
theorem eX5_worthInTrialFrom_43 {l0 l1 l2 l3 l4 : Option Value} {st : List Value} {x : Int32} : GX5_worthInTrialFrom w Q 43 [l0, l1, l2, l3, l4] (.int x :: st) u ↔ GX5_worthInTrialFrom w Q 44 [l0, l1, kl l2, some (.int x), l4] st u := (WP_u (.istore_n 3) [] rfl).trans (ex_drop (Nat.le_of_ble_eq_true rfl))
theorem eX5_worthInTrialFrom_44 {l0 l1 l2 l3 : Option Value} {st : List Value} {x : Int32} : GX5_worthInTrialFrom w Q 44 [l0, l1, l2, l3, some (.int x)] st u ↔ GX5_worthInTrialFrom w Q 47 [l0, l1, l2, kl l3, some (.int (x + 1))] st u := WP_iinc rfl (by decide) rfl rfl
theorem eX5_worthInTrialFrom_47 {l0 l1 l2 l3 l4 : Option Value} {st : List Value} : GX5_worthInTrialFrom w Q 47 [l0, l1, l2, l3, l4] st u ↔ GX5_worthInTrialFrom w Q 5 [l0, l1, l2, l3, l4] st u := WP_u (.goto (-42)) [5] rfl
theorem eX5_worthInTrialFrom_50 {l0 l1 l2 l4 : Option Value} {st : List Value} {x : Int32} : GX5_worthInTrialFrom w Q 50 [l0, l1, l2, some (.int x), l4] st u ↔ GX5_worthInTrialFrom w Q 51 [l0, l1, l2, some (.int x), l4] (.int x :: st) u := WP_u (.iload_n 3) [] rfl
theorem eX5_worthInTrialFrom_51 {l0 l1 l2 l3 l4 : Option Value} {x : Int32} : GX5_worthInTrialFrom w Q 51 [l0, l1, l2, l3, l4] [.int x] u ↔ Q (some (.int x)) u := (WP_u (.ireturn) [] rfl).trans (ex_ret rfl)
end
def VX5_worthInTrialFrom (w : WW) : Prop := ∀ (a1 : Int32) (a2 : Int32) (u : MM), wOk w → pX5_worthInTrialFrom a1 a2 u → GX5_worthInTrialFrom w (fun r u' => r = some (.int (rX5_worthInTrialFrom a1 a2 u)) ∧ u' = (mX5_worthInTrialFrom a1 a2 u)) 0 [some (.ref (xA w)), some (.int a1), some (.int a2), none, none] [] u
def KX5_coughInTrial (w : WW) : KT := (al flX5, al ciX5, al clX5, fun _ => none, fun _ => none, al [(162, csX0_isHeld w), (165, csX0_makeRise w)])
abbrev GX5_coughInTrial (w : WW) (Q : Option Value → MM → Prop) : Nat → LL → List Value → MM → Prop := WP w MX5_coughInTrial TX5_coughInTrial (KX5_coughInTrial w) Q
section
variable {w : WW} {Q : Option Value → MM → Prop} {u : MM}
theorem eX5_coughInTrial_0 {l1 l2 : Option Value} {st : List Value} {x : Nat} : GX5_coughInTrial w Q 0 [some (.ref x), l1, l2] st u ↔ GX5_coughInTrial w Q 1 [some (.ref x), l1, l2] (.ref x :: st) u := WP_u (.aload_n 0) [] rfl
theorem eX5_coughInTrial_1 {l0 l1 l2 : Option Value} {st : List Value} {a : Nat} : GX5_coughInTrial w Q 1 [l0, l1, l2] (.ref a :: st) u ↔ okR w a 5 1 ∧ GX5_coughInTrial w Q 4 [l0, l1, l2] (.ref (rfF w a 1) :: st) u := (WP_u (.getfield 16) [] rfl).trans ex_and
theorem eX5_coughInTrial_4 {l0 l2 : Option Value} {st : List Value} {x : Int32} : GX5_coughInTrial w Q 4 [l0, some (.int x), l2] st u ↔ GX5_coughInTrial w Q 5 [l0, some (.int x), l2] (.int x :: st) u := WP_u (.iload_n 1) [] rfl
theorem eX5_coughInTrial_5 {l0 l1 l2 : Option Value} {x0 : Int32} {x1 : Nat} : GX5_coughInTrial w Q 5 [l0, l1, l2] [.int x0, .ref x1] u ↔ (hOk w x1 ∧ pX0_isHeld (hq w x1) x0 u) ∧ GX5_coughInTrial w Q 8 [l0, l1, l2] [.int (rX0_isHeld (hq w x1) x0 u)] u := (WP_u (.invokevirtual 162) [] rfl).trans (ex_call ⟨Nat.le_of_ble_eq_true rfl, Nat.le_of_ble_eq_true rfl⟩)
theorem eX5_coughInTrial_8 {l0 l1 l2 : Option Value} {st : List Value} {x : Int32} : GX5_coughInTrial w Q 8 [l0, l1, l2] (.int x :: st) u ↔ GX5_coughInTrial w Q 9 [l0, kl l1, some (.int x)] st u := (WP_u (.istore_n 2) [] rfl).trans (ex_drop (Nat.le_of_ble_eq_true rfl))
theorem eX5_coughInTrial_9 {l1 l2 : Option Value} {st : List Value} {x : Nat} : GX5_coughInTrial w Q 9 [some (.ref x), l1, l2] st u ↔ GX5_coughInTrial w Q 10 [some (.ref x), l1, l2] (.ref x :: st) u := WP_u (.aload_n 0) [] rfl
theorem eX5_coughInTrial_10 {l0 l1 l2 : Option Value} {st : List Value} {a : Nat} : GX5_coughInTrial w Q 10 [l0, l1, l2] (.ref a :: st) u ↔ okR w a 5 1 ∧ GX5_coughInTrial w Q 13 [l0, l1, l2] (.ref (rfF w a 1) :: st) u := (WP_u (.getfield 16) [] rfl).trans ex_and
theorem eX5_coughInTrial_13 {l0 l2 : Option Value} {st : List Value} {x : Int32} : GX5_coughInTrial w Q 13 [l0, some (.int x), l2] st u ↔ GX5_coughInTrial w Q 14 [l0, some (.int x), l2] (.int x :: st) u := WP_u (.iload_n 1) [] rfl
theorem eX5_coughInTrial_14 {l0 l1 l2 : Option Value} {x0 : Int32} {x1 : Nat} : GX5_coughInTrial w Q 14 [l0, l1, l2] [.int x0, .ref x1] u ↔ (hOk w x1 ∧ wOk w ∧ pX0_makeRise (hq w x1) x0 u) ∧ GX5_coughInTrial w Q 17 [l0, l1, l2] [] (mX0_makeRise (hq w x1) x0 u) := (WP_u (.invokevirtual 165) [] rfl).trans (ex_call ⟨Nat.le_of_ble_eq_true rfl, Nat.le_of_ble_eq_true rfl⟩)
theorem eX5_coughInTrial_17 {l0 l1 : Option Value} {st : List Value} {x : Int32} : GX5_coughInTrial w Q 17 [l0, l1, some (.int x)] st u ↔ GX5_coughInTrial w Q 18 [l0, l1, some (.int x)] (.int x :: st) u := WP_u (.iload_n 2) [] rfl
theorem eX5_coughInTrial_18 {l0 l1 l2 : Option Value} {x : Int32} : GX5_coughInTrial w Q 18 [l0, l1, l2] [.int x] u ↔ nb x ∧ Q (some (.int x)) u := (WP_u (.ireturn) [] rfl).trans ex_k
end
def VX5_coughInTrial (w : WW) : Prop := ∀ (a1 : Int32) (u : MM), wOk w → pX5_coughInTrial a1 u → GX5_coughInTrial w (fun r u' => r = some (.int (rX5_coughInTrial a1 u)) ∧ u' = (mX5_coughInTrial a1 u)) 0 [some (.ref (xA w)), some (.int a1), none] [] u
theorem vX5_finding (w : WW) : VX5_finding w := by
  intro k u h
  have h' : vp_in k 7 := h
  simp only [eX5_finding_0, eX5_finding_1, eX5_finding_4, eX5_finding_5, eX5_finding_6, eX5_finding_7, eX5_finding_8, eX5_finding_9, eX5_finding_10, eX5_finding_13, eX5_finding_14, eX5_finding_15, kl_i, kl_r, kl_n, kl_l, true_and, and_true, true_implies, false_implies, not_true_eq_false, not_false_eq_true, i10, Classical.not_not, ok_x0, rfP, ok_x1, rfT, ok_x2, rfK, ok_x3, ix_x3, ok_x4, rf_x4, ok_x5, rf_x5, ok_x6, rf_x6, as_fdd, ai_fdd, xa_fdd, rd_fdd, h', rX5_finding, mX5_finding, fndX]
set_option maxRecDepth 20000 in
theorem KX5_finding_ok (w : WW) : KOk w MX5_finding (KX5_finding w) := KOk_mk flX5_ok ciX5_ok clX5_ok (fun _ _ h => by cases h) (fun _ _ h => by cases h) (List.forall_mem_nil _)
theorem ctX5_finding (w : WW) : CT w yX5_finding MX5_finding (csX5_finding w).2.1 (csX5_finding w).2.2 := by
  refine CT_of (by decide) rfl TX5_finding_ok TX5_finding_v (KX5_finding_ok w) (fun as u h => ?_)
  obtain ⟨a0, a1, rfl, h⟩ := sgRI h
  obtain ⟨rfl, hh⟩ := h
  refine ⟨Nat.le_of_ble_eq_true rfl, ?_⟩
  have key := vX5_finding w a1 u hh
  exact key
theorem prX5_finding (w : WW) : ∀ as u, (csX5_finding w).2.1 as u → ∃ a r, as = .ref a :: r ∧ r.length = 1 ∧ okO w a 5 := by
  intro as u h
  obtain ⟨a0, a1, rfl, h⟩ := sgRI h
  exact ⟨_, _, rfl, rfl, okO_x h⟩
theorem vX5_isFromTo (w : WW) : VX5_isFromTo w := by
  intro a b c u h
  simp only [eX5_isFromTo_0, eX5_isFromTo_1, eX5_isFromTo_2, eX5_isFromTo_5, eX5_isFromTo_6, eX5_isFromTo_7, eX5_isFromTo_10, eX5_isFromTo_11, eX5_isFromTo_14, eX5_isFromTo_15, kl_i, kl_r, kl_n, kl_l, true_and, and_true, true_implies, false_implies, not_true_eq_false, not_false_eq_true, i10, Classical.not_not, rX5_isFromTo, Option.some.injEq, Value.int.injEq]
  refine ⟨fun h => ⟨nb_0, ?_⟩, fun h => ⟨fun h2 => ⟨nb_0, ?_⟩, fun h2 => ⟨nb_1, ?_⟩⟩⟩
  · exact (bi_f (fun z => absurd h (Int32.not_lt.mpr z.1))).symm
  · exact (bi_f (fun z => absurd h2 (Int32.not_lt.mpr z.2))).symm
  · exact (bi_t ⟨Int32.not_lt.mp h, Int32.not_lt.mp h2⟩).symm
set_option maxRecDepth 20000 in
theorem KX5_isFromTo_ok (w : WW) : KOk w MX5_isFromTo (KX5_isFromTo w) := KOk_mk flX5_ok ciX5_ok clX5_ok (fun _ _ h => by cases h) (fun _ _ h => by cases h) (List.forall_mem_nil _)
theorem ctX5_isFromTo (w : WW) : CT w yX5_isFromTo MX5_isFromTo (csX5_isFromTo w).2.1 (csX5_isFromTo w).2.2 := by
  refine CT_of (by decide) rfl TX5_isFromTo_ok TX5_isFromTo_v (KX5_isFromTo_ok w) (fun as u h => ?_)
  obtain ⟨a0, a1, a2, rfl, h⟩ := sgIII h
  have hh := h
  refine ⟨Nat.le_of_ble_eq_true rfl, ?_⟩
  have key := vX5_isFromTo w a0 a1 a2 u hh
  exact key
theorem vX5_isSpot (w : WW) : VX5_isSpot w := by
  intro a u h
  simp only [eX5_isSpot_0, eX5_isSpot_1, eX5_isSpot_2, eX5_isSpot_4, eX5_isSpot_7, kl_i, kl_r, kl_n, kl_l, true_and, and_true, true_implies, false_implies, not_true_eq_false, not_false_eq_true, i10, Classical.not_not, pX5_isFromTo, rX5_isFromTo, rX5_isSpot, nb_bi]
theorem wcX5_65584 : ∀ x ∈ wS1 RX5 48 yX5_isFromTo MX5_isFromTo, x ∈ Gt := by decide +kernel
theorem nmX5_isFromTo : nmOk yX5_isFromTo 3 = true := by decide +kernel
set_option maxRecDepth 20000 in
theorem KX5_isSpot_ok (w : WW) : KOk w MX5_isSpot (KX5_isSpot w) := KOk_mk flX5_ok ciX5_ok clX5_ok (fun _ _ h => by cases h) (fun _ _ h => by cases h) (List.forall_mem_cons.mpr ⟨itS (n := 48) (COk_S (n := 3) (ctX5_isFromTo w) wcX5_65584 nmX5_isFromTo (by decide)), List.forall_mem_nil _⟩)
theorem ctX5_isSpot (w : WW) : CT w yX5_isSpot MX5_isSpot (csX5_isSpot w).2.1 (csX5_isSpot w).2.2 := by
  refine CT_of (by decide) rfl TX5_isSpot_ok TX5_isSpot_v (KX5_isSpot_ok w) (fun as u h => ?_)
  obtain ⟨a0, rfl, h⟩ := sgI h
  have hh := h
  refine ⟨Nat.le_of_ble_eq_true rfl, ?_⟩
  have key := vX5_isSpot w a0 u hh
  exact key
theorem vX5_isKind (w : WW) : VX5_isKind w := by
  intro a u h
  simp only [eX5_isKind_0, eX5_isKind_1, eX5_isKind_2, eX5_isKind_3, eX5_isKind_6, kl_i, kl_r, kl_n, kl_l, true_and, and_true, true_implies, false_implies, not_true_eq_false, not_false_eq_true, i10, Classical.not_not, pX5_isFromTo, rX5_isFromTo, rX5_isKind, nb_bi]
set_option maxRecDepth 20000 in
theorem KX5_isKind_ok (w : WW) : KOk w MX5_isKind (KX5_isKind w) := KOk_mk flX5_ok ciX5_ok clX5_ok (fun _ _ h => by cases h) (fun _ _ h => by cases h) (List.forall_mem_cons.mpr ⟨itS (n := 48) (COk_S (n := 3) (ctX5_isFromTo w) wcX5_65584 nmX5_isFromTo (by decide)), List.forall_mem_nil _⟩)
theorem ctX5_isKind (w : WW) : CT w yX5_isKind MX5_isKind (csX5_isKind w).2.1 (csX5_isKind w).2.2 := by
  refine CT_of (by decide) rfl TX5_isKind_ok TX5_isKind_v (KX5_isKind_ok w) (fun as u h => ?_)
  obtain ⟨a0, rfl, h⟩ := sgI h
  have hh := h
  refine ⟨Nat.le_of_ble_eq_true rfl, ?_⟩
  have key := vX5_isKind w a0 u hh
  exact key
theorem vX5_isSheet (w : WW) : VX5_isSheet w := by
  intro a u h
  simp only [eX5_isSheet_0, eX5_isSheet_1, eX5_isSheet_2, eX5_isSheet_3, eX5_isSheet_6, kl_i, kl_r, kl_n, kl_l, true_and, and_true, true_implies, false_implies, not_true_eq_false, not_false_eq_true, i10, Classical.not_not, pX5_isFromTo, rX5_isFromTo, rX5_isSheet, nb_bi]
set_option maxRecDepth 20000 in
theorem KX5_isSheet_ok (w : WW) : KOk w MX5_isSheet (KX5_isSheet w) := KOk_mk flX5_ok ciX5_ok clX5_ok (fun _ _ h => by cases h) (fun _ _ h => by cases h) (List.forall_mem_cons.mpr ⟨itS (n := 48) (COk_S (n := 3) (ctX5_isFromTo w) wcX5_65584 nmX5_isFromTo (by decide)), List.forall_mem_nil _⟩)
theorem ctX5_isSheet (w : WW) : CT w yX5_isSheet MX5_isSheet (csX5_isSheet w).2.1 (csX5_isSheet w).2.2 := by
  refine CT_of (by decide) rfl TX5_isSheet_ok TX5_isSheet_v (KX5_isSheet_ok w) (fun as u h => ?_)
  obtain ⟨a0, rfl, h⟩ := sgI h
  have hh := h
  refine ⟨Nat.le_of_ble_eq_true rfl, ?_⟩
  have key := vX5_isSheet w a0 u hh
  exact key
theorem vX5_isSeat (w : WW) : VX5_isSeat w := by
  intro a u h
  simp only [eX5_isSeat_0, eX5_isSeat_1, eX5_isSeat_2, eX5_isSeat_3, eX5_isSeat_6, eX5_isSeat_9, eX5_isSeat_10, eX5_isSeat_11, eX5_isSeat_14, kl_i, kl_r, kl_n, kl_l, true_and, and_true, true_implies, false_implies, not_true_eq_false, not_false_eq_true, i10, Classical.not_not, ok_x0, rfP, ok_x1, rfT, ok_x2, rfK, ok_x3, ix_x3, ok_x4, rf_x4, ok_x5, rf_x5, ok_x6, rf_x6, as_fdd, ai_fdd, xa_fdd, rd_fdd, ok_h0 w hqP, rf_h0 w hqP, ok_h1 w hqP, rf_h1 w hqP, ok_h2 w hqP, ix_h2 w hqP, ok_h3 w hqP, ix_h3 w hqP, ok_h4 w hqP, ix_h4 w hqP, ar_sa w hqP, rf_sa w hqP, ar_oa w hqP, rf_oa w hqP, hw_0, hw_1, hw_2, hu_0, hu_1, hu_2, on_vw, on_f, se_vw, se_f, vw_pv, pv_pv, ost_uI, sst_uI, sit_d, may_d, far_d, stay_d, goe_d, stp_d, hOk_h w hqP, hq_hA, pX5_isFromTo, rX5_isFromTo, rX5_isSeat, nb_bi]
set_option maxRecDepth 20000 in
theorem KX5_isSeat_ok (w : WW) : KOk w MX5_isSeat (KX5_isSeat w) := KOk_mk flX5_ok ciX5_ok clX5_ok (fun _ _ h => by cases h) (fun _ _ h => by cases h) (List.forall_mem_cons.mpr ⟨itS (n := 48) (COk_S (n := 3) (ctX5_isFromTo w) wcX5_65584 nmX5_isFromTo (by decide)), List.forall_mem_nil _⟩)
theorem ctX5_isSeat (w : WW) : CT w yX5_isSeat MX5_isSeat (csX5_isSeat w).2.1 (csX5_isSeat w).2.2 := by
  refine CT_of (by decide) rfl TX5_isSeat_ok TX5_isSeat_v (KX5_isSeat_ok w) (fun as u h => ?_)
  obtain ⟨a0, a1, rfl, h⟩ := sgRI h
  obtain ⟨rfl, hh⟩ := h
  refine ⟨Nat.le_of_ble_eq_true rfl, ?_⟩
  have key := vX5_isSeat w a1 u hh
  exact key
theorem prX5_isSeat (w : WW) : ∀ as u, (csX5_isSeat w).2.1 as u → ∃ a r, as = .ref a :: r ∧ r.length = 1 ∧ okO w a 5 := by
  intro as u h
  obtain ⟨a0, a1, rfl, h⟩ := sgRI h
  exact ⟨_, _, rfl, rfl, okO_x h⟩
theorem vX5_isOne (w : WW) : VX5_isOne w := by
  intro a u h
  simp only [eX5_isOne_0, eX5_isOne_1, eX5_isOne_2, eX5_isOne_3, eX5_isOne_6, eX5_isOne_9, eX5_isOne_10, eX5_isOne_11, eX5_isOne_14, kl_i, kl_r, kl_n, kl_l, true_and, and_true, true_implies, false_implies, not_true_eq_false, not_false_eq_true, i10, Classical.not_not, ok_x0, rfP, ok_x1, rfT, ok_x2, rfK, ok_x3, ix_x3, ok_x4, rf_x4, ok_x5, rf_x5, ok_x6, rf_x6, as_fdd, ai_fdd, xa_fdd, rd_fdd, ok_h0 w hqP, rf_h0 w hqP, ok_h1 w hqP, rf_h1 w hqP, ok_h2 w hqP, ix_h2 w hqP, ok_h3 w hqP, ix_h3 w hqP, ok_h4 w hqP, ix_h4 w hqP, ar_sa w hqP, rf_sa w hqP, ar_oa w hqP, rf_oa w hqP, hw_0, hw_1, hw_2, hu_0, hu_1, hu_2, on_vw, on_f, se_vw, se_f, vw_pv, pv_pv, ost_uI, sst_uI, sit_d, may_d, far_d, stay_d, goe_d, stp_d, hOk_h w hqP, hq_hA, pX5_isFromTo, rX5_isFromTo, rX5_isOne, nb_bi]
set_option maxRecDepth 20000 in
theorem KX5_isOne_ok (w : WW) : KOk w MX5_isOne (KX5_isOne w) := KOk_mk flX5_ok ciX5_ok clX5_ok (fun _ _ h => by cases h) (fun _ _ h => by cases h) (List.forall_mem_cons.mpr ⟨itS (n := 48) (COk_S (n := 3) (ctX5_isFromTo w) wcX5_65584 nmX5_isFromTo (by decide)), List.forall_mem_nil _⟩)
theorem ctX5_isOne (w : WW) : CT w yX5_isOne MX5_isOne (csX5_isOne w).2.1 (csX5_isOne w).2.2 := by
  refine CT_of (by decide) rfl TX5_isOne_ok TX5_isOne_v (KX5_isOne_ok w) (fun as u h => ?_)
  obtain ⟨a0, a1, rfl, h⟩ := sgRI h
  obtain ⟨rfl, hh⟩ := h
  refine ⟨Nat.le_of_ble_eq_true rfl, ?_⟩
  have key := vX5_isOne w a1 u hh
  exact key
theorem prX5_isOne (w : WW) : ∀ as u, (csX5_isOne w).2.1 as u → ∃ a r, as = .ref a :: r ∧ r.length = 1 ∧ okO w a 5 := by
  intro as u h
  obtain ⟨a0, a1, rfl, h⟩ := sgRI h
  exact ⟨_, _, rfl, rfl, okO_x h⟩
theorem late_iff {n : Int32} {t : Nat} (ht : t ≤ 9999) (h0 : 0 ≤ n) (h2 : n ≤ 200) : 9999 - n < nI t ↔ 9999 < nI t + n := by
  obtain ⟨j, hj, rfl⟩ := nI_of2 (M := 200) (n := 200) rfl (Int32.not_lt.mpr h0) h2
  have e : (9999 : Int32) - nI j = nI (9999 - j) := by
    have : (9999 : Int32) = nI (9999 - j) + nI j := by rw [nI_add, show 9999 - j + j = 9999 by omega]; rfl
    rw [this, Int32.add_sub_cancel]
  rw [e, nI_add, nI_ltI (by omega) (by omega), show (9999 : Int32) < nI (t + j) ↔ 9999 < t + j from nI_ltI (a := 9999) (by decide) (by omega)]
  omega
theorem vX5_isTooLateFor (w : WW) : VX5_isTooLateFor w := by
  intro n u h
  obtain ⟨⟨hv, t, ht, hc⟩, h0, h2⟩ := h
  have e := hc.1
  have key := late_iff ht h0 h2
  rw [← e] at key
  simp only [eX5_isTooLateFor_0, eX5_isTooLateFor_1, eX5_isTooLateFor_4, eX5_isTooLateFor_7, eX5_isTooLateFor_10, eX5_isTooLateFor_11, eX5_isTooLateFor_12, eX5_isTooLateFor_15, eX5_isTooLateFor_16, eX5_isTooLateFor_19, eX5_isTooLateFor_20, kl_i, kl_r, kl_n, kl_l, true_and, and_true, true_implies, false_implies, not_true_eq_false, not_false_eq_true, i10, Classical.not_not, ok_x0, rfP, ok_x1, rfT, ok_x2, rfK, ok_x3, ix_x3, ok_x4, rf_x4, ok_x5, rf_x5, ok_x6, rf_x6, as_fdd, ai_fdd, xa_fdd, rd_fdd, ok_h0 w hqP, rf_h0 w hqP, ok_h1 w hqP, rf_h1 w hqP, ok_h2 w hqP, ix_h2 w hqP, ok_h3 w hqP, ix_h3 w hqP, ok_h4 w hqP, ix_h4 w hqP, ar_sa w hqP, rf_sa w hqP, ar_oa w hqP, rf_oa w hqP, hw_0, hw_1, hw_2, hu_0, hu_1, hu_2, on_vw, on_f, se_vw, se_f, vw_pv, pv_pv, ost_uI, sst_uI, sit_d, may_d, far_d, stay_d, goe_d, stp_d, hOk_h w hqP, hq_hA, rX5_isTooLateFor, Option.some.injEq, Value.int.injEq]
  exact ⟨fun c => ⟨nb_0, (bi_f (fun z => absurd (key.mpr z) (Int32.not_lt.mpr c))).symm⟩, fun c => ⟨nb_1, (bi_t (key.mp (Int32.not_le.mp c))).symm⟩⟩
set_option maxRecDepth 20000 in
theorem KX5_isTooLateFor_ok (w : WW) : KOk w MX5_isTooLateFor (KX5_isTooLateFor w) := KOk_mk flX5_ok ciX5_ok clX5_ok (fun _ _ h => by cases h) (fun _ _ h => by cases h) (List.forall_mem_nil _)
theorem ctX5_isTooLateFor (w : WW) : CT w yX5_isTooLateFor MX5_isTooLateFor (csX5_isTooLateFor w).2.1 (csX5_isTooLateFor w).2.2 := by
  refine CT_of (by decide) rfl TX5_isTooLateFor_ok TX5_isTooLateFor_v (KX5_isTooLateFor_ok w) (fun as u h => ?_)
  obtain ⟨a0, a1, rfl, h⟩ := sgRI h
  obtain ⟨rfl, hh⟩ := h
  refine ⟨Nat.le_of_ble_eq_true rfl, ?_⟩
  have key := vX5_isTooLateFor w a1 u hh
  exact key
theorem prX5_isTooLateFor (w : WW) : ∀ as u, (csX5_isTooLateFor w).2.1 as u → ∃ a r, as = .ref a :: r ∧ r.length = 1 ∧ okO w a 5 := by
  intro as u h
  obtain ⟨a0, a1, rfl, h⟩ := sgRI h
  exact ⟨_, _, rfl, rfl, okO_x h⟩
theorem d10_toInt (a : Int32) : (a / 10).toInt = a.toInt.tdiv 10 := by
  rw [Int32.toInt_div_of_ne_right _ _ (by decide)]; rfl
theorem abs_ap {x y : Int32} (hx : -300000000 ≤ x.toInt ∧ x.toInt ≤ 300000000) (hy : -300000000 ≤ y.toInt ∧ y.toInt ≤ 300000000) : absI (x - y) = apartP x y := by
  have hs : (x - y).toInt = x.toInt - y.toInt := by
    rw [Int32.toInt_sub, Int.bmod_def]; omega
  have z : (0 : Int32).toInt = 0 := by decide
  unfold absI apartP
  by_cases c : x < y
  · have c' := Int32.lt_iff_toInt_lt.mp c
    rw [if_pos c, if_pos (Int32.lt_iff_toInt_lt.mpr (by rw [hs, z]; omega)), Int32.neg_sub]
  · have c' := Int32.le_iff_toInt_le.mp (Int32.not_lt.mp c)
    rw [if_neg c, if_neg (fun q => by have := Int32.lt_iff_toInt_lt.mp q; rw [hs, z] at this; omega)]
theorem d10_s (a : Int32) : a.toInt - 9 ≤ 10 * (a / 10).toInt ∧ 10 * (a / 10).toInt ≤ a.toInt + 9 := by
  rw [d10_toInt]
  rcases Int.le_total 0 a.toInt with h | h
  · rw [Int.tdiv_eq_ediv_of_nonneg h]; omega
  · have e := Int.neg_tdiv (-a.toInt) 10
    rw [Int.neg_neg, Int.tdiv_eq_ediv_of_nonneg (show 0 ≤ -a.toInt by omega)] at e
    omega
theorem i32_b (a : Int32) : -2147483648 ≤ a.toInt ∧ a.toInt ≤ 2147483647 := by
  have h1 := Int32.minValue_le_toInt a
  have h2 := Int32.toInt_le a
  have e1 : Int32.minValue.toInt = -2147483648 := by decide
  have e2 : Int32.maxValue.toInt = 2147483647 := by decide
  rw [e1] at h1
  omega
theorem d10_b (a : Int32) : -300000000 ≤ (a / 10).toInt ∧ (a / 10).toInt ≤ 300000000 := by
  have := d10_s a
  have := i32_b a
  omega
theorem r10_b (a : Int32) : -300000000 ≤ (rem32 a 10).toInt ∧ (rem32 a 10).toInt ≤ 300000000 := by
  have h1 := d10_s a
  have h2 := i32_b a
  have e10 : (10 : Int32).toInt = 10 := by decide
  unfold rem32
  rw [Int32.toInt_sub, Int32.toInt_mul, e10, Int.bmod_def, Int.bmod_def]
  omega
theorem vX5_steps (w : WW) : VX5_steps w := by
  intro a b u h
  have h10 : ¬ (10 : Int32) = 0 := by decide
  simp only [eX5_steps_0, eX5_steps_1, eX5_steps_3, eX5_steps_4, eX5_steps_5, eX5_steps_7, eX5_steps_8, eX5_steps_9, eX5_steps_12, eX5_steps_13, eX5_steps_15, eX5_steps_16, eX5_steps_17, eX5_steps_19, eX5_steps_20, eX5_steps_21, eX5_steps_24, eX5_steps_27, kl_i, kl_r, kl_n, kl_l, true_and, and_true, true_implies, false_implies, not_true_eq_false, not_false_eq_true, i10, Classical.not_not, h10, pJ9_abs_0f7a4, rJ9_abs_0f7a4, pJ9_max_7cf53, rJ9_max_7cf53, rX5_steps]
  have e1 : absI (a / 10 - b / 10) = apartP (a / 10) (b / 10) := abs_ap (d10_b a) (d10_b b)
  have e2 : absI (a - a / 10 * 10 - (b - b / 10 * 10)) = apartP (rem32 a 10) (rem32 b 10) := abs_ap (r10_b a) (r10_b b)
  rw [e1, e2]
  unfold maxI stepsP
  congr 2
  generalize apartP (a / 10) (b / 10) = x
  generalize apartP (rem32 a 10) (rem32 b 10) = y
  by_cases c : x < y
  · rw [if_pos c, if_neg (fun z => Int32.lt_irrefl (Int32.lt_trans c z))]
  · rw [if_neg c]
    by_cases d : y < x
    · rw [if_pos d]
    · rw [if_neg d]; exact Int32.le_antisymm (Int32.not_lt.mp d) (Int32.not_lt.mp c)
theorem wcX5_65803 : ∀ x ∈ wS1 RX5 267 yJ9_abs_0f7a4 MJ9_abs_0f7a4, x ∈ Gt := by decide +kernel
theorem nmJ9_abs_0f7a4 : nmOk yJ9_abs_0f7a4 1 = true := by decide +kernel
theorem wcX5_65806 : ∀ x ∈ wS1 RX5 270 yJ9_max_7cf53 MJ9_max_7cf53, x ∈ Gt := by decide +kernel
theorem nmJ9_max_7cf53 : nmOk yJ9_max_7cf53 2 = true := by decide +kernel
set_option maxRecDepth 20000 in
theorem KX5_steps_ok (w : WW) : KOk w MX5_steps (KX5_steps w) := KOk_mk flX5_ok ciX5_ok clX5_ok (fun _ _ h => by cases h) (fun _ _ h => by cases h) (List.forall_mem_cons.mpr ⟨itS (n := 267) (COk_S (n := 1) (ctJ9_abs_0f7a4 w) wcX5_65803 nmJ9_abs_0f7a4 (by decide)), List.forall_mem_cons.mpr ⟨itS (n := 270) (COk_S (n := 2) (ctJ9_max_7cf53 w) wcX5_65806 nmJ9_max_7cf53 (by decide)), List.forall_mem_nil _⟩⟩)
theorem ctX5_steps (w : WW) : CT w yX5_steps MX5_steps (csX5_steps w).2.1 (csX5_steps w).2.2 := by
  refine CT_of (by decide) rfl TX5_steps_ok TX5_steps_v (KX5_steps_ok w) (fun as u h => ?_)
  obtain ⟨a0, a1, rfl, h⟩ := sgII h
  have hh := h
  refine ⟨Nat.le_of_ble_eq_true rfl, ?_⟩
  have key := vX5_steps w a0 a1 u hh
  exact key
theorem ost_ost {R : Nat → Int32} {c k : Nat} {v v' : Int32} : ost (ost R c k v) c k v' = ost R c k v' := by
  funext j; simp only [ost, upd]; split <;> rfl
theorem vX5_isNextInTrialFrom (w : WW) : VX5_isNextInTrialFrom w := by
  intro c p s u hw h
  obtain ⟨hv, hc, h5, hs⟩ := h
  have hK := hv.1.K.1
  have hc10 : vp_in c 10 := vi_mono hc hK
  have hc0 : NN c < 10 := vi_lt hc10
  have hs6 : NN s < 6 := vi_lt hs
  have ec : c = nI (NN c) := vi_eq hc10
  have hv2 : Hv (ost (vw u (91 * qT)) (NN c) 1 p) := ost_Hx hv (by decide) (fun z => absurd z (by decide)) (fun _ => h5) (fun z => absurd z (by decide))
  simp only [eX5_isNextInTrialFrom_0, eX5_isNextInTrialFrom_1, eX5_isNextInTrialFrom_4, eX5_isNextInTrialFrom_7, eX5_isNextInTrialFrom_8, eX5_isNextInTrialFrom_9, eX5_isNextInTrialFrom_10, eX5_isNextInTrialFrom_13, eX5_isNextInTrialFrom_14, eX5_isNextInTrialFrom_17, eX5_isNextInTrialFrom_18, eX5_isNextInTrialFrom_21, eX5_isNextInTrialFrom_22, eX5_isNextInTrialFrom_25, eX5_isNextInTrialFrom_26, eX5_isNextInTrialFrom_29, eX5_isNextInTrialFrom_30, kl_i, kl_r, kl_n, kl_l, true_and, and_true, true_implies, false_implies, not_true_eq_false, not_false_eq_true, i10, Classical.not_not, ok_x0, rfP, ok_x1, rfT, ok_x2, rfK, ok_x3, ix_x3, ok_x4, rf_x4, ok_x5, rf_x5, ok_x6, rf_x6, as_fdd, ai_fdd, xa_fdd, rd_fdd, ok_h0 w hqT, rf_h0 w hqT, ok_h1 w hqT, rf_h1 w hqT, ok_h2 w hqT, ix_h2 w hqT, ok_h3 w hqT, ix_h3 w hqT, ok_h4 w hqT, ix_h4 w hqT, ar_sa w hqT, rf_sa w hqT, ar_oa w hqT, rf_oa w hqT, hw_0, hw_1, hw_2, hu_0, hu_1, hu_2, on_vw, on_f, se_vw, se_f, vw_pv, pv_pv, ost_uI, sst_uI, sit_d, may_d, far_d, stay_d, goe_d, stp_d, hOk_h w hqT, hq_hA, hc10, ok_on0 w hqT hc0, ix_on0 w hqT hc0, ok_on1 w hqT hc0, ix_on1 w hqT hc0, ok_on2 w hqT hc0, ix_on2 w hqT hc0, ok_on3 w hqT hc0, ix_on3 w hqT hc0, ok_on4 w hqT hc0, ix_on4 w hqT hc0, ok_on5 w hqT hc0, ix_on5 w hqT hc0, ok_on6 w hqT hc0, ix_on6 w hqT hc0, oOk_on w hqT hc0, fo_on w hqT hc0, hw, pX0_nextFor, rX0_nextFor, hs, hv2, rX5_isNextInTrialFrom, mX5_isNextInTrialFrom, se_ost0 hs6, hd2_ost, Option.some.injEq, Value.int.injEq]
  constructor
  · intro z; refine ⟨nb_0, (bi_f ?_).symm⟩; show ¬ _ = nI (NN c); rw [← ec]; exact z
  · intro z; refine ⟨nb_1, (bi_t ?_).symm⟩; show _ = nI (NN c); rw [← ec]; exact z
theorem wcX5_86 : ∀ x ∈ wV1 RX5 86 yX0_nextFor MX0_nextFor, x ∈ Gt := by decide +kernel
set_option maxRecDepth 20000 in
theorem KX5_isNextInTrialFrom_ok (w : WW) : KOk w MX5_isNextInTrialFrom (KX5_isNextInTrialFrom w) := KOk_mk flX5_ok ciX5_ok clX5_ok (fun _ _ h => by cases h) (fun _ _ h => by cases h) (List.forall_mem_cons.mpr ⟨itV (n := 86) (by decide) (COk_V (n := 1) (ci := 0) (ctX0_nextFor w) wcX5_86 nmX0_nextFor (by decide) (by decide) rfl (prX0_nextFor w)), List.forall_mem_nil _⟩)
theorem ctX5_isNextInTrialFrom (w : WW) : CT w yX5_isNextInTrialFrom MX5_isNextInTrialFrom (csX5_isNextInTrialFrom w).2.1 (csX5_isNextInTrialFrom w).2.2 := by
  refine CT_of (by decide) rfl TX5_isNextInTrialFrom_ok TX5_isNextInTrialFrom_v (KX5_isNextInTrialFrom_ok w) (fun as u h => ?_)
  obtain ⟨a0, a1, a2, a3, rfl, h⟩ := sgRIII h
  obtain ⟨rfl, hwok, hh⟩ := h
  refine ⟨Nat.le_of_ble_eq_true rfl, ?_⟩
  have key := vX5_isNextInTrialFrom w a1 a2 a3 u hwok hh
  exact key
theorem prX5_isNextInTrialFrom (w : WW) : ∀ as u, (csX5_isNextInTrialFrom w).2.1 as u → ∃ a r, as = .ref a :: r ∧ r.length = 3 ∧ okO w a 5 := by
  intro as u h
  obtain ⟨a0, a1, a2, a3, rfl, h⟩ := sgRIII h
  exact ⟨_, _, rfl, rfl, okO_x h⟩
theorem would_ost {R : Nat → Int32} {c : Nat} {p p' : Int32} {s : Nat} (hs : s < 6) : would (ost R c 1 p) c p' s ↔ would R c p' s := by
  rw [would, would, ost_ost, se_ost0 hs, hd2_ost]
theorem wst {c p : Int32} {u v : MM} (h : pX5_worthInTrialFrom c p u) (hv : v = u ∨ v = pv u (91 * qT) (ost (vw u (91 * qT)) (NN c) 1 p)) :
    pX5_worthInTrialFrom c p v ∧ pv v (91 * qT) (ost (vw v (91 * qT)) (NN c) 1 p) = pv u (91 * qT) (ost (vw u (91 * qT)) (NN c) 1 p) ∧ vw v (91 * qT) 1 = vw u (91 * qT) 1 ∧ ∀ s, s < 6 → (would (vw v (91 * qT)) (NN c) p s ↔ would (vw u (91 * qT)) (NN c) p s) := by
  rcases hv with rfl | rfl
  · exact ⟨h, rfl, rfl, fun _ _ => Iff.rfl⟩
  · obtain ⟨h1, h2, h3⟩ := h
    unfold pX5_worthInTrialFrom
    rw [vw_pv, ost_ost, pv_pv, hd1_ost, hd2_ost]
    exact ⟨⟨ost_Hx h1 (by decide) (fun z => absurd z (by decide)) (fun _ => h3) (fun z => absurd z (by decide)), h2, by rw [on_ost_ne (by decide) (by decide) (by decide)]; exact h3⟩, rfl, rfl, fun s hs => would_ost hs⟩
theorem lX5_worthInTrialFrom {w : WW} (hw : wOk w) {c p : Int32} {u : MM} (h : pX5_worthInTrialFrom c p u) {M : Nat} (hM : M ≤ 6) (eM : vw u (91 * qT) 1 = nI M) {Q : Option Value → MM → Prop} (hQ : Q (some (.int (wo (vw u (91 * qT)) (NN c) p M))) (if M = 0 then u else pv u (91 * qT) (ost (vw u (91 * qT)) (NN c) 1 p))) :
    ∀ (n i : Nat) (v : MM), i + n = M → v = (if i = 0 then u else pv u (91 * qT) (ost (vw u (91 * qT)) (NN c) 1 p)) → GX5_worthInTrialFrom w Q 5 [some (.ref (xA w)), some (.int c), some (.int p), some (.int (wo (vw u (91 * qT)) (NN c) p i)), some (.int (nI i))] [] v := by
  intro n
  induction n with
  | zero =>
    intro i v hi hv
    have e : i = M := by omega
    subst e
    have hc : v = u ∨ v = pv u (91 * qT) (ost (vw u (91 * qT)) (NN c) 1 p) := by
      rw [hv]; split
      · exact Or.inl rfl
      · exact Or.inr rfl
    obtain ⟨k1, k2, k3, k4⟩ := wst h hc
    have e1 : vw v (91 * qT) 1 = nI i := k3.trans eM
    have hle : nI i ≤ nI i := nI_le (Nat.le_refl i) (by omega)
    rw [← hv] at hQ
    rw [eX5_worthInTrialFrom_5]
    simp only [eX5_worthInTrialFrom_0, eX5_worthInTrialFrom_1, eX5_worthInTrialFrom_2, eX5_worthInTrialFrom_3, eX5_worthInTrialFrom_7, eX5_worthInTrialFrom_8, eX5_worthInTrialFrom_11, eX5_worthInTrialFrom_14, eX5_worthInTrialFrom_17, eX5_worthInTrialFrom_18, eX5_worthInTrialFrom_19, eX5_worthInTrialFrom_20, eX5_worthInTrialFrom_22, eX5_worthInTrialFrom_25, eX5_worthInTrialFrom_28, eX5_worthInTrialFrom_29, eX5_worthInTrialFrom_30, eX5_worthInTrialFrom_33, eX5_worthInTrialFrom_36, eX5_worthInTrialFrom_38, eX5_worthInTrialFrom_39, eX5_worthInTrialFrom_42, eX5_worthInTrialFrom_43, eX5_worthInTrialFrom_44, eX5_worthInTrialFrom_47, eX5_worthInTrialFrom_50, eX5_worthInTrialFrom_51, kl_i, kl_r, kl_n, kl_l, true_and, and_true, true_implies, false_implies, not_true_eq_false, not_false_eq_true, i10, Classical.not_not, ok_x0, rfP, ok_x1, rfT, ok_x2, rfK, ok_x3, ix_x3, ok_x4, rf_x4, ok_x5, rf_x5, ok_x6, rf_x6, as_fdd, ai_fdd, xa_fdd, rd_fdd, ok_h0 w hqT, rf_h0 w hqT, ok_h1 w hqT, rf_h1 w hqT, ok_h2 w hqT, ix_h2 w hqT, ok_h3 w hqT, ix_h3 w hqT, ok_h4 w hqT, ix_h4 w hqT, ar_sa w hqT, rf_sa w hqT, ar_oa w hqT, rf_oa w hqT, hw_0, hw_1, hw_2, hu_0, hu_1, hu_2, on_vw, on_f, se_vw, se_f, vw_pv, pv_pv, ost_uI, sst_uI, sit_d, may_d, far_d, stay_d, goe_d, stp_d, hOk_h w hqT, hq_hA, e1, hle]
    exact hQ
  | succ n ih =>
    intro i v hi hv
    have hc : v = u ∨ v = pv u (91 * qT) (ost (vw u (91 * qT)) (NN c) 1 p) := by
      rw [hv]; split
      · exact Or.inl rfl
      · exact Or.inr rfl
    obtain ⟨k1, k2, k3, k4⟩ := wst h hc
    have e1 : vw v (91 * qT) 1 = nI M := k3.trans eM
    have hlt : ¬ nI M ≤ nI i := nI_ge (by omega) (by omega)
    have hs : i < 6 := by omega
    have hvi : vp_in (nI i) 6 := vi_nI hs
    have hN : NN (nI i) = i := NN_nI (by omega)
    have hp : pX5_isNextInTrialFrom c p (nI i) v := ⟨k1.1, k1.2.1, k1.2.2, hvi⟩
    have es : se (ost (vw u (91 * qT)) (NN c) 1 p) i 1 = se (vw u (91 * qT)) i 1 := se_ost1 hs
    have go : ∀ x : Int32, x = wo (vw u (91 * qT)) (NN c) p (i + 1) → GX5_worthInTrialFrom w Q 5 [some (.ref (xA w)), some (.int c), some (.int p), some (.int x), some (.int (nI i + 1))] [] (pv u (91 * qT) (ost (vw u (91 * qT)) (NN c) 1 p)) := fun x e => by
      rw [nI_1, e]; exact ih (i + 1) _ (by omega) (by rw [if_neg (by omega)])
    rw [eX5_worthInTrialFrom_5]
    simp only [eX5_worthInTrialFrom_0, eX5_worthInTrialFrom_1, eX5_worthInTrialFrom_2, eX5_worthInTrialFrom_3, eX5_worthInTrialFrom_7, eX5_worthInTrialFrom_8, eX5_worthInTrialFrom_11, eX5_worthInTrialFrom_14, eX5_worthInTrialFrom_17, eX5_worthInTrialFrom_18, eX5_worthInTrialFrom_19, eX5_worthInTrialFrom_20, eX5_worthInTrialFrom_22, eX5_worthInTrialFrom_25, eX5_worthInTrialFrom_28, eX5_worthInTrialFrom_29, eX5_worthInTrialFrom_30, eX5_worthInTrialFrom_33, eX5_worthInTrialFrom_36, eX5_worthInTrialFrom_38, eX5_worthInTrialFrom_39, eX5_worthInTrialFrom_42, eX5_worthInTrialFrom_43, eX5_worthInTrialFrom_44, eX5_worthInTrialFrom_47, eX5_worthInTrialFrom_50, eX5_worthInTrialFrom_51, kl_i, kl_r, kl_n, kl_l, true_and, and_true, true_implies, false_implies, not_true_eq_false, not_false_eq_true, i10, Classical.not_not, ok_x0, rfP, ok_x1, rfT, ok_x2, rfK, ok_x3, ix_x3, ok_x4, rf_x4, ok_x5, rf_x5, ok_x6, rf_x6, as_fdd, ai_fdd, xa_fdd, rd_fdd, ok_h0 w hqT, rf_h0 w hqT, ok_h1 w hqT, rf_h1 w hqT, ok_h2 w hqT, ix_h2 w hqT, ok_h3 w hqT, ix_h3 w hqT, ok_h4 w hqT, ix_h4 w hqT, ar_sa w hqT, rf_sa w hqT, ar_oa w hqT, rf_oa w hqT, hw_0, hw_1, hw_2, hu_0, hu_1, hu_2, on_vw, on_f, se_vw, se_f, vw_pv, pv_pv, ost_uI, sst_uI, sit_d, may_d, far_d, stay_d, goe_d, stp_d, hOk_h w hqT, hq_hA, e1, hlt, hw, eq_true hp, rX5_isNextInTrialFrom, mX5_isNextInTrialFrom, k2, hN, k4 i hs, bi_0, hvi, ok_se0 w hqT hs, ix_se0 w hqT hs, ok_se1 w hqT hs, ix_se1 w hqT hs, ok_se2 w hqT hs, ix_se2 w hqT hs, eOk_se w hqT hs, fo_se w hqT hs, es]
    refine ⟨fun z => go _ ?_, fun z => go _ ?_⟩
    · simp only [wo]; rw [if_neg z, Int32.add_zero]
    · simp only [wo]; rw [if_pos z]
theorem vX5_worthInTrialFrom (w : WW) : VX5_worthInTrialFrom w := by
  intro c p u hw h
  obtain ⟨M, hM, eM⟩ := h.1.1.1
  have hN : NN (nI M) = M := NN_nI (by omega)
  simp only [eX5_worthInTrialFrom_0, eX5_worthInTrialFrom_1, eX5_worthInTrialFrom_2, eX5_worthInTrialFrom_3, eX5_worthInTrialFrom_7, eX5_worthInTrialFrom_8, eX5_worthInTrialFrom_11, eX5_worthInTrialFrom_14, eX5_worthInTrialFrom_17, eX5_worthInTrialFrom_18, eX5_worthInTrialFrom_19, eX5_worthInTrialFrom_20, eX5_worthInTrialFrom_22, eX5_worthInTrialFrom_25, eX5_worthInTrialFrom_28, eX5_worthInTrialFrom_29, eX5_worthInTrialFrom_30, eX5_worthInTrialFrom_33, eX5_worthInTrialFrom_36, eX5_worthInTrialFrom_38, eX5_worthInTrialFrom_39, eX5_worthInTrialFrom_42, eX5_worthInTrialFrom_43, eX5_worthInTrialFrom_44, eX5_worthInTrialFrom_47, eX5_worthInTrialFrom_50, eX5_worthInTrialFrom_51, kl_i, kl_r, kl_n, kl_l, true_and, and_true, true_implies, false_implies, not_true_eq_false, not_false_eq_true, i10, Classical.not_not]
  exact lX5_worthInTrialFrom hw h hM eM ⟨by rw [rX5_worthInTrialFrom, eM, hN], by rw [mX5_worthInTrialFrom, eM, hN]⟩ M 0 u (by omega) rfl
theorem wcX5_205 : ∀ x ∈ wV1 RX5 205 yX5_isNextInTrialFrom MX5_isNextInTrialFrom, x ∈ Gt := by decide +kernel
theorem nmX5_isNextInTrialFrom : nmOk yX5_isNextInTrialFrom 3 = true := by decide +kernel
set_option maxRecDepth 20000 in
theorem KX5_worthInTrialFrom_ok (w : WW) : KOk w MX5_worthInTrialFrom (KX5_worthInTrialFrom w) := KOk_mk flX5_ok ciX5_ok clX5_ok (fun _ _ h => by cases h) (fun _ _ h => by cases h) (List.forall_mem_cons.mpr ⟨itV (n := 205) (by decide) (COk_V (n := 3) (ci := 5) (ctX5_isNextInTrialFrom w) wcX5_205 nmX5_isNextInTrialFrom (by decide) (by decide) rfl (prX5_isNextInTrialFrom w)), List.forall_mem_nil _⟩)
theorem ctX5_worthInTrialFrom (w : WW) : CT w yX5_worthInTrialFrom MX5_worthInTrialFrom (csX5_worthInTrialFrom w).2.1 (csX5_worthInTrialFrom w).2.2 := by
  refine CT_of (by decide) rfl TX5_worthInTrialFrom_ok TX5_worthInTrialFrom_v (KX5_worthInTrialFrom_ok w) (fun as u h => ?_)
  obtain ⟨a0, a1, a2, rfl, h⟩ := sgRII h
  obtain ⟨rfl, hwok, hh⟩ := h
  refine ⟨Nat.le_of_ble_eq_true rfl, ?_⟩
  have key := vX5_worthInTrialFrom w a1 a2 u hwok hh
  exact key
theorem prX5_worthInTrialFrom (w : WW) : ∀ as u, (csX5_worthInTrialFrom w).2.1 as u → ∃ a r, as = .ref a :: r ∧ r.length = 2 ∧ okO w a 5 := by
  intro as u h
  obtain ⟨a0, a1, a2, rfl, h⟩ := sgRII h
  exact ⟨_, _, rfl, rfl, okO_x h⟩
theorem vX5_coughInTrial (w : WW) : VX5_coughInTrial w := by
  intro s u hw h
  obtain ⟨hv, hs⟩ := h
  have hs6 : vp_in s 6 := vi_mono hs hv.1.M.1
  have hb := Hv.b hv (vi_lt hs)
  simp only [eX5_coughInTrial_0, eX5_coughInTrial_1, eX5_coughInTrial_4, eX5_coughInTrial_5, eX5_coughInTrial_8, eX5_coughInTrial_9, eX5_coughInTrial_10, eX5_coughInTrial_13, eX5_coughInTrial_14, eX5_coughInTrial_17, eX5_coughInTrial_18, kl_i, kl_r, kl_n, kl_l, true_and, and_true, true_implies, false_implies, not_true_eq_false, not_false_eq_true, i10, Classical.not_not, ok_x0, rfP, ok_x1, rfT, ok_x2, rfK, ok_x3, ix_x3, ok_x4, rf_x4, ok_x5, rf_x5, ok_x6, rf_x6, as_fdd, ai_fdd, xa_fdd, rd_fdd, ok_h0 w hqT, rf_h0 w hqT, ok_h1 w hqT, rf_h1 w hqT, ok_h2 w hqT, ix_h2 w hqT, ok_h3 w hqT, ix_h3 w hqT, ok_h4 w hqT, ix_h4 w hqT, ar_sa w hqT, rf_sa w hqT, ar_oa w hqT, rf_oa w hqT, hw_0, hw_1, hw_2, hu_0, hu_1, hu_2, on_vw, on_f, se_vw, se_f, vw_pv, pv_pv, ost_uI, sst_uI, sit_d, may_d, far_d, stay_d, goe_d, stp_d, hOk_h w hqT, hq_hA, hw, pX0_isHeld, hs6, rX0_isHeld, pX0_makeRise, hs, hv, rX5_coughInTrial, mX5_coughInTrial, nb_bi]
  rw [bi_cong (show (¬ se (vw u (91 * qT)) (NN s) 2 = -1) ↔ ¬ se (vw u (91 * qT)) (NN s) 2 < 0 from not_congr hb.neg.symm)]
theorem wcX5_162 : ∀ x ∈ wV1 RX5 162 yX0_isHeld MX0_isHeld, x ∈ Gt := by decide +kernel
theorem wcX5_165 : ∀ x ∈ wV1 RX5 165 yX0_makeRise MX0_makeRise, x ∈ Gt := by decide +kernel
set_option maxRecDepth 20000 in
theorem KX5_coughInTrial_ok (w : WW) : KOk w MX5_coughInTrial (KX5_coughInTrial w) := KOk_mk flX5_ok ciX5_ok clX5_ok (fun _ _ h => by cases h) (fun _ _ h => by cases h) (List.forall_mem_cons.mpr ⟨itV (n := 162) (by decide) (COk_V (n := 1) (ci := 0) (ctX0_isHeld w) wcX5_162 nmX0_isHeld (by decide) (by decide) rfl (prX0_isHeld w)), List.forall_mem_cons.mpr ⟨itV (n := 165) (by decide) (COk_V (n := 1) (ci := 0) (ctX0_makeRise w) wcX5_165 nmX0_makeRise (by decide) (by decide) rfl (prX0_makeRise w)), List.forall_mem_nil _⟩⟩)
theorem ctX5_coughInTrial (w : WW) : CT w yX5_coughInTrial MX5_coughInTrial (csX5_coughInTrial w).2.1 (csX5_coughInTrial w).2.2 := by
  refine CT_of (by decide) rfl TX5_coughInTrial_ok TX5_coughInTrial_v (KX5_coughInTrial_ok w) (fun as u h => ?_)
  obtain ⟨a0, a1, rfl, h⟩ := sgRI h
  obtain ⟨rfl, hwok, hh⟩ := h
  refine ⟨Nat.le_of_ble_eq_true rfl, ?_⟩
  have key := vX5_coughInTrial w a1 u hwok hh
  exact key
theorem prX5_coughInTrial (w : WW) : ∀ as u, (csX5_coughInTrial w).2.1 as u → ∃ a r, as = .ref a :: r ∧ r.length = 1 ∧ okO w a 5 := by
  intro as u h
  obtain ⟨a0, a1, rfl, h⟩ := sgRI h
  exact ⟨_, _, rfl, rfl, okO_x h⟩
