/-! ===== the class's ones and seats become others; sheets ===== -/
def cp1 (b c k : Nat) (u : MM) : MM := uI u (b + k) (u.1 (c + k))
def pX1_become (_ _ : Nat) (_ : MM) : Prop := True
def mX1_become (b c : Nat) (u : MM) : MM := cp1 b c 6 (cp1 b c 5 (cp1 b c 4 (cp1 b c 3 (cp1 b c 2 (cp1 b c 1 (cp1 b c 0 u))))))
def pX2_become (_ _ : Nat) (_ : MM) : Prop := True
def mX2_become (b c : Nat) (u : MM) : MM := cp1 b c 2 (cp1 b c 1 (cp1 b c 0 u))
def pX3_isMissing (_ : Nat) (_ : MM) : Prop := True
def rX3_isMissing (s : Nat) (u : MM) : Int32 := bi (u.1 (430 + 2 * s) = 0)
def pX3_hasPart (_ : Nat) (_ _ : Int32) (_ : MM) : Prop := True
def rX3_hasPart (s : Nat) (f n : Int32) (u : MM) : Int32 := bi (0 ≤ f ∧ 0 ≤ n ∧ f ≤ u.1 (430 + 2 * s + 1) - n)
def flX2 : List (Nat × (Nat × Nat × Nat)) := [(7, (2, 0, 0)), (13, (2, 1, 0)), (16, (2, 2, 0))]
def ciX2 : List (Nat × Int32) := []
def clX2 : List (Nat × Int64) := []
theorem flX2_ok : (flX2.all fun q => fOk RX2 q.1 q.2.1 q.2.2.1 q.2.2.2) = true := by decide +kernel
theorem ciX2_ok : (ciX2.all fun q => decide (Cond.constant RX2 q.1 q.2 ∈ Gt)) = true := by decide +kernel
theorem clX2_ok : (clX2.all fun q => decide (Cond.constantLong RX2 q.1 q.2 ∈ Gt)) = true := by decide +kernel
def flX3 : List (Nat × (Nat × Nat × Nat)) := [(9, (3, 0, 2)), (15, (3, 1, 0)), (19, (3, 2, 0))]
def ciX3 : List (Nat × Int32) := []
def clX3 : List (Nat × Int64) := []
theorem flX3_ok : (flX3.all fun q => fOk RX3 q.1 q.2.1 q.2.2.1 q.2.2.2) = true := by decide +kernel
theorem ciX3_ok : (ciX3.all fun q => decide (Cond.constant RX3 q.1 q.2 ∈ Gt)) = true := by decide +kernel
theorem clX3_ok : (clX3.all fun q => decide (Cond.constantLong RX3 q.1 q.2 ∈ Gt)) = true := by decide +kernel
def MX1_become : MI := (cX1_become, 2, none, RX1, { frames := 0, cells := 0, slots := 0, locals := 0 })
def TX1_become : TB := [(0, .aload_n 0, 1, []), (1, .aload_n 1, 1, []), (2, .getfield 9, 3, []), (5, .putfield 9, 3, []), (8, .aload_n 0, 1, []), (9, .aload_n 1, 1, []), (10, .getfield 15, 3, []), (13, .putfield 15, 3, []), (16, .aload_n 0, 1, []), (17, .aload_n 1, 1, []), (18, .getfield 18, 3, []), (21, .putfield 18, 3, []), (24, .aload_n 0, 1, []), (25, .aload_n 1, 1, []), (26, .getfield 21, 3, []), (29, .putfield 21, 3, []), (32, .aload_n 0, 1, []), (33, .aload_n 1, 1, []), (34, .getfield 24, 3, []), (37, .putfield 24, 3, []), (40, .aload_n 0, 1, []), (41, .aload_n 1, 1, []), (42, .getfield 27, 3, []), (45, .putfield 27, 3, []), (48, .aload_n 0, 1, []), (49, .aload_n 1, 1, []), (50, .getfield 30, 3, []), (53, .putfield 30, 3, []), (56, .return_, 1, [])]
set_option maxRecDepth 20000 in
theorem TX1_become_ok : TX1_become.all (chk MX1_become.1) = true := by decide +kernel
theorem TX1_become_v : TX1_become.all vOk = true := by decide +kernel
def csX1_become (w : WW) : CS := (2, fun as u => match as with | [.ref a0, .ref a1] => oOk w a0 ∧ oOk w a1 ∧ pX1_become (fo w a0) (fo w a1) u | _ => False, fun as u => match as with | [.ref a0, .ref a1] => (none, (mX1_become (fo w a0) (fo w a1) u)) | _ => (none, u))
def MX2_become : MI := (cX2_become, 2, none, RX2, { frames := 0, cells := 0, slots := 0, locals := 0 })
def TX2_become : TB := [(0, .aload_n 0, 1, []), (1, .aload_n 1, 1, []), (2, .getfield 7, 3, []), (5, .putfield 7, 3, []), (8, .aload_n 0, 1, []), (9, .aload_n 1, 1, []), (10, .getfield 13, 3, []), (13, .putfield 13, 3, []), (16, .aload_n 0, 1, []), (17, .aload_n 1, 1, []), (18, .getfield 16, 3, []), (21, .putfield 16, 3, []), (24, .return_, 1, [])]
set_option maxRecDepth 20000 in
theorem TX2_become_ok : TX2_become.all (chk MX2_become.1) = true := by decide +kernel
theorem TX2_become_v : TX2_become.all vOk = true := by decide +kernel
def csX2_become (w : WW) : CS := (2, fun as u => match as with | [.ref a0, .ref a1] => eOk w a0 ∧ eOk w a1 ∧ pX2_become (fo w a0) (fo w a1) u | _ => False, fun as u => match as with | [.ref a0, .ref a1] => (none, (mX2_become (fo w a0) (fo w a1) u)) | _ => (none, u))
def MX3_isMissing : MI := (cX3_isMissing, 1, some .boolean, RX3, { frames := 0, cells := 0, slots := 0, locals := 0 })
def TX3_isMissing : TB := [(0, .aload_n 0, 1, []), (1, .getfield 15, 3, []), (4, .ifCond .ne 7, 3, [11]), (7, .iconst 1, 1, []), (8, .goto 4, 3, [12]), (11, .iconst 0, 1, []), (12, .ireturn, 1, [])]
set_option maxRecDepth 20000 in
theorem TX3_isMissing_ok : TX3_isMissing.all (chk MX3_isMissing.1) = true := by decide +kernel
theorem TX3_isMissing_v : TX3_isMissing.all vOk = true := by decide +kernel
def csX3_isMissing (w : WW) : CS := (1, fun as u => match as with | [.ref a0] => tOk w a0 ∧ pX3_isMissing (tq w a0) u | _ => False, fun as u => match as with | [.ref a0] => (some (.int (rX3_isMissing (tq w a0) u)), u) | _ => (none, u))
def MX3_hasPart : MI := (cX3_hasPart, 3, some .boolean, RX3, { frames := 0, cells := 0, slots := 0, locals := 0 })
def TX3_hasPart : TB := [(0, .iload_n 1, 1, []), (1, .ifCond .lt 21, 3, [22]), (4, .iload_n 2, 1, []), (5, .ifCond .lt 17, 3, [22]), (8, .iload_n 1, 1, []), (9, .aload_n 0, 1, []), (10, .getfield 19, 3, []), (13, .iload_n 2, 1, []), (14, .isub, 1, []), (15, .if_icmp .gt 7, 3, [22]), (18, .iconst 1, 1, []), (19, .goto 4, 3, [23]), (22, .iconst 0, 1, []), (23, .ireturn, 1, [])]
set_option maxRecDepth 20000 in
theorem TX3_hasPart_ok : TX3_hasPart.all (chk MX3_hasPart.1) = true := by decide +kernel
theorem TX3_hasPart_v : TX3_hasPart.all vOk = true := by decide +kernel
def csX3_hasPart (w : WW) : CS := (3, fun as u => match as with | [.ref a0, .int a1, .int a2] => tOk w a0 ∧ pX3_hasPart (tq w a0) a1 a2 u | _ => False, fun as u => match as with | [.ref a0, .int a1, .int a2] => (some (.int (rX3_hasPart (tq w a0) a1 a2 u)), u) | _ => (none, u))
def KX1_become (w : WW) : KT := (al flX1, al ciX1, al clX1, al [(33, 0), (37, 1), (40, 2), (43, 3)], fun _ => none, al [])
abbrev GX1_become (w : WW) (Q : Option Value → MM → Prop) : Nat → LL → List Value → MM → Prop := WP w MX1_become TX1_become (KX1_become w) Q
section
variable {w : WW} {Q : Option Value → MM → Prop} {u : MM}
theorem eX1_become_0 {l1 : Option Value} {st : List Value} {x : Nat} : GX1_become w Q 0 [some (.ref x), l1] st u ↔ GX1_become w Q 1 [some (.ref x), l1] (.ref x :: st) u := WP_u (.aload_n 0) [] rfl
theorem eX1_become_1 {l0 : Option Value} {st : List Value} {x : Nat} : GX1_become w Q 1 [l0, some (.ref x)] st u ↔ GX1_become w Q 2 [l0, some (.ref x)] (.ref x :: st) u := WP_u (.aload_n 1) [] rfl
theorem eX1_become_2 {l0 l1 : Option Value} {st : List Value} {a : Nat} : GX1_become w Q 2 [l0, l1] (.ref a :: st) u ↔ okI w a 1 0 ∧ GX1_become w Q 5 [l0, l1] (.int (u.1 (ixI w a 0)) :: st) u := (WP_u (.getfield 9) [] rfl).trans ex_and
theorem eX1_become_5 {l0 l1 : Option Value} {st : List Value} {a : Nat} {x : Int32} : GX1_become w Q 5 [l0, l1] (.int x :: .ref a :: st) u ↔ okI w a 1 0 ∧ GX1_become w Q 8 [l0, l1] st (uI u (ixI w a 0) x) := (WP_u (.putfield 9) [] rfl).trans ex_and
theorem eX1_become_8 {l1 : Option Value} {st : List Value} {x : Nat} : GX1_become w Q 8 [some (.ref x), l1] st u ↔ GX1_become w Q 9 [some (.ref x), l1] (.ref x :: st) u := WP_u (.aload_n 0) [] rfl
theorem eX1_become_9 {l0 : Option Value} {st : List Value} {x : Nat} : GX1_become w Q 9 [l0, some (.ref x)] st u ↔ GX1_become w Q 10 [l0, some (.ref x)] (.ref x :: st) u := WP_u (.aload_n 1) [] rfl
theorem eX1_become_10 {l0 l1 : Option Value} {st : List Value} {a : Nat} : GX1_become w Q 10 [l0, l1] (.ref a :: st) u ↔ okI w a 1 1 ∧ GX1_become w Q 13 [l0, l1] (.int (u.1 (ixI w a 1)) :: st) u := (WP_u (.getfield 15) [] rfl).trans ex_and
theorem eX1_become_13 {l0 l1 : Option Value} {st : List Value} {a : Nat} {x : Int32} : GX1_become w Q 13 [l0, l1] (.int x :: .ref a :: st) u ↔ okI w a 1 1 ∧ GX1_become w Q 16 [l0, l1] st (uI u (ixI w a 1) x) := (WP_u (.putfield 15) [] rfl).trans ex_and
theorem eX1_become_16 {l1 : Option Value} {st : List Value} {x : Nat} : GX1_become w Q 16 [some (.ref x), l1] st u ↔ GX1_become w Q 17 [some (.ref x), l1] (.ref x :: st) u := WP_u (.aload_n 0) [] rfl
theorem eX1_become_17 {l0 : Option Value} {st : List Value} {x : Nat} : GX1_become w Q 17 [l0, some (.ref x)] st u ↔ GX1_become w Q 18 [l0, some (.ref x)] (.ref x :: st) u := WP_u (.aload_n 1) [] rfl
theorem eX1_become_18 {l0 l1 : Option Value} {st : List Value} {a : Nat} : GX1_become w Q 18 [l0, l1] (.ref a :: st) u ↔ okI w a 1 2 ∧ GX1_become w Q 21 [l0, l1] (.int (u.1 (ixI w a 2)) :: st) u := (WP_u (.getfield 18) [] rfl).trans ex_and
theorem eX1_become_21 {l0 l1 : Option Value} {st : List Value} {a : Nat} {x : Int32} : GX1_become w Q 21 [l0, l1] (.int x :: .ref a :: st) u ↔ okI w a 1 2 ∧ GX1_become w Q 24 [l0, l1] st (uI u (ixI w a 2) x) := (WP_u (.putfield 18) [] rfl).trans ex_and
theorem eX1_become_24 {l1 : Option Value} {st : List Value} {x : Nat} : GX1_become w Q 24 [some (.ref x), l1] st u ↔ GX1_become w Q 25 [some (.ref x), l1] (.ref x :: st) u := WP_u (.aload_n 0) [] rfl
theorem eX1_become_25 {l0 : Option Value} {st : List Value} {x : Nat} : GX1_become w Q 25 [l0, some (.ref x)] st u ↔ GX1_become w Q 26 [l0, some (.ref x)] (.ref x :: st) u := WP_u (.aload_n 1) [] rfl
theorem eX1_become_26 {l0 l1 : Option Value} {st : List Value} {a : Nat} : GX1_become w Q 26 [l0, l1] (.ref a :: st) u ↔ okI w a 1 3 ∧ GX1_become w Q 29 [l0, l1] (.int (u.1 (ixI w a 3)) :: st) u := (WP_u (.getfield 21) [] rfl).trans ex_and
theorem eX1_become_29 {l0 l1 : Option Value} {st : List Value} {a : Nat} {x : Int32} : GX1_become w Q 29 [l0, l1] (.int x :: .ref a :: st) u ↔ okI w a 1 3 ∧ GX1_become w Q 32 [l0, l1] st (uI u (ixI w a 3) x) := (WP_u (.putfield 21) [] rfl).trans ex_and
theorem eX1_become_32 {l1 : Option Value} {st : List Value} {x : Nat} : GX1_become w Q 32 [some (.ref x), l1] st u ↔ GX1_become w Q 33 [some (.ref x), l1] (.ref x :: st) u := WP_u (.aload_n 0) [] rfl
theorem eX1_become_33 {l0 : Option Value} {st : List Value} {x : Nat} : GX1_become w Q 33 [l0, some (.ref x)] st u ↔ GX1_become w Q 34 [l0, some (.ref x)] (.ref x :: st) u := WP_u (.aload_n 1) [] rfl
theorem eX1_become_34 {l0 l1 : Option Value} {st : List Value} {a : Nat} : GX1_become w Q 34 [l0, l1] (.ref a :: st) u ↔ okI w a 1 4 ∧ GX1_become w Q 37 [l0, l1] (.int (u.1 (ixI w a 4)) :: st) u := (WP_u (.getfield 24) [] rfl).trans ex_and
theorem eX1_become_37 {l0 l1 : Option Value} {st : List Value} {a : Nat} {x : Int32} : GX1_become w Q 37 [l0, l1] (.int x :: .ref a :: st) u ↔ okI w a 1 4 ∧ GX1_become w Q 40 [l0, l1] st (uI u (ixI w a 4) x) := (WP_u (.putfield 24) [] rfl).trans ex_and
theorem eX1_become_40 {l1 : Option Value} {st : List Value} {x : Nat} : GX1_become w Q 40 [some (.ref x), l1] st u ↔ GX1_become w Q 41 [some (.ref x), l1] (.ref x :: st) u := WP_u (.aload_n 0) [] rfl
theorem eX1_become_41 {l0 : Option Value} {st : List Value} {x : Nat} : GX1_become w Q 41 [l0, some (.ref x)] st u ↔ GX1_become w Q 42 [l0, some (.ref x)] (.ref x :: st) u := WP_u (.aload_n 1) [] rfl
theorem eX1_become_42 {l0 l1 : Option Value} {st : List Value} {a : Nat} : GX1_become w Q 42 [l0, l1] (.ref a :: st) u ↔ okI w a 1 5 ∧ GX1_become w Q 45 [l0, l1] (.int (u.1 (ixI w a 5)) :: st) u := (WP_u (.getfield 27) [] rfl).trans ex_and
theorem eX1_become_45 {l0 l1 : Option Value} {st : List Value} {a : Nat} {x : Int32} : GX1_become w Q 45 [l0, l1] (.int x :: .ref a :: st) u ↔ okI w a 1 5 ∧ GX1_become w Q 48 [l0, l1] st (uI u (ixI w a 5) x) := (WP_u (.putfield 27) [] rfl).trans ex_and
theorem eX1_become_48 {l1 : Option Value} {st : List Value} {x : Nat} : GX1_become w Q 48 [some (.ref x), l1] st u ↔ GX1_become w Q 49 [some (.ref x), l1] (.ref x :: st) u := WP_u (.aload_n 0) [] rfl
theorem eX1_become_49 {l0 : Option Value} {st : List Value} {x : Nat} : GX1_become w Q 49 [l0, some (.ref x)] st u ↔ GX1_become w Q 50 [l0, some (.ref x)] (.ref x :: st) u := WP_u (.aload_n 1) [] rfl
theorem eX1_become_50 {l0 l1 : Option Value} {st : List Value} {a : Nat} : GX1_become w Q 50 [l0, l1] (.ref a :: st) u ↔ okI w a 1 6 ∧ GX1_become w Q 53 [l0, l1] (.int (u.1 (ixI w a 6)) :: st) u := (WP_u (.getfield 30) [] rfl).trans ex_and
theorem eX1_become_53 {l0 l1 : Option Value} {st : List Value} {a : Nat} {x : Int32} : GX1_become w Q 53 [l0, l1] (.int x :: .ref a :: st) u ↔ okI w a 1 6 ∧ GX1_become w Q 56 [l0, l1] st (uI u (ixI w a 6) x) := (WP_u (.putfield 30) [] rfl).trans ex_and
theorem eX1_become_56 {l0 l1 : Option Value} : GX1_become w Q 56 [l0, l1] [] u ↔ Q none u := (WP_u (.return_) [] rfl).trans ex_k
end
def VX1_become (w : WW) : Prop := ∀ (a0 : Nat) (a1 : Nat) (u : MM), oOk w a0 → oOk w a1 → pX1_become (fo w a0) (fo w a1) u → GX1_become w (fun r u' => r = none ∧ u' = (mX1_become (fo w a0) (fo w a1) u)) 0 [some (.ref a0), some (.ref a1)] [] u
def KX2_become (w : WW) : KT := (al flX2, al ciX2, al clX2, fun _ => none, fun _ => none, al [])
abbrev GX2_become (w : WW) (Q : Option Value → MM → Prop) : Nat → LL → List Value → MM → Prop := WP w MX2_become TX2_become (KX2_become w) Q
section
variable {w : WW} {Q : Option Value → MM → Prop} {u : MM}
theorem eX2_become_0 {l1 : Option Value} {st : List Value} {x : Nat} : GX2_become w Q 0 [some (.ref x), l1] st u ↔ GX2_become w Q 1 [some (.ref x), l1] (.ref x :: st) u := WP_u (.aload_n 0) [] rfl
theorem eX2_become_1 {l0 : Option Value} {st : List Value} {x : Nat} : GX2_become w Q 1 [l0, some (.ref x)] st u ↔ GX2_become w Q 2 [l0, some (.ref x)] (.ref x :: st) u := WP_u (.aload_n 1) [] rfl
theorem eX2_become_2 {l0 l1 : Option Value} {st : List Value} {a : Nat} : GX2_become w Q 2 [l0, l1] (.ref a :: st) u ↔ okI w a 2 0 ∧ GX2_become w Q 5 [l0, l1] (.int (u.1 (ixI w a 0)) :: st) u := (WP_u (.getfield 7) [] rfl).trans ex_and
theorem eX2_become_5 {l0 l1 : Option Value} {st : List Value} {a : Nat} {x : Int32} : GX2_become w Q 5 [l0, l1] (.int x :: .ref a :: st) u ↔ okI w a 2 0 ∧ GX2_become w Q 8 [l0, l1] st (uI u (ixI w a 0) x) := (WP_u (.putfield 7) [] rfl).trans ex_and
theorem eX2_become_8 {l1 : Option Value} {st : List Value} {x : Nat} : GX2_become w Q 8 [some (.ref x), l1] st u ↔ GX2_become w Q 9 [some (.ref x), l1] (.ref x :: st) u := WP_u (.aload_n 0) [] rfl
theorem eX2_become_9 {l0 : Option Value} {st : List Value} {x : Nat} : GX2_become w Q 9 [l0, some (.ref x)] st u ↔ GX2_become w Q 10 [l0, some (.ref x)] (.ref x :: st) u := WP_u (.aload_n 1) [] rfl
theorem eX2_become_10 {l0 l1 : Option Value} {st : List Value} {a : Nat} : GX2_become w Q 10 [l0, l1] (.ref a :: st) u ↔ okI w a 2 1 ∧ GX2_become w Q 13 [l0, l1] (.int (u.1 (ixI w a 1)) :: st) u := (WP_u (.getfield 13) [] rfl).trans ex_and
theorem eX2_become_13 {l0 l1 : Option Value} {st : List Value} {a : Nat} {x : Int32} : GX2_become w Q 13 [l0, l1] (.int x :: .ref a :: st) u ↔ okI w a 2 1 ∧ GX2_become w Q 16 [l0, l1] st (uI u (ixI w a 1) x) := (WP_u (.putfield 13) [] rfl).trans ex_and
theorem eX2_become_16 {l1 : Option Value} {st : List Value} {x : Nat} : GX2_become w Q 16 [some (.ref x), l1] st u ↔ GX2_become w Q 17 [some (.ref x), l1] (.ref x :: st) u := WP_u (.aload_n 0) [] rfl
theorem eX2_become_17 {l0 : Option Value} {st : List Value} {x : Nat} : GX2_become w Q 17 [l0, some (.ref x)] st u ↔ GX2_become w Q 18 [l0, some (.ref x)] (.ref x :: st) u := WP_u (.aload_n 1) [] rfl
theorem eX2_become_18 {l0 l1 : Option Value} {st : List Value} {a : Nat} : GX2_become w Q 18 [l0, l1] (.ref a :: st) u ↔ okI w a 2 2 ∧ GX2_become w Q 21 [l0, l1] (.int (u.1 (ixI w a 2)) :: st) u := (WP_u (.getfield 16) [] rfl).trans ex_and
theorem eX2_become_21 {l0 l1 : Option Value} {st : List Value} {a : Nat} {x : Int32} : GX2_become w Q 21 [l0, l1] (.int x :: .ref a :: st) u ↔ okI w a 2 2 ∧ GX2_become w Q 24 [l0, l1] st (uI u (ixI w a 2) x) := (WP_u (.putfield 16) [] rfl).trans ex_and
theorem eX2_become_24 {l0 l1 : Option Value} : GX2_become w Q 24 [l0, l1] [] u ↔ Q none u := (WP_u (.return_) [] rfl).trans ex_k
end
def VX2_become (w : WW) : Prop := ∀ (a0 : Nat) (a1 : Nat) (u : MM), eOk w a0 → eOk w a1 → pX2_become (fo w a0) (fo w a1) u → GX2_become w (fun r u' => r = none ∧ u' = (mX2_become (fo w a0) (fo w a1) u)) 0 [some (.ref a0), some (.ref a1)] [] u
def KX3_isMissing (w : WW) : KT := (al flX3, al ciX3, al clX3, fun _ => none, fun _ => none, al [])
abbrev GX3_isMissing (w : WW) (Q : Option Value → MM → Prop) : Nat → LL → List Value → MM → Prop := WP w MX3_isMissing TX3_isMissing (KX3_isMissing w) Q
section
variable {w : WW} {Q : Option Value → MM → Prop} {u : MM}
theorem eX3_isMissing_0 {st : List Value} {x : Nat} : GX3_isMissing w Q 0 [some (.ref x)] st u ↔ GX3_isMissing w Q 1 [some (.ref x)] (.ref x :: st) u := WP_u (.aload_n 0) [] rfl
theorem eX3_isMissing_1 {l0 : Option Value} {st : List Value} {a : Nat} : GX3_isMissing w Q 1 [l0] (.ref a :: st) u ↔ okI w a 3 1 ∧ GX3_isMissing w Q 4 [l0] (.int (u.1 (ixI w a 1)) :: st) u := (WP_u (.getfield 15) [] rfl).trans ex_and
theorem eX3_isMissing_4 {l0 : Option Value} {st : List Value} {x : Int32} : GX3_isMissing w Q 4 [l0] (.int x :: st) u ↔ (¬ x = 0 → GX3_isMissing w Q 11 [l0] st u) ∧ (¬ (¬ x = 0) → GX3_isMissing w Q 7 [l0] st u) := (WP_u (.ifCond .ne 7) [11] rfl).trans ex_br
theorem eX3_isMissing_7 {l0 : Option Value} {st : List Value} : GX3_isMissing w Q 7 [l0] st u ↔ GX3_isMissing w Q 8 [l0] (.int 1 :: st) u := WP_iconst rfl (by decide)
theorem eX3_isMissing_8 {l0 : Option Value} {st : List Value} : GX3_isMissing w Q 8 [l0] st u ↔ GX3_isMissing w Q 12 [l0] st u := WP_u (.goto 4) [12] rfl
theorem eX3_isMissing_11 {l0 : Option Value} {st : List Value} : GX3_isMissing w Q 11 [l0] st u ↔ GX3_isMissing w Q 12 [l0] (.int 0 :: st) u := WP_iconst rfl (by decide)
theorem eX3_isMissing_12 {l0 : Option Value} {x : Int32} : GX3_isMissing w Q 12 [l0] [.int x] u ↔ nb x ∧ Q (some (.int x)) u := (WP_u (.ireturn) [] rfl).trans ex_k
end
def VX3_isMissing (w : WW) : Prop := ∀ (s : Nat) (u : MM), s < 4 → pX3_isMissing s u → GX3_isMissing w (fun r u' => r = some (.int (rX3_isMissing s u)) ∧ u' = u) 0 [some (.ref (stA w s))] [] u
def KX3_hasPart (w : WW) : KT := (al flX3, al ciX3, al clX3, fun _ => none, fun _ => none, al [])
abbrev GX3_hasPart (w : WW) (Q : Option Value → MM → Prop) : Nat → LL → List Value → MM → Prop := WP w MX3_hasPart TX3_hasPart (KX3_hasPart w) Q
section
variable {w : WW} {Q : Option Value → MM → Prop} {u : MM}
theorem eX3_hasPart_0 {l0 l2 : Option Value} {st : List Value} {x : Int32} : GX3_hasPart w Q 0 [l0, some (.int x), l2] st u ↔ GX3_hasPart w Q 1 [l0, some (.int x), l2] (.int x :: st) u := WP_u (.iload_n 1) [] rfl
theorem eX3_hasPart_1 {l0 l1 l2 : Option Value} {st : List Value} {x : Int32} : GX3_hasPart w Q 1 [l0, l1, l2] (.int x :: st) u ↔ (x < 0 → GX3_hasPart w Q 22 [l0, l1, l2] st u) ∧ (¬ (x < 0) → GX3_hasPart w Q 4 [l0, l1, l2] st u) := (WP_u (.ifCond .lt 21) [22] rfl).trans ex_br
theorem eX3_hasPart_4 {l0 l1 : Option Value} {st : List Value} {x : Int32} : GX3_hasPart w Q 4 [l0, l1, some (.int x)] st u ↔ GX3_hasPart w Q 5 [l0, l1, some (.int x)] (.int x :: st) u := WP_u (.iload_n 2) [] rfl
theorem eX3_hasPart_5 {l0 l1 l2 : Option Value} {st : List Value} {x : Int32} : GX3_hasPart w Q 5 [l0, l1, l2] (.int x :: st) u ↔ (x < 0 → GX3_hasPart w Q 22 [l0, l1, l2] st u) ∧ (¬ (x < 0) → GX3_hasPart w Q 8 [l0, l1, l2] st u) := (WP_u (.ifCond .lt 17) [22] rfl).trans ex_br
theorem eX3_hasPart_8 {l0 l2 : Option Value} {st : List Value} {x : Int32} : GX3_hasPart w Q 8 [l0, some (.int x), l2] st u ↔ GX3_hasPart w Q 9 [l0, some (.int x), l2] (.int x :: st) u := WP_u (.iload_n 1) [] rfl
theorem eX3_hasPart_9 {l1 l2 : Option Value} {st : List Value} {x : Nat} : GX3_hasPart w Q 9 [some (.ref x), l1, l2] st u ↔ GX3_hasPart w Q 10 [some (.ref x), l1, l2] (.ref x :: st) u := WP_u (.aload_n 0) [] rfl
theorem eX3_hasPart_10 {l0 l1 l2 : Option Value} {st : List Value} {a : Nat} : GX3_hasPart w Q 10 [l0, l1, l2] (.ref a :: st) u ↔ okI w a 3 2 ∧ GX3_hasPart w Q 13 [l0, l1, l2] (.int (u.1 (ixI w a 2)) :: st) u := (WP_u (.getfield 19) [] rfl).trans ex_and
theorem eX3_hasPart_13 {l0 l1 : Option Value} {st : List Value} {x : Int32} : GX3_hasPart w Q 13 [l0, l1, some (.int x)] st u ↔ GX3_hasPart w Q 14 [l0, l1, some (.int x)] (.int x :: st) u := WP_u (.iload_n 2) [] rfl
theorem eX3_hasPart_14 {l0 l1 l2 : Option Value} {st : List Value} {x y : Int32} : GX3_hasPart w Q 14 [l0, l1, l2] (.int y :: .int x :: st) u ↔ GX3_hasPart w Q 15 [l0, l1, l2] (.int (x - y) :: st) u := WP_u (.isub) [] rfl
theorem eX3_hasPart_15 {l0 l1 l2 : Option Value} {st : List Value} {x y : Int32} : GX3_hasPart w Q 15 [l0, l1, l2] (.int y :: .int x :: st) u ↔ (y < x → GX3_hasPart w Q 22 [l0, l1, l2] st u) ∧ (¬ (y < x) → GX3_hasPart w Q 18 [l0, l1, l2] st u) := (WP_u (.if_icmp .gt 7) [22] rfl).trans ex_br
theorem eX3_hasPart_18 {l0 l1 l2 : Option Value} {st : List Value} : GX3_hasPart w Q 18 [l0, l1, l2] st u ↔ GX3_hasPart w Q 19 [l0, l1, l2] (.int 1 :: st) u := WP_iconst rfl (by decide)
theorem eX3_hasPart_19 {l0 l1 l2 : Option Value} {st : List Value} : GX3_hasPart w Q 19 [l0, l1, l2] st u ↔ GX3_hasPart w Q 23 [l0, l1, l2] st u := WP_u (.goto 4) [23] rfl
theorem eX3_hasPart_22 {l0 l1 l2 : Option Value} {st : List Value} : GX3_hasPart w Q 22 [l0, l1, l2] st u ↔ GX3_hasPart w Q 23 [l0, l1, l2] (.int 0 :: st) u := WP_iconst rfl (by decide)
theorem eX3_hasPart_23 {l0 l1 l2 : Option Value} {x : Int32} : GX3_hasPart w Q 23 [l0, l1, l2] [.int x] u ↔ nb x ∧ Q (some (.int x)) u := (WP_u (.ireturn) [] rfl).trans ex_k
end
def VX3_hasPart (w : WW) : Prop := ∀ (s : Nat) (a1 : Int32) (a2 : Int32) (u : MM), s < 4 → pX3_hasPart s a1 a2 u → GX3_hasPart w (fun r u' => r = some (.int (rX3_hasPart s a1 a2 u)) ∧ u' = u) 0 [some (.ref (stA w s)), some (.int a1), some (.int a2)] [] u
theorem vX1_become (w : WW) : VX1_become w := by
  intro a b u ha hb h
  simp only [eX1_become_0, eX1_become_1, eX1_become_2, eX1_become_5, eX1_become_8, eX1_become_9, eX1_become_10, eX1_become_13, eX1_become_16, eX1_become_17, eX1_become_18, eX1_become_21, eX1_become_24, eX1_become_25, eX1_become_26, eX1_become_29, eX1_become_32, eX1_become_33, eX1_become_34, eX1_become_37, eX1_become_40, eX1_become_41, eX1_become_42, eX1_become_45, eX1_become_48, eX1_become_49, eX1_become_50, eX1_become_53, eX1_become_56, kl_i, kl_r, kl_n, kl_l, true_and, and_true, true_implies, false_implies, not_true_eq_false, not_false_eq_true, i10, Classical.not_not, ok_o0 ha, ix_o0 ha, ok_o1 ha, ix_o1 ha, ok_o2 ha, ix_o2 ha, ok_o3 ha, ix_o3 ha, ok_o4 ha, ix_o4 ha, ok_o5 ha, ix_o5 ha, ok_o6 ha, ix_o6 ha, ok_o0 hb, ix_o0 hb, ok_o1 hb, ix_o1 hb, ok_o2 hb, ix_o2 hb, ok_o3 hb, ix_o3 hb, ok_o4 hb, ix_o4 hb, ok_o5 hb, ix_o5 hb, ok_o6 hb, ix_o6 hb, mX1_become, cp1]
set_option maxRecDepth 20000 in
theorem KX1_become_ok (w : WW) : KOk w MX1_become (KX1_become w) := KOk_mk flX1_ok ciX1_ok clX1_ok (fun n t h => st_ok n t h) (fun _ _ h => by cases h) (List.forall_mem_nil _)
theorem ctX1_become (w : WW) : CT w yX1_become MX1_become (csX1_become w).2.1 (csX1_become w).2.2 := by
  refine CT_of (by decide) rfl TX1_become_ok TX1_become_v (KX1_become_ok w) (fun as u h => ?_)
  obtain ⟨a0, a1, rfl, h⟩ := sgRR h
  obtain ⟨h0, h1, hh⟩ := h
  refine ⟨Nat.le_of_ble_eq_true rfl, ?_⟩
  have key := vX1_become w a0 a1 u h0 h1 hh
  exact key
theorem prX1_become (w : WW) : ∀ as u, (csX1_become w).2.1 as u → ∃ a r, as = .ref a :: r ∧ r.length = 1 ∧ okO w a 1 := by
  intro as u h
  obtain ⟨a0, a1, rfl, h⟩ := sgRR h
  exact ⟨_, _, rfl, rfl, okO_o h⟩
theorem vX2_become (w : WW) : VX2_become w := by
  intro a b u ha hb h
  simp only [eX2_become_0, eX2_become_1, eX2_become_2, eX2_become_5, eX2_become_8, eX2_become_9, eX2_become_10, eX2_become_13, eX2_become_16, eX2_become_17, eX2_become_18, eX2_become_21, eX2_become_24, kl_i, kl_r, kl_n, kl_l, true_and, and_true, true_implies, false_implies, not_true_eq_false, not_false_eq_true, i10, Classical.not_not, ok_e0 ha, ix_e0 ha, ok_e1 ha, ix_e1 ha, ok_e2 ha, ix_e2 ha, ok_e0 hb, ix_e0 hb, ok_e1 hb, ix_e1 hb, ok_e2 hb, ix_e2 hb, mX2_become, cp1]
set_option maxRecDepth 20000 in
theorem KX2_become_ok (w : WW) : KOk w MX2_become (KX2_become w) := KOk_mk flX2_ok ciX2_ok clX2_ok (fun _ _ h => by cases h) (fun _ _ h => by cases h) (List.forall_mem_nil _)
theorem ctX2_become (w : WW) : CT w yX2_become MX2_become (csX2_become w).2.1 (csX2_become w).2.2 := by
  refine CT_of (by decide) rfl TX2_become_ok TX2_become_v (KX2_become_ok w) (fun as u h => ?_)
  obtain ⟨a0, a1, rfl, h⟩ := sgRR h
  obtain ⟨h0, h1, hh⟩ := h
  refine ⟨Nat.le_of_ble_eq_true rfl, ?_⟩
  have key := vX2_become w a0 a1 u h0 h1 hh
  exact key
theorem prX2_become (w : WW) : ∀ as u, (csX2_become w).2.1 as u → ∃ a r, as = .ref a :: r ∧ r.length = 1 ∧ okO w a 2 := by
  intro as u h
  obtain ⟨a0, a1, rfl, h⟩ := sgRR h
  exact ⟨_, _, rfl, rfl, okO_e h⟩
theorem vX3_isMissing (w : WW) : VX3_isMissing w := by
  intro s u hs h
  simp only [eX3_isMissing_0, eX3_isMissing_1, eX3_isMissing_4, eX3_isMissing_7, eX3_isMissing_8, eX3_isMissing_11, eX3_isMissing_12, kl_i, kl_r, kl_n, kl_l, true_and, and_true, true_implies, false_implies, not_true_eq_false, not_false_eq_true, i10, Classical.not_not, ok_st1 w hs, ix_st1 w hs, rX3_isMissing, Option.some.injEq, Value.int.injEq]
  exact ⟨fun c => ⟨nb_0, (bi_f c).symm⟩, fun c => ⟨nb_1, (bi_t c).symm⟩⟩
set_option maxRecDepth 20000 in
theorem KX3_isMissing_ok (w : WW) : KOk w MX3_isMissing (KX3_isMissing w) := KOk_mk flX3_ok ciX3_ok clX3_ok (fun _ _ h => by cases h) (fun _ _ h => by cases h) (List.forall_mem_nil _)
theorem ctX3_isMissing (w : WW) : CT w yX3_isMissing MX3_isMissing (csX3_isMissing w).2.1 (csX3_isMissing w).2.2 := by
  refine CT_of (by decide) rfl TX3_isMissing_ok TX3_isMissing_v (KX3_isMissing_ok w) (fun as u h => ?_)
  obtain ⟨a0, rfl, h⟩ := sgR h
  obtain ⟨h0, hh⟩ := h
  obtain ⟨q0, e0, rfl⟩ := h0
  rw [tq_stA] at hh
  refine ⟨Nat.le_of_ble_eq_true rfl, ?_⟩
  have key := vX3_isMissing w q0 u e0 hh
  simp only [csX3_isMissing, tq_stA]
  exact key
theorem prX3_isMissing (w : WW) : ∀ as u, (csX3_isMissing w).2.1 as u → ∃ a r, as = .ref a :: r ∧ r.length = 0 ∧ okO w a 3 := by
  intro as u h
  obtain ⟨a0, rfl, h⟩ := sgR h
  exact ⟨_, _, rfl, rfl, okO_t h⟩
theorem vX3_hasPart (w : WW) : VX3_hasPart w := by
  intro s f n u hs h
  simp only [eX3_hasPart_0, eX3_hasPart_1, eX3_hasPart_4, eX3_hasPart_5, eX3_hasPart_8, eX3_hasPart_9, eX3_hasPart_10, eX3_hasPart_13, eX3_hasPart_14, eX3_hasPart_15, eX3_hasPart_18, eX3_hasPart_19, eX3_hasPart_22, eX3_hasPart_23, kl_i, kl_r, kl_n, kl_l, true_and, and_true, true_implies, false_implies, not_true_eq_false, not_false_eq_true, i10, Classical.not_not, ok_st2 w hs, ix_st2 w hs, rX3_hasPart, Option.some.injEq, Value.int.injEq]
  refine ⟨fun c => ⟨nb_0, (bi_f (fun z => absurd c (Int32.not_lt.mpr z.1))).symm⟩, fun c => ⟨fun d => ⟨nb_0, (bi_f (fun z => absurd d (Int32.not_lt.mpr z.2.1))).symm⟩, fun d => ⟨fun e => ⟨nb_0, (bi_f (fun z => absurd e (Int32.not_lt.mpr z.2.2))).symm⟩, fun e => ⟨nb_1, (bi_t ⟨Int32.not_lt.mp c, Int32.not_lt.mp d, Int32.not_lt.mp e⟩).symm⟩⟩⟩⟩
set_option maxRecDepth 20000 in
theorem KX3_hasPart_ok (w : WW) : KOk w MX3_hasPart (KX3_hasPart w) := KOk_mk flX3_ok ciX3_ok clX3_ok (fun _ _ h => by cases h) (fun _ _ h => by cases h) (List.forall_mem_nil _)
theorem ctX3_hasPart (w : WW) : CT w yX3_hasPart MX3_hasPart (csX3_hasPart w).2.1 (csX3_hasPart w).2.2 := by
  refine CT_of (by decide) rfl TX3_hasPart_ok TX3_hasPart_v (KX3_hasPart_ok w) (fun as u h => ?_)
  obtain ⟨a0, a1, a2, rfl, h⟩ := sgRII h
  obtain ⟨h0, hh⟩ := h
  obtain ⟨q0, e0, rfl⟩ := h0
  rw [tq_stA] at hh
  refine ⟨Nat.le_of_ble_eq_true rfl, ?_⟩
  have key := vX3_hasPart w q0 a1 a2 u e0 hh
  simp only [csX3_hasPart, tq_stA]
  exact key
theorem prX3_hasPart (w : WW) : ∀ as u, (csX3_hasPart w).2.1 as u → ∃ a r, as = .ref a :: r ∧ r.length = 2 ∧ okO w a 3 := by
  intro as u h
  obtain ⟨a0, a1, a2, rfl, h⟩ := sgRII h
  exact ⟨_, _, rfl, rfl, okO_t h⟩
