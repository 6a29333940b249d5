/-! ===== the class's ones and seats ===== -/
def pX1_sits (_ : Nat) (_ : MM) : Prop := True
def rX1_sits (b : Nat) (u : MM) : Int32 := bi (¬ u.1 (b + 5) = -1)
def pX1_mayTakeSeat (_ : Nat) (_ : MM) : Prop := True
def rX1_mayTakeSeat (b : Nat) (u : MM) : Int32 := bi (u.1 (b + 5) = -1 ∧ ¬ u.1 (b + 0) = 2)
def kO (k : Int32) : Prop := 0 ≤ k ∧ k ≤ 5
def pX1_leans (b : Nat) (u : MM) : Prop := kO (u.1 (b + 0))
def rX1_leans (b : Nat) (u : MM) : Int32 := lean (u.1 (b + 0)) (u.1 (b + 2))
def pX1_stays (b : Nat) (u : MM) : Prop := kO (u.1 (b + 0))
def rX1_stays (b : Nat) (u : MM) : Int32 := stay (u.1 (b + 0))
def pX1_goes (_ : Nat) (_ : Int32) (_ : MM) : Prop := True
def rX1_goes (b : Nat) (s : Int32) (u : MM) : Int32 := goe (u.1 (b + 0)) s
def pX1_distance (b : Nat) (_ : Int32) (u : MM) : Prop := kO (u.1 (b + 0))
def rX1_distance (b : Nat) (p : Int32) (u : MM) : Int32 := dist (u.1 (b + 1)) p - lean (u.1 (b + 0)) (u.1 (b + 2))
def pX1_isOfKind (b : Nat) (_ : Int32) (u : MM) : Prop := kO (u.1 (b + 0))
def rX1_isOfKind (b : Nat) (k : Int32) (u : MM) : Int32 := bi (under (u.1 (b + 0)) k)
/-- what stands in the class's tables -/
def tbl (t i : Nat) : Int32 := match t, i with
  | 0, 0 => -1
  | 0, 4 => 3
  | 0, 5 => 1
  | 0, _ => 0
  | 1, 2 => 0
  | 1, 4 => 2
  | 1, _ => 1
  | 2, 1 => 30
  | 2, 5 => 50
  | 2, _ => 0
  | _, 1 => 20
  | _, 3 => 15
  | _, 4 => 4
  | _, 5 => 20
  | _, _ => 10
/-- what is known of the places before the program's own -/
def wOk (w : WW) : Prop := (∀ t, t < 4 → ob w (wA w t) = none ∧ ∀ i, i < 6 → wV w (wA w t) i = tbl t i) ∧ ∀ i j, i < 11 → j < 11 → wK w i = wK w j → i = j
theorem kO_of {k : Int32} (h : kO k) : ∃ j, j ≤ 5 ∧ k = nI j := nI_of2 (M := 5) (n := 5) rfl (Int32.not_lt.mpr h.1) h.2
theorem ai_tb {w : WW} (h : wOk w) {t : Nat} (ht : t < 4) {j : Nat} (hj : j ≤ 5) : okAI w (wA w t) (nI j) := Or.inr ⟨t, ht, rfl, (h.1 t ht).1, vi_nI (by omega)⟩
theorem rd_tb {w : WW} (h : wOk w) {t : Nat} (ht : t < 4) {j : Nat} (hj : j ≤ 5) (u : MM) : rdA w u (wA w t) (nI j) = tbl t j := by
  rw [rdA, (h.1 t ht).1]
  show wV w (wA w t) (NN (nI j)) = _
  rw [NN_nI (by omega)]; exact (h.1 t ht).2 j (by omega)
def flX1 : List (Nat × (Nat × Nat × Nat)) := [(9, (1, 0, 0)), (15, (1, 1, 0)), (18, (1, 2, 0)), (21, (1, 3, 0)), (24, (1, 4, 0)), (27, (1, 5, 0)), (30, (1, 6, 0))]
def ciX1 : List (Nat × Int32) := []
def clX1 : List (Nat × Int64) := []
theorem flX1_ok : (flX1.all fun q => fOk RX1 q.1 q.2.1 q.2.2.1 q.2.2.2) = true := by decide +kernel
theorem ciX1_ok : (ciX1.all fun q => decide (Cond.constant RX1 q.1 q.2 ∈ Gt)) = true := by decide +kernel
theorem clX1_ok : (clX1.all fun q => decide (Cond.constantLong RX1 q.1 q.2 ∈ Gt)) = true := by decide +kernel
def pX1_spotOneStepTowards (_ : Nat) (_ : Int32) (_ : MM) : Prop := True
def stepC (p t : Int32) : Int32 := 10 * (p / 10 + cmpI (t / 10) (p / 10)) + rem32 p 10 + cmpI (rem32 t 10) (rem32 p 10)
def rX1_spotOneStepTowards (b : Nat) (t : Int32) (u : MM) : Int32 := stepC (u.1 (b + 1)) t
def pX1_arrive (_ : Nat) (_ _ _ : Int32) (_ : MM) : Prop := True
def mX1_arrive (b : Nat) (k p t : Int32) (u : MM) : MM := uI (uI (uI (uI (uI (uI (uI u (b + 0) k) (b + 1) p) (b + 2) t) (b + 3) (-1)) (b + 4) 0) (b + 5) (-1)) (b + 6) 0
def MX1_sits : MI := (cX1_sits, 1, some .boolean, RX1, { frames := 0, cells := 0, slots := 0, locals := 0 })
def TX1_sits : TB := [(0, .aload_n 0, 1, []), (1, .getfield 27, 3, []), (4, .iconst (-1), 1, []), (5, .if_icmp .eq 7, 3, [12]), (8, .iconst 1, 1, []), (9, .goto 4, 3, [13]), (12, .iconst 0, 1, []), (13, .ireturn, 1, [])]
set_option maxRecDepth 20000 in
theorem TX1_sits_ok : TX1_sits.all (chk MX1_sits.1) = true := by decide +kernel
theorem TX1_sits_v : TX1_sits.all vOk = true := by decide +kernel
def csX1_sits (w : WW) : CS := (1, fun as u => match as with | [.ref a0] => oOk w a0 ∧ pX1_sits (fo w a0) u | _ => False, fun as u => match as with | [.ref a0] => (some (.int (rX1_sits (fo w a0) u)), u) | _ => (none, u))
def MX1_mayTakeSeat : MI := (cX1_mayTakeSeat, 1, some .boolean, RX1, { frames := 0, cells := 0, slots := 0, locals := 0 })
def TX1_mayTakeSeat : TB := [(0, .aload_n 0, 1, []), (1, .getfield 27, 3, []), (4, .iconst (-1), 1, []), (5, .if_icmp .ne 15, 3, [20]), (8, .aload_n 0, 1, []), (9, .getfield 9, 3, []), (12, .iconst 2, 1, []), (13, .if_icmp .eq 7, 3, [20]), (16, .iconst 1, 1, []), (17, .goto 4, 3, [21]), (20, .iconst 0, 1, []), (21, .ireturn, 1, [])]
set_option maxRecDepth 20000 in
theorem TX1_mayTakeSeat_ok : TX1_mayTakeSeat.all (chk MX1_mayTakeSeat.1) = true := by decide +kernel
theorem TX1_mayTakeSeat_v : TX1_mayTakeSeat.all vOk = true := by decide +kernel
def csX1_mayTakeSeat (w : WW) : CS := (1, fun as u => match as with | [.ref a0] => oOk w a0 ∧ pX1_mayTakeSeat (fo w a0) u | _ => False, fun as u => match as with | [.ref a0] => (some (.int (rX1_mayTakeSeat (fo w a0) u)), u) | _ => (none, u))
def MX1_leans : MI := (cX1_leans, 1, some .int, RX1, { frames := 0, cells := 0, slots := 0, locals := 0 })
def TX1_leans : TB := [(0, .getstatic 37, 3, []), (3, .aload_n 0, 1, []), (4, .getfield 9, 3, []), (7, .iaload, 1, []), (8, .aload_n 0, 1, []), (9, .getfield 18, 3, []), (12, .imul, 1, []), (13, .getstatic 40, 3, []), (16, .aload_n 0, 1, []), (17, .getfield 9, 3, []), (20, .iaload, 1, []), (21, .iadd, 1, []), (22, .ireturn, 1, [])]
set_option maxRecDepth 20000 in
theorem TX1_leans_ok : TX1_leans.all (chk MX1_leans.1) = true := by decide +kernel
theorem TX1_leans_v : TX1_leans.all vOk = true := by decide +kernel
def csX1_leans (w : WW) : CS := (1, fun as u => match as with | [.ref a0] => oOk w a0 ∧ wOk w ∧ pX1_leans (fo w a0) u | _ => False, fun as u => match as with | [.ref a0] => (some (.int (rX1_leans (fo w a0) u)), u) | _ => (none, u))
def MX1_stays : MI := (cX1_stays, 1, some .int, RX1, { frames := 0, cells := 0, slots := 0, locals := 0 })
def TX1_stays : TB := [(0, .getstatic 43, 3, []), (3, .aload_n 0, 1, []), (4, .getfield 9, 3, []), (7, .iaload, 1, []), (8, .ireturn, 1, [])]
set_option maxRecDepth 20000 in
theorem TX1_stays_ok : TX1_stays.all (chk MX1_stays.1) = true := by decide +kernel
theorem TX1_stays_v : TX1_stays.all vOk = true := by decide +kernel
def csX1_stays (w : WW) : CS := (1, fun as u => match as with | [.ref a0] => oOk w a0 ∧ wOk w ∧ pX1_stays (fo w a0) u | _ => False, fun as u => match as with | [.ref a0] => (some (.int (rX1_stays (fo w a0) u)), u) | _ => (none, u))
def MX1_goes : MI := (cX1_goes, 2, some .int, RX1, { frames := 0, cells := 0, slots := 0, locals := 0 })
def TX1_goes : TB := [(0, .aload_n 0, 1, []), (1, .getfield 9, 3, []), (4, .tableswitch 62 1 5 #[38, 36, 50, 50, 38], 36, [66, 42, 40, 54, 54, 42]), (40, .iconst 2, 1, []), (41, .ireturn, 1, []), (42, .iload_n 1, 1, []), (43, .iconst 2, 1, []), (44, .irem, 1, []), (45, .ifCond .ne 7, 3, [52]), (48, .iconst 1, 1, []), (49, .goto 4, 3, [53]), (52, .iconst 0, 1, []), (53, .ireturn, 1, []), (54, .iload_n 1, 1, []), (55, .iconst 3, 1, []), (56, .irem, 1, []), (57, .ifCond .ne 7, 3, [64]), (60, .iconst 0, 1, []), (61, .goto 4, 3, [65]), (64, .iconst 1, 1, []), (65, .ireturn, 1, []), (66, .iconst 1, 1, []), (67, .ireturn, 1, [])]
set_option maxRecDepth 20000 in
theorem TX1_goes_ok : TX1_goes.all (chk MX1_goes.1) = true := by decide +kernel
theorem TX1_goes_v : TX1_goes.all vOk = true := by decide +kernel
def csX1_goes (w : WW) : CS := (2, fun as u => match as with | [.ref a0, .int a1] => oOk w a0 ∧ pX1_goes (fo w a0) a1 u | _ => False, fun as u => match as with | [.ref a0, .int a1] => (some (.int (rX1_goes (fo w a0) a1 u)), u) | _ => (none, u))
def MX1_distance : MI := (cX1_distance, 4, some .int, RX1, { frames := 1, cells := 0, slots := 0, locals := 20 })
def TX1_distance : TB := [(0, .aload_n 0, 1, []), (1, .getfield 15, 3, []), (4, .bipush 10, 2, []), (6, .idiv, 1, []), (7, .iload_n 1, 1, []), (8, .bipush 10, 2, []), (10, .idiv, 1, []), (11, .isub, 1, []), (12, .istore_n 2, 1, []), (13, .aload_n 0, 1, []), (14, .getfield 15, 3, []), (17, .bipush 10, 2, []), (19, .irem, 1, []), (20, .iload_n 1, 1, []), (21, .bipush 10, 2, []), (23, .irem, 1, []), (24, .isub, 1, []), (25, .istore_n 3, 1, []), (26, .bipush 100, 2, []), (28, .iload_n 2, 1, []), (29, .iload_n 2, 1, []), (30, .imul, 1, []), (31, .iload_n 3, 1, []), (32, .iload_n 3, 1, []), (33, .imul, 1, []), (34, .iadd, 1, []), (35, .imul, 1, []), (36, .aload_n 0, 1, []), (37, .invokevirtual 46, 3, []), (40, .isub, 1, []), (41, .ireturn, 1, [])]
set_option maxRecDepth 20000 in
theorem TX1_distance_ok : TX1_distance.all (chk MX1_distance.1) = true := by decide +kernel
theorem TX1_distance_v : TX1_distance.all vOk = true := by decide +kernel
def csX1_distance (w : WW) : CS := (2, fun as u => match as with | [.ref a0, .int a1] => oOk w a0 ∧ wOk w ∧ pX1_distance (fo w a0) a1 u | _ => False, fun as u => match as with | [.ref a0, .int a1] => (some (.int (rX1_distance (fo w a0) a1 u)), u) | _ => (none, u))
def MX1_isOfKind : MI := (cX1_isOfKind, 4, some .boolean, RX1, { frames := 0, cells := 0, slots := 0, locals := 0 })
def TX1_isOfKind : TB := [(0, .aload_n 0, 1, []), (1, .getfield 9, 3, []), (4, .istore_n 2, 1, []), (5, .iconst 0, 1, []), (6, .istore_n 3, 1, []), (7, .iload_n 3, 1, []), (8, .bipush 6, 2, []), (10, .if_icmp .ge 26, 3, [36]), (13, .iload_n 2, 1, []), (14, .ifCond .lt 22, 3, [36]), (17, .iload_n 2, 1, []), (18, .iload_n 1, 1, []), (19, .if_icmp .ne 5, 3, [24]), (22, .iconst 1, 1, []), (23, .ireturn, 1, []), (24, .getstatic 33, 3, []), (27, .iload_n 2, 1, []), (28, .iaload, 1, []), (29, .istore_n 2, 1, []), (30, .iinc 3 1, 3, []), (33, .goto (-26), 3, [7]), (36, .iconst 0, 1, []), (37, .ireturn, 1, [])]
set_option maxRecDepth 20000 in
theorem TX1_isOfKind_ok : TX1_isOfKind.all (chk MX1_isOfKind.1) = true := by decide +kernel
theorem TX1_isOfKind_v : TX1_isOfKind.all vOk = true := by decide +kernel
def csX1_isOfKind (w : WW) : CS := (2, fun as u => match as with | [.ref a0, .int a1] => oOk w a0 ∧ wOk w ∧ pX1_isOfKind (fo w a0) a1 u | _ => False, fun as u => match as with | [.ref a0, .int a1] => (some (.int (rX1_isOfKind (fo w a0) a1 u)), u) | _ => (none, u))
def MX1_spotOneStepTowards : MI := (cX1_spotOneStepTowards, 4, some .int, RX1, { frames := 1, cells := 0, slots := 0, locals := 21 })
def TX1_spotOneStepTowards : TB := [(0, .aload_n 0, 1, []), (1, .getfield 15, 3, []), (4, .bipush 10, 2, []), (6, .idiv, 1, []), (7, .istore_n 2, 1, []), (8, .aload_n 0, 1, []), (9, .getfield 15, 3, []), (12, .bipush 10, 2, []), (14, .irem, 1, []), (15, .istore_n 3, 1, []), (16, .bipush 10, 2, []), (18, .iload_n 2, 1, []), (19, .iload_n 1, 1, []), (20, .bipush 10, 2, []), (22, .idiv, 1, []), (23, .iload_n 2, 1, []), (24, .invokestatic 50, 3, []), (27, .iadd, 1, []), (28, .imul, 1, []), (29, .iload_n 3, 1, []), (30, .iadd, 1, []), (31, .iload_n 1, 1, []), (32, .bipush 10, 2, []), (34, .irem, 1, []), (35, .iload_n 3, 1, []), (36, .invokestatic 50, 3, []), (39, .iadd, 1, []), (40, .ireturn, 1, [])]
set_option maxRecDepth 20000 in
theorem TX1_spotOneStepTowards_ok : TX1_spotOneStepTowards.all (chk MX1_spotOneStepTowards.1) = true := by decide +kernel
theorem TX1_spotOneStepTowards_v : TX1_spotOneStepTowards.all vOk = true := by decide +kernel
def csX1_spotOneStepTowards (w : WW) : CS := (2, fun as u => match as with | [.ref a0, .int a1] => oOk w a0 ∧ pX1_spotOneStepTowards (fo w a0) a1 u | _ => False, fun as u => match as with | [.ref a0, .int a1] => (some (.int (rX1_spotOneStepTowards (fo w a0) a1 u)), u) | _ => (none, u))
def MX1_arrive : MI := (cX1_arrive, 4, none, RX1, { frames := 0, cells := 0, slots := 0, locals := 0 })
def TX1_arrive : TB := [(0, .aload_n 0, 1, []), (1, .iload_n 1, 1, []), (2, .putfield 9, 3, []), (5, .aload_n 0, 1, []), (6, .iload_n 2, 1, []), (7, .putfield 15, 3, []), (10, .aload_n 0, 1, []), (11, .iload_n 3, 1, []), (12, .putfield 18, 3, []), (15, .aload_n 0, 1, []), (16, .iconst (-1), 1, []), (17, .putfield 21, 3, []), (20, .aload_n 0, 1, []), (21, .iconst 0, 1, []), (22, .putfield 24, 3, []), (25, .aload_n 0, 1, []), (26, .iconst (-1), 1, []), (27, .putfield 27, 3, []), (30, .aload_n 0, 1, []), (31, .iconst 0, 1, []), (32, .putfield 30, 3, []), (35, .return_, 1, [])]
set_option maxRecDepth 20000 in
theorem TX1_arrive_ok : TX1_arrive.all (chk MX1_arrive.1) = true := by decide +kernel
theorem TX1_arrive_v : TX1_arrive.all vOk = true := by decide +kernel
def csX1_arrive (w : WW) : CS := (4, fun as u => match as with | [.ref a0, .int a1, .int a2, .int a3] => oOk w a0 ∧ pX1_arrive (fo w a0) a1 a2 a3 u | _ => False, fun as u => match as with | [.ref a0, .int a1, .int a2, .int a3] => (none, (mX1_arrive (fo w a0) a1 a2 a3 u)) | _ => (none, u))
def KX1_sits (w : WW) : KT := (al flX1, al ciX1, al clX1, al [(33, 0), (37, 1), (40, 2), (43, 3)], fun _ => none, al [])
abbrev GX1_sits (w : WW) (Q : Option Value → MM → Prop) : Nat → LL → List Value → MM → Prop := WP w MX1_sits TX1_sits (KX1_sits w) Q
section
variable {w : WW} {Q : Option Value → MM → Prop} {u : MM}
theorem eX1_sits_0 {st : List Value} {x : Nat} : GX1_sits w Q 0 [some (.ref x)] st u ↔ GX1_sits w Q 1 [some (.ref x)] (.ref x :: st) u := WP_u (.aload_n 0) [] rfl
theorem eX1_sits_1 {l0 : Option Value} {st : List Value} {a : Nat} : GX1_sits w Q 1 [l0] (.ref a :: st) u ↔ okI w a 1 5 ∧ GX1_sits w Q 4 [l0] (.int (u.1 (ixI w a 5)) :: st) u := (WP_u (.getfield 27) [] rfl).trans ex_and
theorem eX1_sits_4 {l0 : Option Value} {st : List Value} : GX1_sits w Q 4 [l0] st u ↔ GX1_sits w Q 5 [l0] (.int (-1) :: st) u := WP_iconst rfl (by decide)
theorem eX1_sits_5 {l0 : Option Value} {st : List Value} {x y : Int32} : GX1_sits w Q 5 [l0] (.int y :: .int x :: st) u ↔ (x = y → GX1_sits w Q 12 [l0] st u) ∧ (¬ (x = y) → GX1_sits w Q 8 [l0] st u) := (WP_u (.if_icmp .eq 7) [12] rfl).trans ex_br
theorem eX1_sits_8 {l0 : Option Value} {st : List Value} : GX1_sits w Q 8 [l0] st u ↔ GX1_sits w Q 9 [l0] (.int 1 :: st) u := WP_iconst rfl (by decide)
theorem eX1_sits_9 {l0 : Option Value} {st : List Value} : GX1_sits w Q 9 [l0] st u ↔ GX1_sits w Q 13 [l0] st u := WP_u (.goto 4) [13] rfl
theorem eX1_sits_12 {l0 : Option Value} {st : List Value} : GX1_sits w Q 12 [l0] st u ↔ GX1_sits w Q 13 [l0] (.int 0 :: st) u := WP_iconst rfl (by decide)
theorem eX1_sits_13 {l0 : Option Value} {x : Int32} : GX1_sits w Q 13 [l0] [.int x] u ↔ nb x ∧ Q (some (.int x)) u := (WP_u (.ireturn) [] rfl).trans ex_k
end
def VX1_sits (w : WW) : Prop := ∀ (a0 : Nat) (u : MM), oOk w a0 → pX1_sits (fo w a0) u → GX1_sits w (fun r u' => r = some (.int (rX1_sits (fo w a0) u)) ∧ u' = u) 0 [some (.ref a0)] [] u
def KX1_mayTakeSeat (w : WW) : KT := (al flX1, al ciX1, al clX1, al [(33, 0), (37, 1), (40, 2), (43, 3)], fun _ => none, al [])
abbrev GX1_mayTakeSeat (w : WW) (Q : Option Value → MM → Prop) : Nat → LL → List Value → MM → Prop := WP w MX1_mayTakeSeat TX1_mayTakeSeat (KX1_mayTakeSeat w) Q
section
variable {w : WW} {Q : Option Value → MM → Prop} {u : MM}
theorem eX1_mayTakeSeat_0 {st : List Value} {x : Nat} : GX1_mayTakeSeat w Q 0 [some (.ref x)] st u ↔ GX1_mayTakeSeat w Q 1 [some (.ref x)] (.ref x :: st) u := WP_u (.aload_n 0) [] rfl
theorem eX1_mayTakeSeat_1 {l0 : Option Value} {st : List Value} {a : Nat} : GX1_mayTakeSeat w Q 1 [l0] (.ref a :: st) u ↔ okI w a 1 5 ∧ GX1_mayTakeSeat w Q 4 [l0] (.int (u.1 (ixI w a 5)) :: st) u := (WP_u (.getfield 27) [] rfl).trans ex_and
theorem eX1_mayTakeSeat_4 {l0 : Option Value} {st : List Value} : GX1_mayTakeSeat w Q 4 [l0] st u ↔ GX1_mayTakeSeat w Q 5 [l0] (.int (-1) :: st) u := WP_iconst rfl (by decide)
theorem eX1_mayTakeSeat_5 {l0 : Option Value} {st : List Value} {x y : Int32} : GX1_mayTakeSeat w Q 5 [l0] (.int y :: .int x :: st) u ↔ (¬ x = y → GX1_mayTakeSeat w Q 20 [l0] st u) ∧ (¬ (¬ x = y) → GX1_mayTakeSeat w Q 8 [l0] st u) := (WP_u (.if_icmp .ne 15) [20] rfl).trans ex_br
theorem eX1_mayTakeSeat_8 {st : List Value} {x : Nat} : GX1_mayTakeSeat w Q 8 [some (.ref x)] st u ↔ GX1_mayTakeSeat w Q 9 [some (.ref x)] (.ref x :: st) u := WP_u (.aload_n 0) [] rfl
theorem eX1_mayTakeSeat_9 {l0 : Option Value} {st : List Value} {a : Nat} : GX1_mayTakeSeat w Q 9 [l0] (.ref a :: st) u ↔ okI w a 1 0 ∧ GX1_mayTakeSeat w Q 12 [l0] (.int (u.1 (ixI w a 0)) :: st) u := (WP_u (.getfield 9) [] rfl).trans ex_and
theorem eX1_mayTakeSeat_12 {l0 : Option Value} {st : List Value} : GX1_mayTakeSeat w Q 12 [l0] st u ↔ GX1_mayTakeSeat w Q 13 [l0] (.int 2 :: st) u := WP_iconst rfl (by decide)
theorem eX1_mayTakeSeat_13 {l0 : Option Value} {st : List Value} {x y : Int32} : GX1_mayTakeSeat w Q 13 [l0] (.int y :: .int x :: st) u ↔ (x = y → GX1_mayTakeSeat w Q 20 [l0] st u) ∧ (¬ (x = y) → GX1_mayTakeSeat w Q 16 [l0] st u) := (WP_u (.if_icmp .eq 7) [20] rfl).trans ex_br
theorem eX1_mayTakeSeat_16 {l0 : Option Value} {st : List Value} : GX1_mayTakeSeat w Q 16 [l0] st u ↔ GX1_mayTakeSeat w Q 17 [l0] (.int 1 :: st) u := WP_iconst rfl (by decide)
theorem eX1_mayTakeSeat_17 {l0 : Option Value} {st : List Value} : GX1_mayTakeSeat w Q 17 [l0] st u ↔ GX1_mayTakeSeat w Q 21 [l0] st u := WP_u (.goto 4) [21] rfl
theorem eX1_mayTakeSeat_20 {l0 : Option Value} {st : List Value} : GX1_mayTakeSeat w Q 20 [l0] st u ↔ GX1_mayTakeSeat w Q 21 [l0] (.int 0 :: st) u := WP_iconst rfl (by decide)
theorem eX1_mayTakeSeat_21 {l0 : Option Value} {x : Int32} : GX1_mayTakeSeat w Q 21 [l0] [.int x] u ↔ nb x ∧ Q (some (.int x)) u := (WP_u (.ireturn) [] rfl).trans ex_k
end
def VX1_mayTakeSeat (w : WW) : Prop := ∀ (a0 : Nat) (u : MM), oOk w a0 → pX1_mayTakeSeat (fo w a0) u → GX1_mayTakeSeat w (fun r u' => r = some (.int (rX1_mayTakeSeat (fo w a0) u)) ∧ u' = u) 0 [some (.ref a0)] [] u
def KX1_leans (w : WW) : KT := (al flX1, al ciX1, al clX1, al [(33, 0), (37, 1), (40, 2), (43, 3)], fun _ => none, al [])
abbrev GX1_leans (w : WW) (Q : Option Value → MM → Prop) : Nat → LL → List Value → MM → Prop := WP w MX1_leans TX1_leans (KX1_leans w) Q
section
variable {w : WW} {Q : Option Value → MM → Prop} {u : MM}
theorem eX1_leans_0 {l0 : Option Value} {st : List Value} : GX1_leans w Q 0 [l0] st u ↔ GX1_leans w Q 3 [l0] (.ref (wA w 1) :: st) u := WP_u (.getstatic 37) [] rfl
theorem eX1_leans_3 {st : List Value} {x : Nat} : GX1_leans w Q 3 [some (.ref x)] st u ↔ GX1_leans w Q 4 [some (.ref x)] (.ref x :: st) u := WP_u (.aload_n 0) [] rfl
theorem eX1_leans_4 {l0 : Option Value} {st : List Value} {a : Nat} : GX1_leans w Q 4 [l0] (.ref a :: st) u ↔ okI w a 1 0 ∧ GX1_leans w Q 7 [l0] (.int (u.1 (ixI w a 0)) :: st) u := (WP_u (.getfield 9) [] rfl).trans ex_and
theorem eX1_leans_7 {l0 : Option Value} {st : List Value} {a : Nat} {i : Int32} : GX1_leans w Q 7 [l0] (.int i :: .ref a :: st) u ↔ okAI w a i ∧ GX1_leans w Q 8 [l0] (.int (rdA w u a i) :: st) u := (WP_u (.iaload) [] rfl).trans ex_and
theorem eX1_leans_8 {st : List Value} {x : Nat} : GX1_leans w Q 8 [some (.ref x)] st u ↔ GX1_leans w Q 9 [some (.ref x)] (.ref x :: st) u := WP_u (.aload_n 0) [] rfl
theorem eX1_leans_9 {l0 : Option Value} {st : List Value} {a : Nat} : GX1_leans w Q 9 [l0] (.ref a :: st) u ↔ okI w a 1 2 ∧ GX1_leans w Q 12 [l0] (.int (u.1 (ixI w a 2)) :: st) u := (WP_u (.getfield 18) [] rfl).trans ex_and
theorem eX1_leans_12 {l0 : Option Value} {st : List Value} {x y : Int32} : GX1_leans w Q 12 [l0] (.int y :: .int x :: st) u ↔ GX1_leans w Q 13 [l0] (.int (x * y) :: st) u := WP_u (.imul) [] rfl
theorem eX1_leans_13 {l0 : Option Value} {st : List Value} : GX1_leans w Q 13 [l0] st u ↔ GX1_leans w Q 16 [l0] (.ref (wA w 2) :: st) u := WP_u (.getstatic 40) [] rfl
theorem eX1_leans_16 {st : List Value} {x : Nat} : GX1_leans w Q 16 [some (.ref x)] st u ↔ GX1_leans w Q 17 [some (.ref x)] (.ref x :: st) u := WP_u (.aload_n 0) [] rfl
theorem eX1_leans_17 {l0 : Option Value} {st : List Value} {a : Nat} : GX1_leans w Q 17 [l0] (.ref a :: st) u ↔ okI w a 1 0 ∧ GX1_leans w Q 20 [l0] (.int (u.1 (ixI w a 0)) :: st) u := (WP_u (.getfield 9) [] rfl).trans ex_and
theorem eX1_leans_20 {l0 : Option Value} {st : List Value} {a : Nat} {i : Int32} : GX1_leans w Q 20 [l0] (.int i :: .ref a :: st) u ↔ okAI w a i ∧ GX1_leans w Q 21 [l0] (.int (rdA w u a i) :: st) u := (WP_u (.iaload) [] rfl).trans ex_and
theorem eX1_leans_21 {l0 : Option Value} {st : List Value} {x y : Int32} : GX1_leans w Q 21 [l0] (.int y :: .int x :: st) u ↔ GX1_leans w Q 22 [l0] (.int (x + y) :: st) u := WP_u (.iadd) [] rfl
theorem eX1_leans_22 {l0 : Option Value} {x : Int32} : GX1_leans w Q 22 [l0] [.int x] u ↔ Q (some (.int x)) u := (WP_u (.ireturn) [] rfl).trans (ex_ret rfl)
end
def VX1_leans (w : WW) : Prop := ∀ (a0 : Nat) (u : MM), oOk w a0 → wOk w → pX1_leans (fo w a0) u → GX1_leans w (fun r u' => r = some (.int (rX1_leans (fo w a0) u)) ∧ u' = u) 0 [some (.ref a0)] [] u
def KX1_stays (w : WW) : KT := (al flX1, al ciX1, al clX1, al [(33, 0), (37, 1), (40, 2), (43, 3)], fun _ => none, al [])
abbrev GX1_stays (w : WW) (Q : Option Value → MM → Prop) : Nat → LL → List Value → MM → Prop := WP w MX1_stays TX1_stays (KX1_stays w) Q
section
variable {w : WW} {Q : Option Value → MM → Prop} {u : MM}
theorem eX1_stays_0 {l0 : Option Value} {st : List Value} : GX1_stays w Q 0 [l0] st u ↔ GX1_stays w Q 3 [l0] (.ref (wA w 3) :: st) u := WP_u (.getstatic 43) [] rfl
theorem eX1_stays_3 {st : List Value} {x : Nat} : GX1_stays w Q 3 [some (.ref x)] st u ↔ GX1_stays w Q 4 [some (.ref x)] (.ref x :: st) u := WP_u (.aload_n 0) [] rfl
theorem eX1_stays_4 {l0 : Option Value} {st : List Value} {a : Nat} : GX1_stays w Q 4 [l0] (.ref a :: st) u ↔ okI w a 1 0 ∧ GX1_stays w Q 7 [l0] (.int (u.1 (ixI w a 0)) :: st) u := (WP_u (.getfield 9) [] rfl).trans ex_and
theorem eX1_stays_7 {l0 : Option Value} {st : List Value} {a : Nat} {i : Int32} : GX1_stays w Q 7 [l0] (.int i :: .ref a :: st) u ↔ okAI w a i ∧ GX1_stays w Q 8 [l0] (.int (rdA w u a i) :: st) u := (WP_u (.iaload) [] rfl).trans ex_and
theorem eX1_stays_8 {l0 : Option Value} {x : Int32} : GX1_stays w Q 8 [l0] [.int x] u ↔ Q (some (.int x)) u := (WP_u (.ireturn) [] rfl).trans (ex_ret rfl)
end
def VX1_stays (w : WW) : Prop := ∀ (a0 : Nat) (u : MM), oOk w a0 → wOk w → pX1_stays (fo w a0) u → GX1_stays w (fun r u' => r = some (.int (rX1_stays (fo w a0) u)) ∧ u' = u) 0 [some (.ref a0)] [] u
def KX1_goes (w : WW) : KT := (al flX1, al ciX1, al clX1, al [(33, 0), (37, 1), (40, 2), (43, 3)], fun _ => none, al [])
abbrev GX1_goes (w : WW) (Q : Option Value → MM → Prop) : Nat → LL → List Value → MM → Prop := WP w MX1_goes TX1_goes (KX1_goes w) Q
section
variable {w : WW} {Q : Option Value → MM → Prop} {u : MM}
theorem eX1_goes_0 {l1 : Option Value} {st : List Value} {x : Nat} : GX1_goes w Q 0 [some (.ref x), l1] st u ↔ GX1_goes w Q 1 [some (.ref x), l1] (.ref x :: st) u := WP_u (.aload_n 0) [] rfl
theorem eX1_goes_1 {l0 l1 : Option Value} {st : List Value} {a : Nat} : GX1_goes w Q 1 [l0, l1] (.ref a :: st) u ↔ okI w a 1 0 ∧ GX1_goes w Q 4 [l0, l1] (.int (u.1 (ixI w a 0)) :: st) u := (WP_u (.getfield 9) [] rfl).trans ex_and
theorem eX1_goes_4 {l0 l1 : Option Value} {st : List Value} {x : Int32} : GX1_goes w Q 4 [l0, l1] (.int x :: st) u ↔ (x = 1 → GX1_goes w Q 42 [l0, l1] st u) ∧ (¬ x = 1 → ((x = 2 → GX1_goes w Q 40 [l0, l1] st u) ∧ (¬ x = 2 → ((x = 3 → GX1_goes w Q 54 [l0, l1] st u) ∧ (¬ x = 3 → ((x = 4 → GX1_goes w Q 54 [l0, l1] st u) ∧ (¬ x = 4 → ((x = 5 → GX1_goes w Q 42 [l0, l1] st u) ∧ (¬ x = 5 → GX1_goes w Q 66 [l0, l1] st u))))))))) := (WP_u (.tableswitch 62 1 5 #[38, 36, 50, 50, 38]) [66, 42, 40, 54, 54, 42] rfl).trans ((ex_swc (f := fun t n => wp w MX1_goes TX1_goes (KX1_goes w) Q n t [l0, l1] st u) (d := fun n => wp w MX1_goes TX1_goes (KX1_goes w) Q n 66 [l0, l1] st u) [42, 40, 54, 54, 42] 1).trans Iff.rfl)
theorem eX1_goes_40 {l0 l1 : Option Value} {st : List Value} : GX1_goes w Q 40 [l0, l1] st u ↔ GX1_goes w Q 41 [l0, l1] (.int 2 :: st) u := WP_iconst rfl (by decide)
theorem eX1_goes_41 {l0 l1 : Option Value} {x : Int32} : GX1_goes w Q 41 [l0, l1] [.int x] u ↔ Q (some (.int x)) u := (WP_u (.ireturn) [] rfl).trans (ex_ret rfl)
theorem eX1_goes_42 {l0 : Option Value} {st : List Value} {x : Int32} : GX1_goes w Q 42 [l0, some (.int x)] st u ↔ GX1_goes w Q 43 [l0, some (.int x)] (.int x :: st) u := WP_u (.iload_n 1) [] rfl
theorem eX1_goes_43 {l0 l1 : Option Value} {st : List Value} : GX1_goes w Q 43 [l0, l1] st u ↔ GX1_goes w Q 44 [l0, l1] (.int 2 :: st) u := WP_iconst rfl (by decide)
theorem eX1_goes_44 {l0 l1 : Option Value} {st : List Value} {x y : Int32} : GX1_goes w Q 44 [l0, l1] (.int y :: .int x :: st) u ↔ ¬ y = 0 ∧ GX1_goes w Q 45 [l0, l1] (.int (x - x / y * y) :: st) u := (WP_u (.irem) [] rfl).trans ex_and
theorem eX1_goes_45 {l0 l1 : Option Value} {st : List Value} {x : Int32} : GX1_goes w Q 45 [l0, l1] (.int x :: st) u ↔ (¬ x = 0 → GX1_goes w Q 52 [l0, l1] st u) ∧ (¬ (¬ x = 0) → GX1_goes w Q 48 [l0, l1] st u) := (WP_u (.ifCond .ne 7) [52] rfl).trans ex_br
theorem eX1_goes_48 {l0 l1 : Option Value} {st : List Value} : GX1_goes w Q 48 [l0, l1] st u ↔ GX1_goes w Q 49 [l0, l1] (.int 1 :: st) u := WP_iconst rfl (by decide)
theorem eX1_goes_49 {l0 l1 : Option Value} {st : List Value} : GX1_goes w Q 49 [l0, l1] st u ↔ GX1_goes w Q 53 [l0, l1] st u := WP_u (.goto 4) [53] rfl
theorem eX1_goes_52 {l0 l1 : Option Value} {st : List Value} : GX1_goes w Q 52 [l0, l1] st u ↔ GX1_goes w Q 53 [l0, l1] (.int 0 :: st) u := WP_iconst rfl (by decide)
theorem eX1_goes_53 {l0 l1 : Option Value} {x : Int32} : GX1_goes w Q 53 [l0, l1] [.int x] u ↔ Q (some (.int x)) u := (WP_u (.ireturn) [] rfl).trans (ex_ret rfl)
theorem eX1_goes_54 {l0 : Option Value} {st : List Value} {x : Int32} : GX1_goes w Q 54 [l0, some (.int x)] st u ↔ GX1_goes w Q 55 [l0, some (.int x)] (.int x :: st) u := WP_u (.iload_n 1) [] rfl
theorem eX1_goes_55 {l0 l1 : Option Value} {st : List Value} : GX1_goes w Q 55 [l0, l1] st u ↔ GX1_goes w Q 56 [l0, l1] (.int 3 :: st) u := WP_iconst rfl (by decide)
theorem eX1_goes_56 {l0 l1 : Option Value} {st : List Value} {x y : Int32} : GX1_goes w Q 56 [l0, l1] (.int y :: .int x :: st) u ↔ ¬ y = 0 ∧ GX1_goes w Q 57 [l0, l1] (.int (x - x / y * y) :: st) u := (WP_u (.irem) [] rfl).trans ex_and
theorem eX1_goes_57 {l0 l1 : Option Value} {st : List Value} {x : Int32} : GX1_goes w Q 57 [l0, l1] (.int x :: st) u ↔ (¬ x = 0 → GX1_goes w Q 64 [l0, l1] st u) ∧ (¬ (¬ x = 0) → GX1_goes w Q 60 [l0, l1] st u) := (WP_u (.ifCond .ne 7) [64] rfl).trans ex_br
theorem eX1_goes_60 {l0 l1 : Option Value} {st : List Value} : GX1_goes w Q 60 [l0, l1] st u ↔ GX1_goes w Q 61 [l0, l1] (.int 0 :: st) u := WP_iconst rfl (by decide)
theorem eX1_goes_61 {l0 l1 : Option Value} {st : List Value} : GX1_goes w Q 61 [l0, l1] st u ↔ GX1_goes w Q 65 [l0, l1] st u := WP_u (.goto 4) [65] rfl
theorem eX1_goes_64 {l0 l1 : Option Value} {st : List Value} : GX1_goes w Q 64 [l0, l1] st u ↔ GX1_goes w Q 65 [l0, l1] (.int 1 :: st) u := WP_iconst rfl (by decide)
theorem eX1_goes_65 {l0 l1 : Option Value} {x : Int32} : GX1_goes w Q 65 [l0, l1] [.int x] u ↔ Q (some (.int x)) u := (WP_u (.ireturn) [] rfl).trans (ex_ret rfl)
theorem eX1_goes_66 {l0 l1 : Option Value} {st : List Value} : GX1_goes w Q 66 [l0, l1] st u ↔ GX1_goes w Q 67 [l0, l1] (.int 1 :: st) u := WP_iconst rfl (by decide)
theorem eX1_goes_67 {l0 l1 : Option Value} {x : Int32} : GX1_goes w Q 67 [l0, l1] [.int x] u ↔ Q (some (.int x)) u := (WP_u (.ireturn) [] rfl).trans (ex_ret rfl)
end
def VX1_goes (w : WW) : Prop := ∀ (a0 : Nat) (a1 : Int32) (u : MM), oOk w a0 → pX1_goes (fo w a0) a1 u → GX1_goes w (fun r u' => r = some (.int (rX1_goes (fo w a0) a1 u)) ∧ u' = u) 0 [some (.ref a0), some (.int a1)] [] u
def KX1_distance (w : WW) : KT := (al flX1, al ciX1, al clX1, al [(33, 0), (37, 1), (40, 2), (43, 3)], fun _ => none, al [(46, csX1_leans w)])
abbrev GX1_distance (w : WW) (Q : Option Value → MM → Prop) : Nat → LL → List Value → MM → Prop := WP w MX1_distance TX1_distance (KX1_distance w) Q
section
variable {w : WW} {Q : Option Value → MM → Prop} {u : MM}
theorem eX1_distance_0 {l1 l2 l3 : Option Value} {st : List Value} {x : Nat} : GX1_distance w Q 0 [some (.ref x), l1, l2, l3] st u ↔ GX1_distance w Q 1 [some (.ref x), l1, l2, l3] (.ref x :: st) u := WP_u (.aload_n 0) [] rfl
theorem eX1_distance_1 {l0 l1 l2 l3 : Option Value} {st : List Value} {a : Nat} : GX1_distance w Q 1 [l0, l1, l2, l3] (.ref a :: st) u ↔ okI w a 1 1 ∧ GX1_distance w Q 4 [l0, l1, l2, l3] (.int (u.1 (ixI w a 1)) :: st) u := (WP_u (.getfield 15) [] rfl).trans ex_and
theorem eX1_distance_4 {l0 l1 l2 l3 : Option Value} {st : List Value} : GX1_distance w Q 4 [l0, l1, l2, l3] st u ↔ GX1_distance w Q 6 [l0, l1, l2, l3] (.int 10 :: st) u := WP_bipush rfl (by decide)
theorem eX1_distance_6 {l0 l1 l2 l3 : Option Value} {st : List Value} {x y : Int32} : GX1_distance w Q 6 [l0, l1, l2, l3] (.int y :: .int x :: st) u ↔ ¬ y = 0 ∧ GX1_distance w Q 7 [l0, l1, l2, l3] (.int (x / y) :: st) u := (WP_u (.idiv) [] rfl).trans ex_and
theorem eX1_distance_7 {l0 l2 l3 : Option Value} {st : List Value} {x : Int32} : GX1_distance w Q 7 [l0, some (.int x), l2, l3] st u ↔ GX1_distance w Q 8 [l0, some (.int x), l2, l3] (.int x :: st) u := WP_u (.iload_n 1) [] rfl
theorem eX1_distance_8 {l0 l1 l2 l3 : Option Value} {st : List Value} : GX1_distance w Q 8 [l0, l1, l2, l3] st u ↔ GX1_distance w Q 10 [l0, l1, l2, l3] (.int 10 :: st) u := WP_bipush rfl (by decide)
theorem eX1_distance_10 {l0 l1 l2 l3 : Option Value} {st : List Value} {x y : Int32} : GX1_distance w Q 10 [l0, l1, l2, l3] (.int y :: .int x :: st) u ↔ ¬ y = 0 ∧ GX1_distance w Q 11 [l0, l1, l2, l3] (.int (x / y) :: st) u := (WP_u (.idiv) [] rfl).trans ex_and
theorem eX1_distance_11 {l0 l1 l2 l3 : Option Value} {st : List Value} {x y : Int32} : GX1_distance w Q 11 [l0, l1, l2, l3] (.int y :: .int x :: st) u ↔ GX1_distance w Q 12 [l0, l1, l2, l3] (.int (x - y) :: st) u := WP_u (.isub) [] rfl
theorem eX1_distance_12 {l0 l1 l2 l3 : Option Value} {st : List Value} {x : Int32} : GX1_distance w Q 12 [l0, l1, l2, l3] (.int x :: st) u ↔ GX1_distance w Q 13 [l0, kl l1, some (.int x), l3] st u := (WP_u (.istore_n 2) [] rfl).trans (ex_drop (Nat.le_of_ble_eq_true rfl))
theorem eX1_distance_13 {l1 l2 l3 : Option Value} {st : List Value} {x : Nat} : GX1_distance w Q 13 [some (.ref x), l1, l2, l3] st u ↔ GX1_distance w Q 14 [some (.ref x), l1, l2, l3] (.ref x :: st) u := WP_u (.aload_n 0) [] rfl
theorem eX1_distance_14 {l0 l1 l2 l3 : Option Value} {st : List Value} {a : Nat} : GX1_distance w Q 14 [l0, l1, l2, l3] (.ref a :: st) u ↔ okI w a 1 1 ∧ GX1_distance w Q 17 [l0, l1, l2, l3] (.int (u.1 (ixI w a 1)) :: st) u := (WP_u (.getfield 15) [] rfl).trans ex_and
theorem eX1_distance_17 {l0 l1 l2 l3 : Option Value} {st : List Value} : GX1_distance w Q 17 [l0, l1, l2, l3] st u ↔ GX1_distance w Q 19 [l0, l1, l2, l3] (.int 10 :: st) u := WP_bipush rfl (by decide)
theorem eX1_distance_19 {l0 l1 l2 l3 : Option Value} {st : List Value} {x y : Int32} : GX1_distance w Q 19 [l0, l1, l2, l3] (.int y :: .int x :: st) u ↔ ¬ y = 0 ∧ GX1_distance w Q 20 [l0, l1, l2, l3] (.int (x - x / y * y) :: st) u := (WP_u (.irem) [] rfl).trans ex_and
theorem eX1_distance_20 {l0 l2 l3 : Option Value} {st : List Value} {x : Int32} : GX1_distance w Q 20 [l0, some (.int x), l2, l3] st u ↔ GX1_distance w Q 21 [l0, some (.int x), l2, l3] (.int x :: st) u := WP_u (.iload_n 1) [] rfl
theorem eX1_distance_21 {l0 l1 l2 l3 : Option Value} {st : List Value} : GX1_distance w Q 21 [l0, l1, l2, l3] st u ↔ GX1_distance w Q 23 [l0, l1, l2, l3] (.int 10 :: st) u := WP_bipush rfl (by decide)
theorem eX1_distance_23 {l0 l1 l2 l3 : Option Value} {st : List Value} {x y : Int32} : GX1_distance w Q 23 [l0, l1, l2, l3] (.int y :: .int x :: st) u ↔ ¬ y = 0 ∧ GX1_distance w Q 24 [l0, l1, l2, l3] (.int (x - x / y * y) :: st) u := (WP_u (.irem) [] rfl).trans ex_and
theorem eX1_distance_24 {l0 l1 l2 l3 : Option Value} {st : List Value} {x y : Int32} : GX1_distance w Q 24 [l0, l1, l2, l3] (.int y :: .int x :: st) u ↔ GX1_distance w Q 25 [l0, l1, l2, l3] (.int (x - y) :: st) u := WP_u (.isub) [] rfl
theorem eX1_distance_25 {l0 l1 l2 l3 : Option Value} {st : List Value} {x : Int32} : GX1_distance w Q 25 [l0, l1, l2, l3] (.int x :: st) u ↔ GX1_distance w Q 26 [l0, l1, kl l2, some (.int x)] st u := (WP_u (.istore_n 3) [] rfl).trans (ex_drop (Nat.le_of_ble_eq_true rfl))
theorem eX1_distance_26 {l0 l1 l2 l3 : Option Value} {st : List Value} : GX1_distance w Q 26 [l0, l1, l2, l3] st u ↔ GX1_distance w Q 28 [l0, l1, l2, l3] (.int 100 :: st) u := WP_bipush rfl (by decide)
theorem eX1_distance_28 {l0 l1 l3 : Option Value} {st : List Value} {x : Int32} : GX1_distance w Q 28 [l0, l1, some (.int x), l3] st u ↔ GX1_distance w Q 29 [l0, l1, some (.int x), l3] (.int x :: st) u := WP_u (.iload_n 2) [] rfl
theorem eX1_distance_29 {l0 l1 l3 : Option Value} {st : List Value} {x : Int32} : GX1_distance w Q 29 [l0, l1, some (.int x), l3] st u ↔ GX1_distance w Q 30 [l0, l1, some (.int x), l3] (.int x :: st) u := WP_u (.iload_n 2) [] rfl
theorem eX1_distance_30 {l0 l1 l2 l3 : Option Value} {st : List Value} {x y : Int32} : GX1_distance w Q 30 [l0, l1, l2, l3] (.int y :: .int x :: st) u ↔ GX1_distance w Q 31 [l0, l1, l2, l3] (.int (x * y) :: st) u := WP_u (.imul) [] rfl
theorem eX1_distance_31 {l0 l1 l2 : Option Value} {st : List Value} {x : Int32} : GX1_distance w Q 31 [l0, l1, l2, some (.int x)] st u ↔ GX1_distance w Q 32 [l0, l1, l2, some (.int x)] (.int x :: st) u := WP_u (.iload_n 3) [] rfl
theorem eX1_distance_32 {l0 l1 l2 : Option Value} {st : List Value} {x : Int32} : GX1_distance w Q 32 [l0, l1, l2, some (.int x)] st u ↔ GX1_distance w Q 33 [l0, l1, l2, some (.int x)] (.int x :: st) u := WP_u (.iload_n 3) [] rfl
theorem eX1_distance_33 {l0 l1 l2 l3 : Option Value} {st : List Value} {x y : Int32} : GX1_distance w Q 33 [l0, l1, l2, l3] (.int y :: .int x :: st) u ↔ GX1_distance w Q 34 [l0, l1, l2, l3] (.int (x * y) :: st) u := WP_u (.imul) [] rfl
theorem eX1_distance_34 {l0 l1 l2 l3 : Option Value} {st : List Value} {x y : Int32} : GX1_distance w Q 34 [l0, l1, l2, l3] (.int y :: .int x :: st) u ↔ GX1_distance w Q 35 [l0, l1, l2, l3] (.int (x + y) :: st) u := WP_u (.iadd) [] rfl
theorem eX1_distance_35 {l0 l1 l2 l3 : Option Value} {st : List Value} {x y : Int32} : GX1_distance w Q 35 [l0, l1, l2, l3] (.int y :: .int x :: st) u ↔ GX1_distance w Q 36 [l0, l1, l2, l3] (.int (x * y) :: st) u := WP_u (.imul) [] rfl
theorem eX1_distance_36 {l1 l2 l3 : Option Value} {st : List Value} {x : Nat} : GX1_distance w Q 36 [some (.ref x), l1, l2, l3] st u ↔ GX1_distance w Q 37 [some (.ref x), l1, l2, l3] (.ref x :: st) u := WP_u (.aload_n 0) [] rfl
theorem eX1_distance_37 {l0 l1 l2 l3 : Option Value} {x0 : Nat} {x1 : Int32} : GX1_distance w Q 37 [l0, l1, l2, l3] [.ref x0, .int x1] u ↔ (oOk w x0 ∧ wOk w ∧ pX1_leans (fo w x0) u) ∧ GX1_distance w Q 40 [l0, l1, l2, l3] [.int (rX1_leans (fo w x0) u), .int x1] u := (WP_u (.invokevirtual 46) [] rfl).trans (ex_call ⟨Nat.le_of_ble_eq_true rfl, Nat.le_of_ble_eq_true rfl⟩)
theorem eX1_distance_40 {l0 l1 l2 l3 : Option Value} {st : List Value} {x y : Int32} : GX1_distance w Q 40 [l0, l1, l2, l3] (.int y :: .int x :: st) u ↔ GX1_distance w Q 41 [l0, l1, l2, l3] (.int (x - y) :: st) u := WP_u (.isub) [] rfl
theorem eX1_distance_41 {l0 l1 l2 l3 : Option Value} {x : Int32} : GX1_distance w Q 41 [l0, l1, l2, l3] [.int x] u ↔ Q (some (.int x)) u := (WP_u (.ireturn) [] rfl).trans (ex_ret rfl)
end
def VX1_distance (w : WW) : Prop := ∀ (a0 : Nat) (a1 : Int32) (u : MM), oOk w a0 → wOk w → pX1_distance (fo w a0) a1 u → GX1_distance w (fun r u' => r = some (.int (rX1_distance (fo w a0) a1 u)) ∧ u' = u) 0 [some (.ref a0), some (.int a1), none, none] [] u
def KX1_isOfKind (w : WW) : KT := (al flX1, al ciX1, al clX1, al [(33, 0), (37, 1), (40, 2), (43, 3)], fun _ => none, al [])
abbrev GX1_isOfKind (w : WW) (Q : Option Value → MM → Prop) : Nat → LL → List Value → MM → Prop := WP w MX1_isOfKind TX1_isOfKind (KX1_isOfKind w) Q
section
variable {w : WW} {Q : Option Value → MM → Prop} {u : MM}
theorem eX1_isOfKind_0 {l1 l2 l3 : Option Value} {st : List Value} {x : Nat} : GX1_isOfKind w Q 0 [some (.ref x), l1, l2, l3] st u ↔ GX1_isOfKind w Q 1 [some (.ref x), l1, l2, l3] (.ref x :: st) u := WP_u (.aload_n 0) [] rfl
theorem eX1_isOfKind_1 {l0 l1 l2 l3 : Option Value} {st : List Value} {a : Nat} : GX1_isOfKind w Q 1 [l0, l1, l2, l3] (.ref a :: st) u ↔ okI w a 1 0 ∧ GX1_isOfKind w Q 4 [l0, l1, l2, l3] (.int (u.1 (ixI w a 0)) :: st) u := (WP_u (.getfield 9) [] rfl).trans ex_and
theorem eX1_isOfKind_4 {l0 l1 l2 l3 : Option Value} {st : List Value} {x : Int32} : GX1_isOfKind w Q 4 [l0, l1, l2, l3] (.int x :: st) u ↔ GX1_isOfKind w Q 5 [l0, kl l1, some (.int x), l3] st u := (WP_u (.istore_n 2) [] rfl).trans (ex_drop (Nat.le_of_ble_eq_true rfl))
theorem eX1_isOfKind_5 {l0 l1 l2 l3 : Option Value} {st : List Value} : GX1_isOfKind w Q 5 [l0, l1, l2, l3] st u ↔ GX1_isOfKind w Q 6 [l0, l1, l2, l3] (.int 0 :: st) u := WP_iconst rfl (by decide)
theorem eX1_isOfKind_6 {l0 l1 l2 l3 : Option Value} {st : List Value} {x : Int32} : GX1_isOfKind w Q 6 [l0, l1, l2, l3] (.int x :: st) u ↔ GX1_isOfKind w Q 7 [l0, l1, kl l2, some (.int x)] st u := (WP_u (.istore_n 3) [] rfl).trans (ex_drop (Nat.le_of_ble_eq_true rfl))
theorem eX1_isOfKind_7 {l0 l1 l2 : Option Value} {st : List Value} {x : Int32} : GX1_isOfKind w Q 7 [l0, l1, l2, some (.int x)] st u ↔ GX1_isOfKind w Q 8 [l0, l1, l2, some (.int x)] (.int x :: st) u := WP_u (.iload_n 3) [] rfl
theorem eX1_isOfKind_8 {l0 l1 l2 l3 : Option Value} {st : List Value} : GX1_isOfKind w Q 8 [l0, l1, l2, l3] st u ↔ GX1_isOfKind w Q 10 [l0, l1, l2, l3] (.int 6 :: st) u := WP_bipush rfl (by decide)
theorem eX1_isOfKind_10 {l0 l1 l2 l3 : Option Value} {st : List Value} {x y : Int32} : GX1_isOfKind w Q 10 [l0, l1, l2, l3] (.int y :: .int x :: st) u ↔ (y ≤ x → GX1_isOfKind w Q 36 [l0, l1, l2, l3] st u) ∧ (¬ (y ≤ x) → GX1_isOfKind w Q 13 [l0, l1, l2, l3] st u) := (WP_u (.if_icmp .ge 26) [36] rfl).trans ex_br
theorem eX1_isOfKind_13 {l0 l1 l3 : Option Value} {st : List Value} {x : Int32} : GX1_isOfKind w Q 13 [l0, l1, some (.int x), l3] st u ↔ GX1_isOfKind w Q 14 [l0, l1, some (.int x), l3] (.int x :: st) u := WP_u (.iload_n 2) [] rfl
theorem eX1_isOfKind_14 {l0 l1 l2 l3 : Option Value} {st : List Value} {x : Int32} : GX1_isOfKind w Q 14 [l0, l1, l2, l3] (.int x :: st) u ↔ (x < 0 → GX1_isOfKind w Q 36 [l0, l1, l2, l3] st u) ∧ (¬ (x < 0) → GX1_isOfKind w Q 17 [l0, l1, l2, l3] st u) := (WP_u (.ifCond .lt 22) [36] rfl).trans ex_br
theorem eX1_isOfKind_17 {l0 l1 l3 : Option Value} {st : List Value} {x : Int32} : GX1_isOfKind w Q 17 [l0, l1, some (.int x), l3] st u ↔ GX1_isOfKind w Q 18 [l0, l1, some (.int x), l3] (.int x :: st) u := WP_u (.iload_n 2) [] rfl
theorem eX1_isOfKind_18 {l0 l2 l3 : Option Value} {st : List Value} {x : Int32} : GX1_isOfKind w Q 18 [l0, some (.int x), l2, l3] st u ↔ GX1_isOfKind w Q 19 [l0, some (.int x), l2, l3] (.int x :: st) u := WP_u (.iload_n 1) [] rfl
theorem eX1_isOfKind_19 {l0 l1 l2 l3 : Option Value} {st : List Value} {x y : Int32} : GX1_isOfKind w Q 19 [l0, l1, l2, l3] (.int y :: .int x :: st) u ↔ (¬ x = y → GX1_isOfKind w Q 24 [l0, l1, l2, l3] st u) ∧ (¬ (¬ x = y) → GX1_isOfKind w Q 22 [l0, l1, l2, l3] st u) := (WP_u (.if_icmp .ne 5) [24] rfl).trans ex_br
theorem eX1_isOfKind_22 {l0 l1 l2 l3 : Option Value} {st : List Value} : GX1_isOfKind w Q 22 [l0, l1, l2, l3] st u ↔ GX1_isOfKind w Q 23 [l0, l1, l2, l3] (.int 1 :: st) u := WP_iconst rfl (by decide)
theorem eX1_isOfKind_23 {l0 l1 l2 l3 : Option Value} {x : Int32} : GX1_isOfKind w Q 23 [l0, l1, l2, l3] [.int x] u ↔ nb x ∧ Q (some (.int x)) u := (WP_u (.ireturn) [] rfl).trans ex_k
theorem eX1_isOfKind_24 {l0 l1 l2 l3 : Option Value} {st : List Value} : GX1_isOfKind w Q 24 [l0, l1, l2, l3] st u ↔ GX1_isOfKind w Q 27 [l0, l1, l2, l3] (.ref (wA w 0) :: st) u := WP_u (.getstatic 33) [] rfl
theorem eX1_isOfKind_27 {l0 l1 l3 : Option Value} {st : List Value} {x : Int32} : GX1_isOfKind w Q 27 [l0, l1, some (.int x), l3] st u ↔ GX1_isOfKind w Q 28 [l0, l1, some (.int x), l3] (.int x :: st) u := WP_u (.iload_n 2) [] rfl
theorem eX1_isOfKind_28 {l0 l1 l2 l3 : Option Value} {st : List Value} {a : Nat} {i : Int32} : GX1_isOfKind w Q 28 [l0, l1, l2, l3] (.int i :: .ref a :: st) u ↔ okAI w a i ∧ GX1_isOfKind w Q 29 [l0, l1, l2, l3] (.int (rdA w u a i) :: st) u := (WP_u (.iaload) [] rfl).trans ex_and
theorem eX1_isOfKind_29 {l0 l1 l2 l3 : Option Value} {st : List Value} {x : Int32} : GX1_isOfKind w Q 29 [l0, l1, l2, l3] (.int x :: st) u ↔ GX1_isOfKind w Q 30 [l0, kl l1, some (.int x), l3] st u := (WP_u (.istore_n 2) [] rfl).trans (ex_drop (Nat.le_of_ble_eq_true rfl))
theorem eX1_isOfKind_30 {l0 l1 l2 : Option Value} {st : List Value} {x : Int32} : GX1_isOfKind w Q 30 [l0, l1, l2, some (.int x)] st u ↔ GX1_isOfKind w Q 33 [l0, l1, kl l2, some (.int (x + 1))] st u := WP_iinc rfl (by decide) rfl rfl
theorem eX1_isOfKind_33 {l0 l1 l2 l3 : Option Value} {st : List Value} : GX1_isOfKind w Q 33 [l0, l1, l2, l3] st u ↔ GX1_isOfKind w Q 7 [l0, l1, l2, l3] st u := WP_u (.goto (-26)) [7] rfl
theorem eX1_isOfKind_36 {l0 l1 l2 l3 : Option Value} {st : List Value} : GX1_isOfKind w Q 36 [l0, l1, l2, l3] st u ↔ GX1_isOfKind w Q 37 [l0, l1, l2, l3] (.int 0 :: st) u := WP_iconst rfl (by decide)
theorem eX1_isOfKind_37 {l0 l1 l2 l3 : Option Value} {x : Int32} : GX1_isOfKind w Q 37 [l0, l1, l2, l3] [.int x] u ↔ nb x ∧ Q (some (.int x)) u := (WP_u (.ireturn) [] rfl).trans ex_k
end
def VX1_isOfKind (w : WW) : Prop := ∀ (a0 : Nat) (a1 : Int32) (u : MM), oOk w a0 → wOk w → pX1_isOfKind (fo w a0) a1 u → GX1_isOfKind w (fun r u' => r = some (.int (rX1_isOfKind (fo w a0) a1 u)) ∧ u' = u) 0 [some (.ref a0), some (.int a1), none, none] [] u
def KX1_spotOneStepTowards (w : WW) : KT := (al flX1, al ciX1, al clX1, al [(33, 0), (37, 1), (40, 2), (43, 3)], fun _ => none, al [(65586, csJ6_compare_7cf53 w)])
abbrev GX1_spotOneStepTowards (w : WW) (Q : Option Value → MM → Prop) : Nat → LL → List Value → MM → Prop := WP w MX1_spotOneStepTowards TX1_spotOneStepTowards (KX1_spotOneStepTowards w) Q
section
variable {w : WW} {Q : Option Value → MM → Prop} {u : MM}
theorem eX1_spotOneStepTowards_0 {l1 l2 l3 : Option Value} {st : List Value} {x : Nat} : GX1_spotOneStepTowards w Q 0 [some (.ref x), l1, l2, l3] st u ↔ GX1_spotOneStepTowards w Q 1 [some (.ref x), l1, l2, l3] (.ref x :: st) u := WP_u (.aload_n 0) [] rfl
theorem eX1_spotOneStepTowards_1 {l0 l1 l2 l3 : Option Value} {st : List Value} {a : Nat} : GX1_spotOneStepTowards w Q 1 [l0, l1, l2, l3] (.ref a :: st) u ↔ okI w a 1 1 ∧ GX1_spotOneStepTowards w Q 4 [l0, l1, l2, l3] (.int (u.1 (ixI w a 1)) :: st) u := (WP_u (.getfield 15) [] rfl).trans ex_and
theorem eX1_spotOneStepTowards_4 {l0 l1 l2 l3 : Option Value} {st : List Value} : GX1_spotOneStepTowards w Q 4 [l0, l1, l2, l3] st u ↔ GX1_spotOneStepTowards w Q 6 [l0, l1, l2, l3] (.int 10 :: st) u := WP_bipush rfl (by decide)
theorem eX1_spotOneStepTowards_6 {l0 l1 l2 l3 : Option Value} {st : List Value} {x y : Int32} : GX1_spotOneStepTowards w Q 6 [l0, l1, l2, l3] (.int y :: .int x :: st) u ↔ ¬ y = 0 ∧ GX1_spotOneStepTowards w Q 7 [l0, l1, l2, l3] (.int (x / y) :: st) u := (WP_u (.idiv) [] rfl).trans ex_and
theorem eX1_spotOneStepTowards_7 {l0 l1 l2 l3 : Option Value} {st : List Value} {x : Int32} : GX1_spotOneStepTowards w Q 7 [l0, l1, l2, l3] (.int x :: st) u ↔ GX1_spotOneStepTowards w Q 8 [l0, kl l1, some (.int x), l3] st u := (WP_u (.istore_n 2) [] rfl).trans (ex_drop (Nat.le_of_ble_eq_true rfl))
theorem eX1_spotOneStepTowards_8 {l1 l2 l3 : Option Value} {st : List Value} {x : Nat} : GX1_spotOneStepTowards w Q 8 [some (.ref x), l1, l2, l3] st u ↔ GX1_spotOneStepTowards w Q 9 [some (.ref x), l1, l2, l3] (.ref x :: st) u := WP_u (.aload_n 0) [] rfl
theorem eX1_spotOneStepTowards_9 {l0 l1 l2 l3 : Option Value} {st : List Value} {a : Nat} : GX1_spotOneStepTowards w Q 9 [l0, l1, l2, l3] (.ref a :: st) u ↔ okI w a 1 1 ∧ GX1_spotOneStepTowards w Q 12 [l0, l1, l2, l3] (.int (u.1 (ixI w a 1)) :: st) u := (WP_u (.getfield 15) [] rfl).trans ex_and
theorem eX1_spotOneStepTowards_12 {l0 l1 l2 l3 : Option Value} {st : List Value} : GX1_spotOneStepTowards w Q 12 [l0, l1, l2, l3] st u ↔ GX1_spotOneStepTowards w Q 14 [l0, l1, l2, l3] (.int 10 :: st) u := WP_bipush rfl (by decide)
theorem eX1_spotOneStepTowards_14 {l0 l1 l2 l3 : Option Value} {st : List Value} {x y : Int32} : GX1_spotOneStepTowards w Q 14 [l0, l1, l2, l3] (.int y :: .int x :: st) u ↔ ¬ y = 0 ∧ GX1_spotOneStepTowards w Q 15 [l0, l1, l2, l3] (.int (x - x / y * y) :: st) u := (WP_u (.irem) [] rfl).trans ex_and
theorem eX1_spotOneStepTowards_15 {l0 l1 l2 l3 : Option Value} {st : List Value} {x : Int32} : GX1_spotOneStepTowards w Q 15 [l0, l1, l2, l3] (.int x :: st) u ↔ GX1_spotOneStepTowards w Q 16 [l0, l1, kl l2, some (.int x)] st u := (WP_u (.istore_n 3) [] rfl).trans (ex_drop (Nat.le_of_ble_eq_true rfl))
theorem eX1_spotOneStepTowards_16 {l0 l1 l2 l3 : Option Value} {st : List Value} : GX1_spotOneStepTowards w Q 16 [l0, l1, l2, l3] st u ↔ GX1_spotOneStepTowards w Q 18 [l0, l1, l2, l3] (.int 10 :: st) u := WP_bipush rfl (by decide)
theorem eX1_spotOneStepTowards_18 {l0 l1 l3 : Option Value} {st : List Value} {x : Int32} : GX1_spotOneStepTowards w Q 18 [l0, l1, some (.int x), l3] st u ↔ GX1_spotOneStepTowards w Q 19 [l0, l1, some (.int x), l3] (.int x :: st) u := WP_u (.iload_n 2) [] rfl
theorem eX1_spotOneStepTowards_19 {l0 l2 l3 : Option Value} {st : List Value} {x : Int32} : GX1_spotOneStepTowards w Q 19 [l0, some (.int x), l2, l3] st u ↔ GX1_spotOneStepTowards w Q 20 [l0, some (.int x), l2, l3] (.int x :: st) u := WP_u (.iload_n 1) [] rfl
theorem eX1_spotOneStepTowards_20 {l0 l1 l2 l3 : Option Value} {st : List Value} : GX1_spotOneStepTowards w Q 20 [l0, l1, l2, l3] st u ↔ GX1_spotOneStepTowards w Q 22 [l0, l1, l2, l3] (.int 10 :: st) u := WP_bipush rfl (by decide)
theorem eX1_spotOneStepTowards_22 {l0 l1 l2 l3 : Option Value} {st : List Value} {x y : Int32} : GX1_spotOneStepTowards w Q 22 [l0, l1, l2, l3] (.int y :: .int x :: st) u ↔ ¬ y = 0 ∧ GX1_spotOneStepTowards w Q 23 [l0, l1, l2, l3] (.int (x / y) :: st) u := (WP_u (.idiv) [] rfl).trans ex_and
theorem eX1_spotOneStepTowards_23 {l0 l1 l3 : Option Value} {st : List Value} {x : Int32} : GX1_spotOneStepTowards w Q 23 [l0, l1, some (.int x), l3] st u ↔ GX1_spotOneStepTowards w Q 24 [l0, l1, some (.int x), l3] (.int x :: st) u := WP_u (.iload_n 2) [] rfl
theorem eX1_spotOneStepTowards_24 {l0 l1 l2 l3 : Option Value} {x0 : Int32} {x1 : Int32} {x2 : Int32} {x3 : Int32} : GX1_spotOneStepTowards w Q 24 [l0, l1, l2, l3] [.int x0, .int x1, .int x2, .int x3] u ↔ (pJ6_compare_7cf53 x1 x0 u) ∧ GX1_spotOneStepTowards w Q 27 [l0, l1, l2, l3] [.int (rJ6_compare_7cf53 x1 x0 u), .int x2, .int x3] u := (WP_u (.invokestatic 50) [] rfl).trans (ex_call ⟨Nat.le_of_ble_eq_true rfl, Nat.le_of_ble_eq_true rfl⟩)
theorem eX1_spotOneStepTowards_27 {l0 l1 l2 l3 : Option Value} {st : List Value} {x y : Int32} : GX1_spotOneStepTowards w Q 27 [l0, l1, l2, l3] (.int y :: .int x :: st) u ↔ GX1_spotOneStepTowards w Q 28 [l0, l1, l2, l3] (.int (x + y) :: st) u := WP_u (.iadd) [] rfl
theorem eX1_spotOneStepTowards_28 {l0 l1 l2 l3 : Option Value} {st : List Value} {x y : Int32} : GX1_spotOneStepTowards w Q 28 [l0, l1, l2, l3] (.int y :: .int x :: st) u ↔ GX1_spotOneStepTowards w Q 29 [l0, l1, l2, l3] (.int (x * y) :: st) u := WP_u (.imul) [] rfl
theorem eX1_spotOneStepTowards_29 {l0 l1 l2 : Option Value} {st : List Value} {x : Int32} : GX1_spotOneStepTowards w Q 29 [l0, l1, l2, some (.int x)] st u ↔ GX1_spotOneStepTowards w Q 30 [l0, l1, l2, some (.int x)] (.int x :: st) u := WP_u (.iload_n 3) [] rfl
theorem eX1_spotOneStepTowards_30 {l0 l1 l2 l3 : Option Value} {st : List Value} {x y : Int32} : GX1_spotOneStepTowards w Q 30 [l0, l1, l2, l3] (.int y :: .int x :: st) u ↔ GX1_spotOneStepTowards w Q 31 [l0, l1, l2, l3] (.int (x + y) :: st) u := WP_u (.iadd) [] rfl
theorem eX1_spotOneStepTowards_31 {l0 l2 l3 : Option Value} {st : List Value} {x : Int32} : GX1_spotOneStepTowards w Q 31 [l0, some (.int x), l2, l3] st u ↔ GX1_spotOneStepTowards w Q 32 [l0, some (.int x), l2, l3] (.int x :: st) u := WP_u (.iload_n 1) [] rfl
theorem eX1_spotOneStepTowards_32 {l0 l1 l2 l3 : Option Value} {st : List Value} : GX1_spotOneStepTowards w Q 32 [l0, l1, l2, l3] st u ↔ GX1_spotOneStepTowards w Q 34 [l0, l1, l2, l3] (.int 10 :: st) u := WP_bipush rfl (by decide)
theorem eX1_spotOneStepTowards_34 {l0 l1 l2 l3 : Option Value} {st : List Value} {x y : Int32} : GX1_spotOneStepTowards w Q 34 [l0, l1, l2, l3] (.int y :: .int x :: st) u ↔ ¬ y = 0 ∧ GX1_spotOneStepTowards w Q 35 [l0, l1, l2, l3] (.int (x - x / y * y) :: st) u := (WP_u (.irem) [] rfl).trans ex_and
theorem eX1_spotOneStepTowards_35 {l0 l1 l2 : Option Value} {st : List Value} {x : Int32} : GX1_spotOneStepTowards w Q 35 [l0, l1, l2, some (.int x)] st u ↔ GX1_spotOneStepTowards w Q 36 [l0, l1, l2, some (.int x)] (.int x :: st) u := WP_u (.iload_n 3) [] rfl
theorem eX1_spotOneStepTowards_36 {l0 l1 l2 l3 : Option Value} {x0 : Int32} {x1 : Int32} {x2 : Int32} : GX1_spotOneStepTowards w Q 36 [l0, l1, l2, l3] [.int x0, .int x1, .int x2] u ↔ (pJ6_compare_7cf53 x1 x0 u) ∧ GX1_spotOneStepTowards w Q 39 [l0, l1, l2, l3] [.int (rJ6_compare_7cf53 x1 x0 u), .int x2] u := (WP_u (.invokestatic 50) [] rfl).trans (ex_call ⟨Nat.le_of_ble_eq_true rfl, Nat.le_of_ble_eq_true rfl⟩)
theorem eX1_spotOneStepTowards_39 {l0 l1 l2 l3 : Option Value} {st : List Value} {x y : Int32} : GX1_spotOneStepTowards w Q 39 [l0, l1, l2, l3] (.int y :: .int x :: st) u ↔ GX1_spotOneStepTowards w Q 40 [l0, l1, l2, l3] (.int (x + y) :: st) u := WP_u (.iadd) [] rfl
theorem eX1_spotOneStepTowards_40 {l0 l1 l2 l3 : Option Value} {x : Int32} : GX1_spotOneStepTowards w Q 40 [l0, l1, l2, l3] [.int x] u ↔ Q (some (.int x)) u := (WP_u (.ireturn) [] rfl).trans (ex_ret rfl)
end
def VX1_spotOneStepTowards (w : WW) : Prop := ∀ (a0 : Nat) (a1 : Int32) (u : MM), oOk w a0 → pX1_spotOneStepTowards (fo w a0) a1 u → GX1_spotOneStepTowards w (fun r u' => r = some (.int (rX1_spotOneStepTowards (fo w a0) a1 u)) ∧ u' = u) 0 [some (.ref a0), some (.int a1), none, none] [] u
def KX1_arrive (w : WW) : KT := (al flX1, al ciX1, al clX1, al [(33, 0), (37, 1), (40, 2), (43, 3)], fun _ => none, al [])
abbrev GX1_arrive (w : WW) (Q : Option Value → MM → Prop) : Nat → LL → List Value → MM → Prop := WP w MX1_arrive TX1_arrive (KX1_arrive w) Q
section
variable {w : WW} {Q : Option Value → MM → Prop} {u : MM}
theorem eX1_arrive_0 {l1 l2 l3 : Option Value} {st : List Value} {x : Nat} : GX1_arrive w Q 0 [some (.ref x), l1, l2, l3] st u ↔ GX1_arrive w Q 1 [some (.ref x), l1, l2, l3] (.ref x :: st) u := WP_u (.aload_n 0) [] rfl
theorem eX1_arrive_1 {l0 l2 l3 : Option Value} {st : List Value} {x : Int32} : GX1_arrive w Q 1 [l0, some (.int x), l2, l3] st u ↔ GX1_arrive w Q 2 [l0, some (.int x), l2, l3] (.int x :: st) u := WP_u (.iload_n 1) [] rfl
theorem eX1_arrive_2 {l0 l1 l2 l3 : Option Value} {st : List Value} {a : Nat} {x : Int32} : GX1_arrive w Q 2 [l0, l1, l2, l3] (.int x :: .ref a :: st) u ↔ okI w a 1 0 ∧ GX1_arrive w Q 5 [l0, l1, l2, l3] st (uI u (ixI w a 0) x) := (WP_u (.putfield 9) [] rfl).trans ex_and
theorem eX1_arrive_5 {l1 l2 l3 : Option Value} {st : List Value} {x : Nat} : GX1_arrive w Q 5 [some (.ref x), l1, l2, l3] st u ↔ GX1_arrive w Q 6 [some (.ref x), l1, l2, l3] (.ref x :: st) u := WP_u (.aload_n 0) [] rfl
theorem eX1_arrive_6 {l0 l1 l3 : Option Value} {st : List Value} {x : Int32} : GX1_arrive w Q 6 [l0, l1, some (.int x), l3] st u ↔ GX1_arrive w Q 7 [l0, l1, some (.int x), l3] (.int x :: st) u := WP_u (.iload_n 2) [] rfl
theorem eX1_arrive_7 {l0 l1 l2 l3 : Option Value} {st : List Value} {a : Nat} {x : Int32} : GX1_arrive w Q 7 [l0, l1, l2, l3] (.int x :: .ref a :: st) u ↔ okI w a 1 1 ∧ GX1_arrive w Q 10 [l0, l1, l2, l3] st (uI u (ixI w a 1) x) := (WP_u (.putfield 15) [] rfl).trans ex_and
theorem eX1_arrive_10 {l1 l2 l3 : Option Value} {st : List Value} {x : Nat} : GX1_arrive w Q 10 [some (.ref x), l1, l2, l3] st u ↔ GX1_arrive w Q 11 [some (.ref x), l1, l2, l3] (.ref x :: st) u := WP_u (.aload_n 0) [] rfl
theorem eX1_arrive_11 {l0 l1 l2 : Option Value} {st : List Value} {x : Int32} : GX1_arrive w Q 11 [l0, l1, l2, some (.int x)] st u ↔ GX1_arrive w Q 12 [l0, l1, l2, some (.int x)] (.int x :: st) u := WP_u (.iload_n 3) [] rfl
theorem eX1_arrive_12 {l0 l1 l2 l3 : Option Value} {st : List Value} {a : Nat} {x : Int32} : GX1_arrive w Q 12 [l0, l1, l2, l3] (.int x :: .ref a :: st) u ↔ okI w a 1 2 ∧ GX1_arrive w Q 15 [l0, l1, l2, l3] st (uI u (ixI w a 2) x) := (WP_u (.putfield 18) [] rfl).trans ex_and
theorem eX1_arrive_15 {l1 l2 l3 : Option Value} {st : List Value} {x : Nat} : GX1_arrive w Q 15 [some (.ref x), l1, l2, l3] st u ↔ GX1_arrive w Q 16 [some (.ref x), l1, l2, l3] (.ref x :: st) u := WP_u (.aload_n 0) [] rfl
theorem eX1_arrive_16 {l0 l1 l2 l3 : Option Value} {st : List Value} : GX1_arrive w Q 16 [l0, l1, l2, l3] st u ↔ GX1_arrive w Q 17 [l0, l1, l2, l3] (.int (-1) :: st) u := WP_iconst rfl (by decide)
theorem eX1_arrive_17 {l0 l1 l2 l3 : Option Value} {st : List Value} {a : Nat} {x : Int32} : GX1_arrive w Q 17 [l0, l1, l2, l3] (.int x :: .ref a :: st) u ↔ okI w a 1 3 ∧ GX1_arrive w Q 20 [l0, l1, l2, l3] st (uI u (ixI w a 3) x) := (WP_u (.putfield 21) [] rfl).trans ex_and
theorem eX1_arrive_20 {l1 l2 l3 : Option Value} {st : List Value} {x : Nat} : GX1_arrive w Q 20 [some (.ref x), l1, l2, l3] st u ↔ GX1_arrive w Q 21 [some (.ref x), l1, l2, l3] (.ref x :: st) u := WP_u (.aload_n 0) [] rfl
theorem eX1_arrive_21 {l0 l1 l2 l3 : Option Value} {st : List Value} : GX1_arrive w Q 21 [l0, l1, l2, l3] st u ↔ GX1_arrive w Q 22 [l0, l1, l2, l3] (.int 0 :: st) u := WP_iconst rfl (by decide)
theorem eX1_arrive_22 {l0 l1 l2 l3 : Option Value} {st : List Value} {a : Nat} {x : Int32} : GX1_arrive w Q 22 [l0, l1, l2, l3] (.int x :: .ref a :: st) u ↔ okI w a 1 4 ∧ GX1_arrive w Q 25 [l0, l1, l2, l3] st (uI u (ixI w a 4) x) := (WP_u (.putfield 24) [] rfl).trans ex_and
theorem eX1_arrive_25 {l1 l2 l3 : Option Value} {st : List Value} {x : Nat} : GX1_arrive w Q 25 [some (.ref x), l1, l2, l3] st u ↔ GX1_arrive w Q 26 [some (.ref x), l1, l2, l3] (.ref x :: st) u := WP_u (.aload_n 0) [] rfl
theorem eX1_arrive_26 {l0 l1 l2 l3 : Option Value} {st : List Value} : GX1_arrive w Q 26 [l0, l1, l2, l3] st u ↔ GX1_arrive w Q 27 [l0, l1, l2, l3] (.int (-1) :: st) u := WP_iconst rfl (by decide)
theorem eX1_arrive_27 {l0 l1 l2 l3 : Option Value} {st : List Value} {a : Nat} {x : Int32} : GX1_arrive w Q 27 [l0, l1, l2, l3] (.int x :: .ref a :: st) u ↔ okI w a 1 5 ∧ GX1_arrive w Q 30 [l0, l1, l2, l3] st (uI u (ixI w a 5) x) := (WP_u (.putfield 27) [] rfl).trans ex_and
theorem eX1_arrive_30 {l1 l2 l3 : Option Value} {st : List Value} {x : Nat} : GX1_arrive w Q 30 [some (.ref x), l1, l2, l3] st u ↔ GX1_arrive w Q 31 [some (.ref x), l1, l2, l3] (.ref x :: st) u := WP_u (.aload_n 0) [] rfl
theorem eX1_arrive_31 {l0 l1 l2 l3 : Option Value} {st : List Value} : GX1_arrive w Q 31 [l0, l1, l2, l3] st u ↔ GX1_arrive w Q 32 [l0, l1, l2, l3] (.int 0 :: st) u := WP_iconst rfl (by decide)
theorem eX1_arrive_32 {l0 l1 l2 l3 : Option Value} {st : List Value} {a : Nat} {x : Int32} : GX1_arrive w Q 32 [l0, l1, l2, l3] (.int x :: .ref a :: st) u ↔ okI w a 1 6 ∧ GX1_arrive w Q 35 [l0, l1, l2, l3] st (uI u (ixI w a 6) x) := (WP_u (.putfield 30) [] rfl).trans ex_and
theorem eX1_arrive_35 {l0 l1 l2 l3 : Option Value} : GX1_arrive w Q 35 [l0, l1, l2, l3] [] u ↔ Q none u := (WP_u (.return_) [] rfl).trans ex_k
end
def VX1_arrive (w : WW) : Prop := ∀ (a0 : Nat) (a1 : Int32) (a2 : Int32) (a3 : Int32) (u : MM), oOk w a0 → pX1_arrive (fo w a0) a1 a2 a3 u → GX1_arrive w (fun r u' => r = none ∧ u' = (mX1_arrive (fo w a0) a1 a2 a3 u)) 0 [some (.ref a0), some (.int a1), some (.int a2), some (.int a3)] [] u
theorem vX1_sits (w : WW) : VX1_sits w := by
  intro a u ha h
  simp only [eX1_sits_0, eX1_sits_1, eX1_sits_4, eX1_sits_5, eX1_sits_8, eX1_sits_9, eX1_sits_12, eX1_sits_13, kl_i, kl_r, kl_n, kl_l, true_and, and_true, true_implies, false_implies, not_true_eq_false, not_false_eq_true, i10, Classical.not_not, ok_o5 ha, ix_o5 ha, rX1_sits, Option.some.injEq, Value.int.injEq]
  exact ⟨fun c => ⟨nb_0, (bi_f (fun z => z c)).symm⟩, fun c => ⟨nb_1, (bi_t c).symm⟩⟩
set_option maxRecDepth 20000 in
theorem KX1_sits_ok (w : WW) : KOk w MX1_sits (KX1_sits w) := KOk_mk flX1_ok ciX1_ok clX1_ok (fun n t h => st_ok n t h) (fun _ _ h => by cases h) (List.forall_mem_nil _)
theorem ctX1_sits (w : WW) : CT w yX1_sits MX1_sits (csX1_sits w).2.1 (csX1_sits w).2.2 := by
  refine CT_of (by decide) rfl TX1_sits_ok TX1_sits_v (KX1_sits_ok w) (fun as u h => ?_)
  obtain ⟨a0, rfl, h⟩ := sgR h
  obtain ⟨h0, hh⟩ := h
  refine ⟨Nat.le_of_ble_eq_true rfl, ?_⟩
  have key := vX1_sits w a0 u h0 hh
  exact key
theorem prX1_sits (w : WW) : ∀ as u, (csX1_sits w).2.1 as u → ∃ a r, as = .ref a :: r ∧ r.length = 0 ∧ okO w a 1 := by
  intro as u h
  obtain ⟨a0, rfl, h⟩ := sgR h
  exact ⟨_, _, rfl, rfl, okO_o h⟩
theorem vX1_mayTakeSeat (w : WW) : VX1_mayTakeSeat w := by
  intro a u ha h
  simp only [eX1_mayTakeSeat_0, eX1_mayTakeSeat_1, eX1_mayTakeSeat_4, eX1_mayTakeSeat_5, eX1_mayTakeSeat_8, eX1_mayTakeSeat_9, eX1_mayTakeSeat_12, eX1_mayTakeSeat_13, eX1_mayTakeSeat_16, eX1_mayTakeSeat_17, eX1_mayTakeSeat_20, eX1_mayTakeSeat_21, kl_i, kl_r, kl_n, kl_l, true_and, and_true, true_implies, false_implies, not_true_eq_false, not_false_eq_true, i10, Classical.not_not, ok_o5 ha, ix_o5 ha, ok_o0 ha, ix_o0 ha, rX1_mayTakeSeat, Option.some.injEq, Value.int.injEq]
  exact ⟨fun c => ⟨nb_0, (bi_f (fun z => c z.1)).symm⟩, fun c => ⟨fun d => ⟨nb_0, (bi_f (fun z => z.2 d)).symm⟩, fun d => ⟨nb_1, (bi_t ⟨c, d⟩).symm⟩⟩⟩
set_option maxRecDepth 20000 in
theorem KX1_mayTakeSeat_ok (w : WW) : KOk w MX1_mayTakeSeat (KX1_mayTakeSeat w) := KOk_mk flX1_ok ciX1_ok clX1_ok (fun n t h => st_ok n t h) (fun _ _ h => by cases h) (List.forall_mem_nil _)
theorem ctX1_mayTakeSeat (w : WW) : CT w yX1_mayTakeSeat MX1_mayTakeSeat (csX1_mayTakeSeat w).2.1 (csX1_mayTakeSeat w).2.2 := by
  refine CT_of (by decide) rfl TX1_mayTakeSeat_ok TX1_mayTakeSeat_v (KX1_mayTakeSeat_ok w) (fun as u h => ?_)
  obtain ⟨a0, rfl, h⟩ := sgR h
  obtain ⟨h0, hh⟩ := h
  refine ⟨Nat.le_of_ble_eq_true rfl, ?_⟩
  have key := vX1_mayTakeSeat w a0 u h0 hh
  exact key
theorem prX1_mayTakeSeat (w : WW) : ∀ as u, (csX1_mayTakeSeat w).2.1 as u → ∃ a r, as = .ref a :: r ∧ r.length = 0 ∧ okO w a 1 := by
  intro as u h
  obtain ⟨a0, rfl, h⟩ := sgR h
  exact ⟨_, _, rfl, rfl, okO_o h⟩
theorem lean_tb : ∀ j, j ≤ 5 → ∀ x : Int32, tbl 1 j * x + tbl 2 j = lean (nI j) x := by
  intro j hj x
  have h : j = 0 ∨ j = 1 ∨ j = 2 ∨ j = 3 ∨ j = 4 ∨ j = 5 := by omega
  rcases h with rfl | rfl | rfl | rfl | rfl | rfl
  · show (1 : Int32) * x + 0 = x; rw [Int32.one_mul, Int32.add_zero]
  · show (1 : Int32) * x + 30 = x + 30; rw [Int32.one_mul]
  · show (0 : Int32) * x + 0 = 0; rw [Int32.zero_mul, Int32.add_zero]
  · show (1 : Int32) * x + 0 = x; rw [Int32.one_mul, Int32.add_zero]
  · show (2 : Int32) * x + 0 = 2 * x; rw [Int32.add_zero]
  · show (1 : Int32) * x + 50 = x + 50; rw [Int32.one_mul]
theorem vX1_leans (w : WW) : VX1_leans w := by
  intro a u ha hw h
  obtain ⟨j, hj, ej⟩ := kO_of h
  simp only [eX1_leans_0, eX1_leans_3, eX1_leans_4, eX1_leans_7, eX1_leans_8, eX1_leans_9, eX1_leans_12, eX1_leans_13, eX1_leans_16, eX1_leans_17, eX1_leans_20, eX1_leans_21, eX1_leans_22, kl_i, kl_r, kl_n, kl_l, true_and, and_true, true_implies, false_implies, not_true_eq_false, not_false_eq_true, i10, Classical.not_not, ok_o2 ha, ix_o2 ha, ok_o0 ha, ix_o0 ha, rX1_leans, ej, ai_tb hw (show 1 < 4 by decide) hj, ai_tb hw (show 2 < 4 by decide) hj, rd_tb hw (show 1 < 4 by decide) hj, rd_tb hw (show 2 < 4 by decide) hj, lean_tb j hj]
set_option maxRecDepth 20000 in
theorem KX1_leans_ok (w : WW) : KOk w MX1_leans (KX1_leans w) := KOk_mk flX1_ok ciX1_ok clX1_ok (fun n t h => st_ok n t h) (fun _ _ h => by cases h) (List.forall_mem_nil _)
theorem ctX1_leans (w : WW) : CT w yX1_leans MX1_leans (csX1_leans w).2.1 (csX1_leans w).2.2 := by
  refine CT_of (by decide) rfl TX1_leans_ok TX1_leans_v (KX1_leans_ok w) (fun as u h => ?_)
  obtain ⟨a0, rfl, h⟩ := sgR h
  obtain ⟨h0, hwok, hh⟩ := h
  refine ⟨Nat.le_of_ble_eq_true rfl, ?_⟩
  have key := vX1_leans w a0 u h0 hwok hh
  exact key
theorem prX1_leans (w : WW) : ∀ as u, (csX1_leans w).2.1 as u → ∃ a r, as = .ref a :: r ∧ r.length = 0 ∧ okO w a 1 := by
  intro as u h
  obtain ⟨a0, rfl, h⟩ := sgR h
  exact ⟨_, _, rfl, rfl, okO_o h⟩
theorem stay_tb : ∀ j, j ≤ 5 → tbl 3 j = stay (nI j) := by
  intro j hj
  have h : j = 0 ∨ j = 1 ∨ j = 2 ∨ j = 3 ∨ j = 4 ∨ j = 5 := by omega
  rcases h with rfl | rfl | rfl | rfl | rfl | rfl <;> decide
theorem vX1_stays (w : WW) : VX1_stays w := by
  intro a u ha hw h
  obtain ⟨j, hj, ej⟩ := kO_of h
  simp only [eX1_stays_0, eX1_stays_3, eX1_stays_4, eX1_stays_7, eX1_stays_8, kl_i, kl_r, kl_n, kl_l, true_and, and_true, true_implies, false_implies, not_true_eq_false, not_false_eq_true, i10, Classical.not_not, ok_o0 ha, ix_o0 ha, rX1_stays, ej, ai_tb hw (show 3 < 4 by decide) hj, rd_tb hw (show 3 < 4 by decide) hj, stay_tb j hj]
set_option maxRecDepth 20000 in
theorem KX1_stays_ok (w : WW) : KOk w MX1_stays (KX1_stays w) := KOk_mk flX1_ok ciX1_ok clX1_ok (fun n t h => st_ok n t h) (fun _ _ h => by cases h) (List.forall_mem_nil _)
theorem ctX1_stays (w : WW) : CT w yX1_stays MX1_stays (csX1_stays w).2.1 (csX1_stays w).2.2 := by
  refine CT_of (by decide) rfl TX1_stays_ok TX1_stays_v (KX1_stays_ok w) (fun as u h => ?_)
  obtain ⟨a0, rfl, h⟩ := sgR h
  obtain ⟨h0, hwok, hh⟩ := h
  refine ⟨Nat.le_of_ble_eq_true rfl, ?_⟩
  have key := vX1_stays w a0 u h0 hwok hh
  exact key
theorem prX1_stays (w : WW) : ∀ as u, (csX1_stays w).2.1 as u → ∃ a r, as = .ref a :: r ∧ r.length = 0 ∧ okO w a 1 := by
  intro as u h
  obtain ⟨a0, rfl, h⟩ := sgR h
  exact ⟨_, _, rfl, rfl, okO_o h⟩
theorem vX1_distance (w : WW) : VX1_distance w := by
  intro a p u ha hw h
  have h10 : ¬ (10 : Int32) = 0 := by decide
  simp only [eX1_distance_0, eX1_distance_1, eX1_distance_4, eX1_distance_6, eX1_distance_7, eX1_distance_8, eX1_distance_10, eX1_distance_11, eX1_distance_12, eX1_distance_13, eX1_distance_14, eX1_distance_17, eX1_distance_19, eX1_distance_20, eX1_distance_21, eX1_distance_23, eX1_distance_24, eX1_distance_25, eX1_distance_26, eX1_distance_28, eX1_distance_29, eX1_distance_30, eX1_distance_31, eX1_distance_32, eX1_distance_33, eX1_distance_34, eX1_distance_35, eX1_distance_36, eX1_distance_37, eX1_distance_40, eX1_distance_41, kl_i, kl_r, kl_n, kl_l, true_and, and_true, true_implies, false_implies, not_true_eq_false, not_false_eq_true, i10, Classical.not_not, ok_o1 ha, ix_o1 ha, ha, hw, h10, pX1_leans, rX1_leans, rX1_distance, dist, rem32, Option.some.injEq, Value.int.injEq]
  exact h
theorem wcX1_46 : ∀ x ∈ wV1 RX1 46 yX1_leans MX1_leans, x ∈ Gt := by decide +kernel
theorem nmX1_leans : nmOk yX1_leans 0 = true := by decide +kernel
set_option maxRecDepth 20000 in
theorem KX1_distance_ok (w : WW) : KOk w MX1_distance (KX1_distance w) := KOk_mk flX1_ok ciX1_ok clX1_ok (fun n t h => st_ok n t h) (fun _ _ h => by cases h) (List.forall_mem_cons.mpr ⟨itV (n := 46) (by decide) (COk_V (n := 0) (ci := 1) (ctX1_leans w) wcX1_46 nmX1_leans (by decide) (by decide) rfl (prX1_leans w)), List.forall_mem_nil _⟩)
theorem ctX1_distance (w : WW) : CT w yX1_distance MX1_distance (csX1_distance w).2.1 (csX1_distance w).2.2 := by
  refine CT_of (by decide) rfl TX1_distance_ok TX1_distance_v (KX1_distance_ok w) (fun as u h => ?_)
  obtain ⟨a0, a1, rfl, h⟩ := sgRI h
  obtain ⟨h0, hwok, hh⟩ := h
  refine ⟨Nat.le_of_ble_eq_true rfl, ?_⟩
  have key := vX1_distance w a0 a1 u h0 hwok hh
  exact key
theorem prX1_distance (w : WW) : ∀ as u, (csX1_distance w).2.1 as u → ∃ a r, as = .ref a :: r ∧ r.length = 1 ∧ okO w a 1 := by
  intro as u h
  obtain ⟨a0, a1, rfl, h⟩ := sgRI h
  exact ⟨_, _, rfl, rfl, okO_o h⟩
theorem vX1_goes (w : WW) : VX1_goes w := by
  intro a s u ha h
  simp only [eX1_goes_0, eX1_goes_1, eX1_goes_4, eX1_goes_40, eX1_goes_41, eX1_goes_42, eX1_goes_43, eX1_goes_44, eX1_goes_45, eX1_goes_48, eX1_goes_49, eX1_goes_52, eX1_goes_53, eX1_goes_54, eX1_goes_55, eX1_goes_56, eX1_goes_57, eX1_goes_60, eX1_goes_61, eX1_goes_64, eX1_goes_65, eX1_goes_66, eX1_goes_67, kl_i, kl_r, kl_n, kl_l, true_and, and_true, true_implies, false_implies, not_true_eq_false, not_false_eq_true, i10, Classical.not_not, ok_o0 ha, ix_o0 ha, rX1_goes, Option.some.injEq, Value.int.injEq]
  have h2 : ¬ (2 : Int32) = 0 := by decide
  have h3 : ¬ (3 : Int32) = 0 := by decide
  simp only [h2, h3, not_false_eq_true, true_and]
  unfold goe rem32
  generalize u.1 (fo w a + 0) = k
  generalize s - s / 2 * 2 = t2
  generalize s - s / 3 * 3 = t3
  grind
set_option maxRecDepth 20000 in
theorem KX1_goes_ok (w : WW) : KOk w MX1_goes (KX1_goes w) := KOk_mk flX1_ok ciX1_ok clX1_ok (fun n t h => st_ok n t h) (fun _ _ h => by cases h) (List.forall_mem_nil _)
theorem ctX1_goes (w : WW) : CT w yX1_goes MX1_goes (csX1_goes w).2.1 (csX1_goes w).2.2 := by
  refine CT_of (by decide) rfl TX1_goes_ok TX1_goes_v (KX1_goes_ok w) (fun as u h => ?_)
  obtain ⟨a0, a1, rfl, h⟩ := sgRI h
  obtain ⟨h0, hh⟩ := h
  refine ⟨Nat.le_of_ble_eq_true rfl, ?_⟩
  have key := vX1_goes w a0 a1 u h0 hh
  exact key
theorem prX1_goes (w : WW) : ∀ as u, (csX1_goes w).2.1 as u → ∃ a r, as = .ref a :: r ∧ r.length = 1 ∧ okO w a 1 := by
  intro as u h
  obtain ⟨a0, a1, rfl, h⟩ := sgRI h
  exact ⟨_, _, rfl, rfl, okO_o h⟩
theorem vX1_arrive (w : WW) : VX1_arrive w := by
  intro a k p t u ha h
  simp only [eX1_arrive_0, eX1_arrive_1, eX1_arrive_2, eX1_arrive_5, eX1_arrive_6, eX1_arrive_7, eX1_arrive_10, eX1_arrive_11, eX1_arrive_12, eX1_arrive_15, eX1_arrive_16, eX1_arrive_17, eX1_arrive_20, eX1_arrive_21, eX1_arrive_22, eX1_arrive_25, eX1_arrive_26, eX1_arrive_27, eX1_arrive_30, eX1_arrive_31, eX1_arrive_32, eX1_arrive_35, kl_i, kl_r, kl_n, kl_l, true_and, and_true, true_implies, false_implies, not_true_eq_false, not_false_eq_true, i10, Classical.not_not, ok_o0 ha, ix_o0 ha, ok_o1 ha, ix_o1 ha, ok_o2 ha, ix_o2 ha, ok_o3 ha, ix_o3 ha, ok_o4 ha, ix_o4 ha, ok_o5 ha, ix_o5 ha, ok_o6 ha, ix_o6 ha, mX1_arrive]
set_option maxRecDepth 20000 in
theorem KX1_arrive_ok (w : WW) : KOk w MX1_arrive (KX1_arrive w) := KOk_mk flX1_ok ciX1_ok clX1_ok (fun n t h => st_ok n t h) (fun _ _ h => by cases h) (List.forall_mem_nil _)
theorem ctX1_arrive (w : WW) : CT w yX1_arrive MX1_arrive (csX1_arrive w).2.1 (csX1_arrive w).2.2 := by
  refine CT_of (by decide) rfl TX1_arrive_ok TX1_arrive_v (KX1_arrive_ok w) (fun as u h => ?_)
  obtain ⟨a0, a1, a2, a3, rfl, h⟩ := sgRIII h
  obtain ⟨h0, hh⟩ := h
  refine ⟨Nat.le_of_ble_eq_true rfl, ?_⟩
  have key := vX1_arrive w a0 a1 a2 a3 u h0 hh
  exact key
theorem prX1_arrive (w : WW) : ∀ as u, (csX1_arrive w).2.1 as u → ∃ a r, as = .ref a :: r ∧ r.length = 3 ∧ okO w a 1 := by
  intro as u h
  obtain ⟨a0, a1, a2, a3, rfl, h⟩ := sgRIII h
  exact ⟨_, _, rfl, rfl, okO_o h⟩
theorem vX1_spotOneStepTowards (w : WW) : VX1_spotOneStepTowards w := by
  intro a t u ha h
  have h10 : ¬ (10 : Int32) = 0 := by decide
  simp only [eX1_spotOneStepTowards_0, eX1_spotOneStepTowards_1, eX1_spotOneStepTowards_4, eX1_spotOneStepTowards_6, eX1_spotOneStepTowards_7, eX1_spotOneStepTowards_8, eX1_spotOneStepTowards_9, eX1_spotOneStepTowards_12, eX1_spotOneStepTowards_14, eX1_spotOneStepTowards_15, eX1_spotOneStepTowards_16, eX1_spotOneStepTowards_18, eX1_spotOneStepTowards_19, eX1_spotOneStepTowards_20, eX1_spotOneStepTowards_22, eX1_spotOneStepTowards_23, eX1_spotOneStepTowards_24, eX1_spotOneStepTowards_27, eX1_spotOneStepTowards_28, eX1_spotOneStepTowards_29, eX1_spotOneStepTowards_30, eX1_spotOneStepTowards_31, eX1_spotOneStepTowards_32, eX1_spotOneStepTowards_34, eX1_spotOneStepTowards_35, eX1_spotOneStepTowards_36, eX1_spotOneStepTowards_39, eX1_spotOneStepTowards_40, kl_i, kl_r, kl_n, kl_l, true_and, and_true, true_implies, false_implies, not_true_eq_false, not_false_eq_true, i10, Classical.not_not, ok_o1 ha, ix_o1 ha, h10, pJ6_compare_7cf53, rJ6_compare_7cf53, rX1_spotOneStepTowards, stepC, rem32, Option.some.injEq, Value.int.injEq]
theorem wcX1_65586 : ∀ x ∈ wS1 RX1 50 yJ6_compare_7cf53 MJ6_compare_7cf53, x ∈ Gt := by decide +kernel
theorem nmJ6_compare_7cf53 : nmOk yJ6_compare_7cf53 2 = true := by decide +kernel
set_option maxRecDepth 20000 in
theorem KX1_spotOneStepTowards_ok (w : WW) : KOk w MX1_spotOneStepTowards (KX1_spotOneStepTowards w) := KOk_mk flX1_ok ciX1_ok clX1_ok (fun n t h => st_ok n t h) (fun _ _ h => by cases h) (List.forall_mem_cons.mpr ⟨itS (n := 50) (COk_S (n := 2) (ctJ6_compare_7cf53 w) wcX1_65586 nmJ6_compare_7cf53 (by decide)), List.forall_mem_nil _⟩)
theorem ctX1_spotOneStepTowards (w : WW) : CT w yX1_spotOneStepTowards MX1_spotOneStepTowards (csX1_spotOneStepTowards w).2.1 (csX1_spotOneStepTowards w).2.2 := by
  refine CT_of (by decide) rfl TX1_spotOneStepTowards_ok TX1_spotOneStepTowards_v (KX1_spotOneStepTowards_ok w) (fun as u h => ?_)
  obtain ⟨a0, a1, rfl, h⟩ := sgRI h
  obtain ⟨h0, hh⟩ := h
  refine ⟨Nat.le_of_ble_eq_true rfl, ?_⟩
  have key := vX1_spotOneStepTowards w a0 a1 u h0 hh
  exact key
theorem prX1_spotOneStepTowards (w : WW) : ∀ as u, (csX1_spotOneStepTowards w).2.1 as u → ∃ a r, as = .ref a :: r ∧ r.length = 1 ∧ okO w a 1 := by
  intro as u h
  obtain ⟨a0, a1, rfl, h⟩ := sgRI h
  exact ⟨_, _, rfl, rfl, okO_o h⟩
theorem un0 {x : Int32} : under (nI 0) x ↔ x = 0 := ⟨fun h => h.elim id (fun h => h.elim id (fun h => h.elim (fun z => absurd z.2 (by decide)) (fun z => absurd z.2 (by decide)))), Or.inl⟩
theorem un1 (x : Int32) : under (nI 1) x ↔ x = 0 ∨ x = nI 1 := ⟨fun h => h.elim Or.inl (fun h => h.elim Or.inr (fun h => h.elim (fun z => absurd z.2 (by decide)) (fun z => absurd z.2 (by decide)))), fun h => h.elim Or.inl (fun z => Or.inr (Or.inl z))⟩
theorem un2 (x : Int32) : under (nI 2) x ↔ x = 0 ∨ x = nI 2 := ⟨fun h => h.elim Or.inl (fun h => h.elim Or.inr (fun h => h.elim (fun z => absurd z.2 (by decide)) (fun z => absurd z.2 (by decide)))), fun h => h.elim Or.inl (fun z => Or.inr (Or.inl z))⟩
theorem un3 (x : Int32) : under (nI 3) x ↔ x = 0 ∨ x = nI 3 := ⟨fun h => h.elim Or.inl (fun h => h.elim Or.inr (fun h => h.elim (fun z => absurd z.2 (by decide)) (fun z => absurd z.2 (by decide)))), fun h => h.elim Or.inl (fun z => Or.inr (Or.inl z))⟩
theorem un4 (x : Int32) : under (nI 4) x ↔ x = 0 ∨ x = nI 4 ∨ x = nI 3 := ⟨fun h => h.elim Or.inl (fun h => h.elim (fun z => Or.inr (Or.inl z)) (fun h => h.elim (fun z => absurd z.2 (by decide)) (fun z => Or.inr (Or.inr z.1)))), fun h => h.elim Or.inl (fun z => z.elim (fun y => Or.inr (Or.inl y)) (fun y => Or.inr (Or.inr (Or.inr ⟨y, by decide⟩))))⟩
theorem un5 (x : Int32) : under (nI 5) x ↔ x = 0 ∨ x = nI 5 ∨ x = nI 1 := ⟨fun h => h.elim Or.inl (fun h => h.elim (fun z => Or.inr (Or.inl z)) (fun h => h.elim (fun z => Or.inr (Or.inr z.1)) (fun z => absurd z.2 (by decide)))), fun h => h.elim Or.inl (fun z => z.elim (fun y => Or.inr (Or.inl y)) (fun y => Or.inr (Or.inr (Or.inl ⟨y, by decide⟩))))⟩
theorem vX1_isOfKind (w : WW) : VX1_isOfKind w := by
  intro a x u ha hw h
  obtain ⟨j, hj, ej⟩ := kO_of h
  simp only [eX1_isOfKind_0, eX1_isOfKind_1, eX1_isOfKind_4, eX1_isOfKind_5, eX1_isOfKind_6, eX1_isOfKind_8, eX1_isOfKind_10, eX1_isOfKind_13, eX1_isOfKind_14, eX1_isOfKind_17, eX1_isOfKind_18, eX1_isOfKind_19, eX1_isOfKind_22, eX1_isOfKind_23, eX1_isOfKind_24, eX1_isOfKind_27, eX1_isOfKind_28, eX1_isOfKind_29, eX1_isOfKind_30, eX1_isOfKind_33, eX1_isOfKind_36, eX1_isOfKind_37, kl_i, kl_r, kl_n, kl_l, true_and, and_true, true_implies, false_implies, not_true_eq_false, not_false_eq_true, i10, Classical.not_not, ok_o0 ha, ix_o0 ha, rX1_isOfKind, ej]
  have fin : ∀ (P : Prop) [Decidable P] (i : Nat), i ≤ 5 → ¬ P → GX1_isOfKind w (fun r u' => r = some (.int (bi P)) ∧ u' = u) 7 [some (.ref a), some (.int x), some (.int (-1)), some (.int (nI i))] [] u := by
    intro P _ i hi hP
    have c1 : ¬ (6 : Int32) ≤ nI i := nI_ge (a := i) (b := 6) (by omega) (by decide)
    have c2 : (-1 : Int32) < 0 := by decide
    rw [eX1_isOfKind_7]
    simp only [eX1_isOfKind_0, eX1_isOfKind_1, eX1_isOfKind_4, eX1_isOfKind_5, eX1_isOfKind_6, eX1_isOfKind_8, eX1_isOfKind_10, eX1_isOfKind_13, eX1_isOfKind_14, eX1_isOfKind_17, eX1_isOfKind_18, eX1_isOfKind_19, eX1_isOfKind_22, eX1_isOfKind_23, eX1_isOfKind_24, eX1_isOfKind_27, eX1_isOfKind_28, eX1_isOfKind_29, eX1_isOfKind_30, eX1_isOfKind_33, eX1_isOfKind_36, eX1_isOfKind_37, kl_i, kl_r, kl_n, kl_l, true_and, and_true, true_implies, false_implies, not_true_eq_false, not_false_eq_true, i10, Classical.not_not, c1, c2, nb_0, bi_f hP]
  have step : ∀ (P : Prop) [Decidable P] (o i : Nat), o ≤ 5 → i ≤ 4 → (x = nI o → P) → (¬ x = nI o → GX1_isOfKind w (fun r u' => r = some (.int (bi P)) ∧ u' = u) 7 [some (.ref a), some (.int x), some (.int (tbl 0 o)), some (.int (nI (i + 1)))] [] u) → GX1_isOfKind w (fun r u' => r = some (.int (bi P)) ∧ u' = u) 7 [some (.ref a), some (.int x), some (.int (nI o)), some (.int (nI i))] [] u := by
    intro P _ o i ho hi h1 h2
    have c1 : ¬ (6 : Int32) ≤ nI i := nI_ge (a := i) (b := 6) (by omega) (by decide)
    have c2 : ¬ nI o < 0 := nI_pos (by omega)
    rw [eX1_isOfKind_7]
    simp only [eX1_isOfKind_0, eX1_isOfKind_1, eX1_isOfKind_4, eX1_isOfKind_5, eX1_isOfKind_6, eX1_isOfKind_8, eX1_isOfKind_10, eX1_isOfKind_13, eX1_isOfKind_14, eX1_isOfKind_17, eX1_isOfKind_18, eX1_isOfKind_19, eX1_isOfKind_22, eX1_isOfKind_23, eX1_isOfKind_24, eX1_isOfKind_27, eX1_isOfKind_28, eX1_isOfKind_29, eX1_isOfKind_30, eX1_isOfKind_33, eX1_isOfKind_36, eX1_isOfKind_37, kl_i, kl_r, kl_n, kl_l, true_and, and_true, true_implies, false_implies, not_true_eq_false, not_false_eq_true, i10, Classical.not_not, c1, c2, ai_tb hw (show 0 < 4 by decide) ho, rd_tb hw (show 0 < 4 by decide) ho, nI_1]
    refine ⟨fun z => h2 (fun y => z y.symm), fun z => ⟨nb_1, ?_⟩⟩
    rw [bi_t (h1 z.symm)]
  have s0 : ∀ (P : Prop) [Decidable P] (i : Nat), i ≤ 4 → (P ↔ x = 0) → GX1_isOfKind w (fun r u' => r = some (.int (bi P)) ∧ u' = u) 7 [some (.ref a), some (.int x), some (.int (nI 0)), some (.int (nI i))] [] u := fun P _ i hi hP => step P 0 i (by omega) hi (fun z => hP.mpr z) (fun z => fin P (i + 1) (by omega) (fun y => z (hP.mp y)))
  have hc : j = 0 ∨ j = 1 ∨ j = 2 ∨ j = 3 ∨ j = 4 ∨ j = 5 := by omega
  rcases hc with rfl | rfl | rfl | rfl | rfl | rfl
  · exact s0 _ 0 (by decide) un0
  · exact step _ 1 0 (by decide) (by decide) (fun z => (un1 x).mpr (Or.inr z)) (fun z => s0 _ 1 (by decide) ((un1 x).trans ⟨fun y => y.resolve_right z, Or.inl⟩))
  · exact step _ 2 0 (by decide) (by decide) (fun z => (un2 x).mpr (Or.inr z)) (fun z => s0 _ 1 (by decide) ((un2 x).trans ⟨fun y => y.resolve_right z, Or.inl⟩))
  · exact step _ 3 0 (by decide) (by decide) (fun z => (un3 x).mpr (Or.inr z)) (fun z => s0 _ 1 (by decide) ((un3 x).trans ⟨fun y => y.resolve_right z, Or.inl⟩))
  · exact step _ 4 0 (by decide) (by decide) (fun z => (un4 x).mpr (Or.inr (Or.inl z))) (fun z => step _ 3 1 (by decide) (by decide) (fun y => (un4 x).mpr (Or.inr (Or.inr y))) (fun y => s0 _ 2 (by decide) ((un4 x).trans ⟨fun q => q.resolve_right (fun p => p.elim z y), Or.inl⟩)))
  · exact step _ 5 0 (by decide) (by decide) (fun z => (un5 x).mpr (Or.inr (Or.inl z))) (fun z => step _ 1 1 (by decide) (by decide) (fun y => (un5 x).mpr (Or.inr (Or.inr y))) (fun y => s0 _ 2 (by decide) ((un5 x).trans ⟨fun q => q.resolve_right (fun p => p.elim z y), Or.inl⟩)))
set_option maxRecDepth 20000 in
theorem KX1_isOfKind_ok (w : WW) : KOk w MX1_isOfKind (KX1_isOfKind w) := KOk_mk flX1_ok ciX1_ok clX1_ok (fun n t h => st_ok n t h) (fun _ _ h => by cases h) (List.forall_mem_nil _)
theorem ctX1_isOfKind (w : WW) : CT w yX1_isOfKind MX1_isOfKind (csX1_isOfKind w).2.1 (csX1_isOfKind w).2.2 := by
  refine CT_of (by decide) rfl TX1_isOfKind_ok TX1_isOfKind_v (KX1_isOfKind_ok w) (fun as u h => ?_)
  obtain ⟨a0, a1, rfl, h⟩ := sgRI h
  obtain ⟨h0, hwok, hh⟩ := h
  refine ⟨Nat.le_of_ble_eq_true rfl, ?_⟩
  have key := vX1_isOfKind w a0 a1 u h0 hwok hh
  exact key
theorem prX1_isOfKind (w : WW) : ∀ as u, (csX1_isOfKind w).2.1 as u → ∃ a r, as = .ref a :: r ∧ r.length = 1 ∧ okO w a 1 := by
  intro as u h
  obtain ⟨a0, a1, rfl, h⟩ := sgRI h
  exact ⟨_, _, rfl, rfl, okO_o h⟩
