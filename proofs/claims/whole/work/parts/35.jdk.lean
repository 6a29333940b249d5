/-! ===== the library's small ones ===== -/
def pJ6_compare_7cf53 (_ _ : Int32) (_ : MM) : Prop := True
def cmpI (a b : Int32) : Int32 := if a < b then -1 else if a = b then 0 else 1
def rJ6_compare_7cf53 (a b : Int32) (_ : MM) : Int32 := cmpI a b
def pJ9_abs_0f7a4 (_ : Int32) (_ : MM) : Prop := True
def absI (a : Int32) : Int32 := if a < 0 then -a else a
def rJ9_abs_0f7a4 (a : Int32) (_ : MM) : Int32 := absI a
def pJ9_max_7cf53 (_ _ : Int32) (_ : MM) : Prop := True
def maxI (a b : Int32) : Int32 := if a < b then b else a
def rJ9_max_7cf53 (a b : Int32) (_ : MM) : Int32 := maxI a b
def pJ9_min_7cf53 (_ _ : Int32) (_ : MM) : Prop := True
def minI (a b : Int32) : Int32 := if b < a then b else a
def rJ9_min_7cf53 (a b : Int32) (_ : MM) : Int32 := minI a b
def ush (x y : Int32) : Int32 := (x.toUInt32 >>> (y.toUInt32 &&& Int32.toUInt32 31)).toInt32
def bcI (x0 : Int32) : Int32 :=
  let x1 := x0 - (ush x0 1 &&& 1431655765)
  let x2 := (x1 &&& 858993459) + (ush x1 2 &&& 858993459)
  let x3 := (x2 + ush x2 4) &&& 252645135
  let x4 := x3 + ush x3 8
  let x5 := x4 + ush x4 16
  x5 &&& 63
def pJ6_bitCount_0f7a4 (_ : Int32) (_ : MM) : Prop := True
def rJ6_bitCount_0f7a4 (x : Int32) (_ : MM) : Int32 := bcI x
theorem CT_ofF {w : WW} {y : MethodName} {M : MI} {T : TB} {K : KT} {pre : List Value → MM → Prop} {res : List Value → MM → Option Value × MM} (hy : plainFor y = true) (hown : y.cls = M.2.2.2.1) (hT : T.all (chk M.1) = true) (hV : T.all vOk = true) (hK : KOk w M K)
    (h : ∀ as u, pre as u → (sl as).length ≤ M.2.1 ∧ WP w M T K (fun r u' => r = (res as u).1 ∧ u' = (res as u).2) 0 (L0 M.2.1 as) [] u) : CT w y M pre res := by
  intro l as u hp
  obtain ⟨hlen, n, hn⟩ := h as u hp
  refine va_MetF (cc := M.1) (maxL := M.2.1) (ret := M.2.2.1) hy rfl ?_
  intro p e s m args below meth c s₁ B hml hv
  obtain ⟨rfl, hP, hK1, hRO⟩ := hv
  have hts := atoms_spec (ws := wsy y M) B.pre
  have hfc : s.vm.findClass y.cls = some m.cls := findClass_of_methodNamed B.named
  rw [hown] at hfc
  rw [lg_entry_eq]
  exact wp_run hT hV hK n 0 _ [] u hn p l e s m as.toArray below meth c ⟨B.exec, B.bytes, hml, hfc, fun x hx => hts x (List.mem_cons_of_mem _ hx), B.returns, B.notSynchronized, hK1, hRO⟩ s.heap [] _ hP va_S.rf (L0_lh hlen) (L0_len hlen)
def flJ6 : List (Nat × (Nat × Nat × Nat)) := []
def ciJ6 : List (Nat × Int32) := [(265, (1431655765 : Int32)), (266, (858993459 : Int32)), (267, (252645135 : Int32))]
def clJ6 : List (Nat × Int64) := []
theorem flJ6_ok : (flJ6.all fun q => fOk RJ6 q.1 q.2.1 q.2.2.1 q.2.2.2) = true := by decide +kernel
theorem ciJ6_ok : (ciJ6.all fun q => decide (Cond.constant RJ6 q.1 q.2 ∈ Gt)) = true := by decide +kernel
theorem clJ6_ok : (clJ6.all fun q => decide (Cond.constantLong RJ6 q.1 q.2 ∈ Gt)) = true := by decide +kernel
def flJ9 : List (Nat × (Nat × Nat × Nat)) := []
def ciJ9 : List (Nat × Int32) := []
def clJ9 : List (Nat × Int64) := []
theorem flJ9_ok : (flJ9.all fun q => fOk RJ9 q.1 q.2.1 q.2.2.1 q.2.2.2) = true := by decide +kernel
theorem ciJ9_ok : (ciJ9.all fun q => decide (Cond.constant RJ9 q.1 q.2 ∈ Gt)) = true := by decide +kernel
theorem clJ9_ok : (clJ9.all fun q => decide (Cond.constantLong RJ9 q.1 q.2 ∈ Gt)) = true := by decide +kernel
def MJ6_compare_7cf53 : MI := (cJ6_compare_7cf53, 2, some .int, RJ6, { frames := 0, cells := 0, slots := 0, locals := 0 })
def TJ6_compare_7cf53 : TB := [(0, .iload_n 0, 1, []), (1, .iload_n 1, 1, []), (2, .if_icmp .ge 7, 3, [9]), (5, .iconst (-1), 1, []), (6, .goto 13, 3, [19]), (9, .iload_n 0, 1, []), (10, .iload_n 1, 1, []), (11, .if_icmp .ne 7, 3, [18]), (14, .iconst 0, 1, []), (15, .goto 4, 3, [19]), (18, .iconst 1, 1, []), (19, .ireturn, 1, [])]
set_option maxRecDepth 20000 in
theorem TJ6_compare_7cf53_ok : TJ6_compare_7cf53.all (chk MJ6_compare_7cf53.1) = true := by decide +kernel
theorem TJ6_compare_7cf53_v : TJ6_compare_7cf53.all vOk = true := by decide +kernel
def csJ6_compare_7cf53 (w : WW) : CS := (2, fun as u => match as with | [.int a0, .int a1] => pJ6_compare_7cf53 a0 a1 u | _ => False, fun as u => match as with | [.int a0, .int a1] => (some (.int (rJ6_compare_7cf53 a0 a1 u)), u) | _ => (none, u))
def MJ9_abs_0f7a4 : MI := (cJ9_abs_0f7a4, 1, some .int, RJ9, { frames := 0, cells := 0, slots := 0, locals := 0 })
def TJ9_abs_0f7a4 : TB := [(0, .iload_n 0, 1, []), (1, .ifCond .ge 8, 3, [9]), (4, .iload_n 0, 1, []), (5, .ineg, 1, []), (6, .goto 4, 3, [10]), (9, .iload_n 0, 1, []), (10, .ireturn, 1, [])]
set_option maxRecDepth 20000 in
theorem TJ9_abs_0f7a4_ok : TJ9_abs_0f7a4.all (chk MJ9_abs_0f7a4.1) = true := by decide +kernel
theorem TJ9_abs_0f7a4_v : TJ9_abs_0f7a4.all vOk = true := by decide +kernel
def csJ9_abs_0f7a4 (w : WW) : CS := (1, fun as u => match as with | [.int a0] => pJ9_abs_0f7a4 a0 u | _ => False, fun as u => match as with | [.int a0] => (some (.int (rJ9_abs_0f7a4 a0 u)), u) | _ => (none, u))
def MJ9_max_7cf53 : MI := (cJ9_max_7cf53, 2, some .int, RJ9, { frames := 0, cells := 0, slots := 0, locals := 0 })
def TJ9_max_7cf53 : TB := [(0, .iload_n 0, 1, []), (1, .iload_n 1, 1, []), (2, .if_icmp .lt 7, 3, [9]), (5, .iload_n 0, 1, []), (6, .goto 4, 3, [10]), (9, .iload_n 1, 1, []), (10, .ireturn, 1, [])]
set_option maxRecDepth 20000 in
theorem TJ9_max_7cf53_ok : TJ9_max_7cf53.all (chk MJ9_max_7cf53.1) = true := by decide +kernel
theorem TJ9_max_7cf53_v : TJ9_max_7cf53.all vOk = true := by decide +kernel
def csJ9_max_7cf53 (w : WW) : CS := (2, fun as u => match as with | [.int a0, .int a1] => pJ9_max_7cf53 a0 a1 u | _ => False, fun as u => match as with | [.int a0, .int a1] => (some (.int (rJ9_max_7cf53 a0 a1 u)), u) | _ => (none, u))
def MJ9_min_7cf53 : MI := (cJ9_min_7cf53, 2, some .int, RJ9, { frames := 0, cells := 0, slots := 0, locals := 0 })
def TJ9_min_7cf53 : TB := [(0, .iload_n 0, 1, []), (1, .iload_n 1, 1, []), (2, .if_icmp .gt 7, 3, [9]), (5, .iload_n 0, 1, []), (6, .goto 4, 3, [10]), (9, .iload_n 1, 1, []), (10, .ireturn, 1, [])]
set_option maxRecDepth 20000 in
theorem TJ9_min_7cf53_ok : TJ9_min_7cf53.all (chk MJ9_min_7cf53.1) = true := by decide +kernel
theorem TJ9_min_7cf53_v : TJ9_min_7cf53.all vOk = true := by decide +kernel
def csJ9_min_7cf53 (w : WW) : CS := (2, fun as u => match as with | [.int a0, .int a1] => pJ9_min_7cf53 a0 a1 u | _ => False, fun as u => match as with | [.int a0, .int a1] => (some (.int (rJ9_min_7cf53 a0 a1 u)), u) | _ => (none, u))
def MJ6_bitCount_0f7a4 : MI := (cJ6_bitCount_0f7a4, 1, some .int, RJ6, { frames := 0, cells := 0, slots := 0, locals := 0 })
def TJ6_bitCount_0f7a4 : TB := [(0, .iload_n 0, 1, []), (1, .iload_n 0, 1, []), (2, .iconst 1, 1, []), (3, .iushr, 1, []), (4, .ldc_w 265, 3, []), (7, .iand, 1, []), (8, .isub, 1, []), (9, .istore_n 0, 1, []), (10, .iload_n 0, 1, []), (11, .ldc_w 266, 3, []), (14, .iand, 1, []), (15, .iload_n 0, 1, []), (16, .iconst 2, 1, []), (17, .iushr, 1, []), (18, .ldc_w 266, 3, []), (21, .iand, 1, []), (22, .iadd, 1, []), (23, .istore_n 0, 1, []), (24, .iload_n 0, 1, []), (25, .iload_n 0, 1, []), (26, .iconst 4, 1, []), (27, .iushr, 1, []), (28, .iadd, 1, []), (29, .ldc_w 267, 3, []), (32, .iand, 1, []), (33, .istore_n 0, 1, []), (34, .iload_n 0, 1, []), (35, .iload_n 0, 1, []), (36, .bipush 8, 2, []), (38, .iushr, 1, []), (39, .iadd, 1, []), (40, .istore_n 0, 1, []), (41, .iload_n 0, 1, []), (42, .iload_n 0, 1, []), (43, .bipush 16, 2, []), (45, .iushr, 1, []), (46, .iadd, 1, []), (47, .istore_n 0, 1, []), (48, .iload_n 0, 1, []), (49, .bipush 63, 2, []), (51, .iand, 1, []), (52, .ireturn, 1, [])]
set_option maxRecDepth 20000 in
theorem TJ6_bitCount_0f7a4_ok : TJ6_bitCount_0f7a4.all (chk MJ6_bitCount_0f7a4.1) = true := by decide +kernel
theorem TJ6_bitCount_0f7a4_v : TJ6_bitCount_0f7a4.all vOk = true := by decide +kernel
def csJ6_bitCount_0f7a4 (w : WW) : CS := (1, fun as u => match as with | [.int a0] => pJ6_bitCount_0f7a4 a0 u | _ => False, fun as u => match as with | [.int a0] => (some (.int (rJ6_bitCount_0f7a4 a0 u)), u) | _ => (none, u))
def KJ6_compare_7cf53 (w : WW) : KT := (al flJ6, al ciJ6, al clJ6, fun _ => none, fun _ => none, al [])
abbrev GJ6_compare_7cf53 (w : WW) (Q : Option Value → MM → Prop) : Nat → LL → List Value → MM → Prop := WP w MJ6_compare_7cf53 TJ6_compare_7cf53 (KJ6_compare_7cf53 w) Q
section
variable {w : WW} {Q : Option Value → MM → Prop} {u : MM}
theorem eJ6_compare_7cf53_0 {l1 : Option Value} {st : List Value} {x : Int32} : GJ6_compare_7cf53 w Q 0 [some (.int x), l1] st u ↔ GJ6_compare_7cf53 w Q 1 [some (.int x), l1] (.int x :: st) u := WP_u (.iload_n 0) [] rfl
theorem eJ6_compare_7cf53_1 {l0 : Option Value} {st : List Value} {x : Int32} : GJ6_compare_7cf53 w Q 1 [l0, some (.int x)] st u ↔ GJ6_compare_7cf53 w Q 2 [l0, some (.int x)] (.int x :: st) u := WP_u (.iload_n 1) [] rfl
theorem eJ6_compare_7cf53_2 {l0 l1 : Option Value} {st : List Value} {x y : Int32} : GJ6_compare_7cf53 w Q 2 [l0, l1] (.int y :: .int x :: st) u ↔ (y ≤ x → GJ6_compare_7cf53 w Q 9 [l0, l1] st u) ∧ (¬ (y ≤ x) → GJ6_compare_7cf53 w Q 5 [l0, l1] st u) := (WP_u (.if_icmp .ge 7) [9] rfl).trans ex_br
theorem eJ6_compare_7cf53_5 {l0 l1 : Option Value} {st : List Value} : GJ6_compare_7cf53 w Q 5 [l0, l1] st u ↔ GJ6_compare_7cf53 w Q 6 [l0, l1] (.int (-1) :: st) u := WP_iconst rfl (by decide)
theorem eJ6_compare_7cf53_6 {l0 l1 : Option Value} {st : List Value} : GJ6_compare_7cf53 w Q 6 [l0, l1] st u ↔ GJ6_compare_7cf53 w Q 19 [l0, l1] st u := WP_u (.goto 13) [19] rfl
theorem eJ6_compare_7cf53_9 {l1 : Option Value} {st : List Value} {x : Int32} : GJ6_compare_7cf53 w Q 9 [some (.int x), l1] st u ↔ GJ6_compare_7cf53 w Q 10 [some (.int x), l1] (.int x :: st) u := WP_u (.iload_n 0) [] rfl
theorem eJ6_compare_7cf53_10 {l0 : Option Value} {st : List Value} {x : Int32} : GJ6_compare_7cf53 w Q 10 [l0, some (.int x)] st u ↔ GJ6_compare_7cf53 w Q 11 [l0, some (.int x)] (.int x :: st) u := WP_u (.iload_n 1) [] rfl
theorem eJ6_compare_7cf53_11 {l0 l1 : Option Value} {st : List Value} {x y : Int32} : GJ6_compare_7cf53 w Q 11 [l0, l1] (.int y :: .int x :: st) u ↔ (¬ x = y → GJ6_compare_7cf53 w Q 18 [l0, l1] st u) ∧ (¬ (¬ x = y) → GJ6_compare_7cf53 w Q 14 [l0, l1] st u) := (WP_u (.if_icmp .ne 7) [18] rfl).trans ex_br
theorem eJ6_compare_7cf53_14 {l0 l1 : Option Value} {st : List Value} : GJ6_compare_7cf53 w Q 14 [l0, l1] st u ↔ GJ6_compare_7cf53 w Q 15 [l0, l1] (.int 0 :: st) u := WP_iconst rfl (by decide)
theorem eJ6_compare_7cf53_15 {l0 l1 : Option Value} {st : List Value} : GJ6_compare_7cf53 w Q 15 [l0, l1] st u ↔ GJ6_compare_7cf53 w Q 19 [l0, l1] st u := WP_u (.goto 4) [19] rfl
theorem eJ6_compare_7cf53_18 {l0 l1 : Option Value} {st : List Value} : GJ6_compare_7cf53 w Q 18 [l0, l1] st u ↔ GJ6_compare_7cf53 w Q 19 [l0, l1] (.int 1 :: st) u := WP_iconst rfl (by decide)
theorem eJ6_compare_7cf53_19 {l0 l1 : Option Value} {x : Int32} : GJ6_compare_7cf53 w Q 19 [l0, l1] [.int x] u ↔ Q (some (.int x)) u := (WP_u (.ireturn) [] rfl).trans (ex_ret rfl)
end
def VJ6_compare_7cf53 (w : WW) : Prop := ∀ (a0 : Int32) (a1 : Int32) (u : MM), pJ6_compare_7cf53 a0 a1 u → GJ6_compare_7cf53 w (fun r u' => r = some (.int (rJ6_compare_7cf53 a0 a1 u)) ∧ u' = u) 0 [some (.int a0), some (.int a1)] [] u
def KJ9_abs_0f7a4 (w : WW) : KT := (al flJ9, al ciJ9, al clJ9, fun _ => none, fun _ => none, al [])
abbrev GJ9_abs_0f7a4 (w : WW) (Q : Option Value → MM → Prop) : Nat → LL → List Value → MM → Prop := WP w MJ9_abs_0f7a4 TJ9_abs_0f7a4 (KJ9_abs_0f7a4 w) Q
section
variable {w : WW} {Q : Option Value → MM → Prop} {u : MM}
theorem eJ9_abs_0f7a4_0 {st : List Value} {x : Int32} : GJ9_abs_0f7a4 w Q 0 [some (.int x)] st u ↔ GJ9_abs_0f7a4 w Q 1 [some (.int x)] (.int x :: st) u := WP_u (.iload_n 0) [] rfl
theorem eJ9_abs_0f7a4_1 {l0 : Option Value} {st : List Value} {x : Int32} : GJ9_abs_0f7a4 w Q 1 [l0] (.int x :: st) u ↔ (0 ≤ x → GJ9_abs_0f7a4 w Q 9 [l0] st u) ∧ (¬ (0 ≤ x) → GJ9_abs_0f7a4 w Q 4 [l0] st u) := (WP_u (.ifCond .ge 8) [9] rfl).trans ex_br
theorem eJ9_abs_0f7a4_4 {st : List Value} {x : Int32} : GJ9_abs_0f7a4 w Q 4 [some (.int x)] st u ↔ GJ9_abs_0f7a4 w Q 5 [some (.int x)] (.int x :: st) u := WP_u (.iload_n 0) [] rfl
theorem eJ9_abs_0f7a4_5 {l0 : Option Value} {st : List Value} {x : Int32} : GJ9_abs_0f7a4 w Q 5 [l0] (.int x :: st) u ↔ GJ9_abs_0f7a4 w Q 6 [l0] (.int (-x) :: st) u := WP_u (.ineg) [] rfl
theorem eJ9_abs_0f7a4_6 {l0 : Option Value} {st : List Value} : GJ9_abs_0f7a4 w Q 6 [l0] st u ↔ GJ9_abs_0f7a4 w Q 10 [l0] st u := WP_u (.goto 4) [10] rfl
theorem eJ9_abs_0f7a4_9 {st : List Value} {x : Int32} : GJ9_abs_0f7a4 w Q 9 [some (.int x)] st u ↔ GJ9_abs_0f7a4 w Q 10 [some (.int x)] (.int x :: st) u := WP_u (.iload_n 0) [] rfl
theorem eJ9_abs_0f7a4_10 {l0 : Option Value} {x : Int32} : GJ9_abs_0f7a4 w Q 10 [l0] [.int x] u ↔ Q (some (.int x)) u := (WP_u (.ireturn) [] rfl).trans (ex_ret rfl)
end
def VJ9_abs_0f7a4 (w : WW) : Prop := ∀ (a0 : Int32) (u : MM), pJ9_abs_0f7a4 a0 u → GJ9_abs_0f7a4 w (fun r u' => r = some (.int (rJ9_abs_0f7a4 a0 u)) ∧ u' = u) 0 [some (.int a0)] [] u
def KJ9_max_7cf53 (w : WW) : KT := (al flJ9, al ciJ9, al clJ9, fun _ => none, fun _ => none, al [])
abbrev GJ9_max_7cf53 (w : WW) (Q : Option Value → MM → Prop) : Nat → LL → List Value → MM → Prop := WP w MJ9_max_7cf53 TJ9_max_7cf53 (KJ9_max_7cf53 w) Q
section
variable {w : WW} {Q : Option Value → MM → Prop} {u : MM}
theorem eJ9_max_7cf53_0 {l1 : Option Value} {st : List Value} {x : Int32} : GJ9_max_7cf53 w Q 0 [some (.int x), l1] st u ↔ GJ9_max_7cf53 w Q 1 [some (.int x), l1] (.int x :: st) u := WP_u (.iload_n 0) [] rfl
theorem eJ9_max_7cf53_1 {l0 : Option Value} {st : List Value} {x : Int32} : GJ9_max_7cf53 w Q 1 [l0, some (.int x)] st u ↔ GJ9_max_7cf53 w Q 2 [l0, some (.int x)] (.int x :: st) u := WP_u (.iload_n 1) [] rfl
theorem eJ9_max_7cf53_2 {l0 l1 : Option Value} {st : List Value} {x y : Int32} : GJ9_max_7cf53 w Q 2 [l0, l1] (.int y :: .int x :: st) u ↔ (x < y → GJ9_max_7cf53 w Q 9 [l0, l1] st u) ∧ (¬ (x < y) → GJ9_max_7cf53 w Q 5 [l0, l1] st u) := (WP_u (.if_icmp .lt 7) [9] rfl).trans ex_br
theorem eJ9_max_7cf53_5 {l1 : Option Value} {st : List Value} {x : Int32} : GJ9_max_7cf53 w Q 5 [some (.int x), l1] st u ↔ GJ9_max_7cf53 w Q 6 [some (.int x), l1] (.int x :: st) u := WP_u (.iload_n 0) [] rfl
theorem eJ9_max_7cf53_6 {l0 l1 : Option Value} {st : List Value} : GJ9_max_7cf53 w Q 6 [l0, l1] st u ↔ GJ9_max_7cf53 w Q 10 [l0, l1] st u := WP_u (.goto 4) [10] rfl
theorem eJ9_max_7cf53_9 {l0 : Option Value} {st : List Value} {x : Int32} : GJ9_max_7cf53 w Q 9 [l0, some (.int x)] st u ↔ GJ9_max_7cf53 w Q 10 [l0, some (.int x)] (.int x :: st) u := WP_u (.iload_n 1) [] rfl
theorem eJ9_max_7cf53_10 {l0 l1 : Option Value} {x : Int32} : GJ9_max_7cf53 w Q 10 [l0, l1] [.int x] u ↔ Q (some (.int x)) u := (WP_u (.ireturn) [] rfl).trans (ex_ret rfl)
end
def VJ9_max_7cf53 (w : WW) : Prop := ∀ (a0 : Int32) (a1 : Int32) (u : MM), pJ9_max_7cf53 a0 a1 u → GJ9_max_7cf53 w (fun r u' => r = some (.int (rJ9_max_7cf53 a0 a1 u)) ∧ u' = u) 0 [some (.int a0), some (.int a1)] [] u
def KJ9_min_7cf53 (w : WW) : KT := (al flJ9, al ciJ9, al clJ9, fun _ => none, fun _ => none, al [])
abbrev GJ9_min_7cf53 (w : WW) (Q : Option Value → MM → Prop) : Nat → LL → List Value → MM → Prop := WP w MJ9_min_7cf53 TJ9_min_7cf53 (KJ9_min_7cf53 w) Q
section
variable {w : WW} {Q : Option Value → MM → Prop} {u : MM}
theorem eJ9_min_7cf53_0 {l1 : Option Value} {st : List Value} {x : Int32} : GJ9_min_7cf53 w Q 0 [some (.int x), l1] st u ↔ GJ9_min_7cf53 w Q 1 [some (.int x), l1] (.int x :: st) u := WP_u (.iload_n 0) [] rfl
theorem eJ9_min_7cf53_1 {l0 : Option Value} {st : List Value} {x : Int32} : GJ9_min_7cf53 w Q 1 [l0, some (.int x)] st u ↔ GJ9_min_7cf53 w Q 2 [l0, some (.int x)] (.int x :: st) u := WP_u (.iload_n 1) [] rfl
theorem eJ9_min_7cf53_2 {l0 l1 : Option Value} {st : List Value} {x y : Int32} : GJ9_min_7cf53 w Q 2 [l0, l1] (.int y :: .int x :: st) u ↔ (y < x → GJ9_min_7cf53 w Q 9 [l0, l1] st u) ∧ (¬ (y < x) → GJ9_min_7cf53 w Q 5 [l0, l1] st u) := (WP_u (.if_icmp .gt 7) [9] rfl).trans ex_br
theorem eJ9_min_7cf53_5 {l1 : Option Value} {st : List Value} {x : Int32} : GJ9_min_7cf53 w Q 5 [some (.int x), l1] st u ↔ GJ9_min_7cf53 w Q 6 [some (.int x), l1] (.int x :: st) u := WP_u (.iload_n 0) [] rfl
theorem eJ9_min_7cf53_6 {l0 l1 : Option Value} {st : List Value} : GJ9_min_7cf53 w Q 6 [l0, l1] st u ↔ GJ9_min_7cf53 w Q 10 [l0, l1] st u := WP_u (.goto 4) [10] rfl
theorem eJ9_min_7cf53_9 {l0 : Option Value} {st : List Value} {x : Int32} : GJ9_min_7cf53 w Q 9 [l0, some (.int x)] st u ↔ GJ9_min_7cf53 w Q 10 [l0, some (.int x)] (.int x :: st) u := WP_u (.iload_n 1) [] rfl
theorem eJ9_min_7cf53_10 {l0 l1 : Option Value} {x : Int32} : GJ9_min_7cf53 w Q 10 [l0, l1] [.int x] u ↔ Q (some (.int x)) u := (WP_u (.ireturn) [] rfl).trans (ex_ret rfl)
end
def VJ9_min_7cf53 (w : WW) : Prop := ∀ (a0 : Int32) (a1 : Int32) (u : MM), pJ9_min_7cf53 a0 a1 u → GJ9_min_7cf53 w (fun r u' => r = some (.int (rJ9_min_7cf53 a0 a1 u)) ∧ u' = u) 0 [some (.int a0), some (.int a1)] [] u
def KJ6_bitCount_0f7a4 (w : WW) : KT := (al flJ6, al ciJ6, al clJ6, fun _ => none, fun _ => none, al [])
abbrev GJ6_bitCount_0f7a4 (w : WW) (Q : Option Value → MM → Prop) : Nat → LL → List Value → MM → Prop := WP w MJ6_bitCount_0f7a4 TJ6_bitCount_0f7a4 (KJ6_bitCount_0f7a4 w) Q
section
variable {w : WW} {Q : Option Value → MM → Prop} {u : MM}
theorem eJ6_bitCount_0f7a4_0 {st : List Value} {x : Int32} : GJ6_bitCount_0f7a4 w Q 0 [some (.int x)] st u ↔ GJ6_bitCount_0f7a4 w Q 1 [some (.int x)] (.int x :: st) u := WP_u (.iload_n 0) [] rfl
theorem eJ6_bitCount_0f7a4_1 {st : List Value} {x : Int32} : GJ6_bitCount_0f7a4 w Q 1 [some (.int x)] st u ↔ GJ6_bitCount_0f7a4 w Q 2 [some (.int x)] (.int x :: st) u := WP_u (.iload_n 0) [] rfl
theorem eJ6_bitCount_0f7a4_2 {l0 : Option Value} {st : List Value} : GJ6_bitCount_0f7a4 w Q 2 [l0] st u ↔ GJ6_bitCount_0f7a4 w Q 3 [l0] (.int 1 :: st) u := WP_iconst rfl (by decide)
theorem eJ6_bitCount_0f7a4_3 {l0 : Option Value} {st : List Value} {x y : Int32} : GJ6_bitCount_0f7a4 w Q 3 [l0] (.int y :: .int x :: st) u ↔ GJ6_bitCount_0f7a4 w Q 4 [l0] (.int ((x.toUInt32 >>> (y.toUInt32 &&& Int32.toUInt32 31)).toInt32) :: st) u := WP_u (.iushr) [] rfl
theorem eJ6_bitCount_0f7a4_4 {l0 : Option Value} {st : List Value} : GJ6_bitCount_0f7a4 w Q 4 [l0] st u ↔ GJ6_bitCount_0f7a4 w Q 7 [l0] (.int (1431655765) :: st) u := WP_u (.ldc_w 265) [] rfl
theorem eJ6_bitCount_0f7a4_7 {l0 : Option Value} {st : List Value} {x y : Int32} : GJ6_bitCount_0f7a4 w Q 7 [l0] (.int y :: .int x :: st) u ↔ GJ6_bitCount_0f7a4 w Q 8 [l0] (.int (x &&& y) :: st) u := WP_u (.iand) [] rfl
theorem eJ6_bitCount_0f7a4_8 {l0 : Option Value} {st : List Value} {x y : Int32} : GJ6_bitCount_0f7a4 w Q 8 [l0] (.int y :: .int x :: st) u ↔ GJ6_bitCount_0f7a4 w Q 9 [l0] (.int (x - y) :: st) u := WP_u (.isub) [] rfl
theorem eJ6_bitCount_0f7a4_9 {l0 : Option Value} {st : List Value} {x : Int32} : GJ6_bitCount_0f7a4 w Q 9 [l0] (.int x :: st) u ↔ GJ6_bitCount_0f7a4 w Q 10 [some (.int x)] st u := (WP_u (.istore_n 0) [] rfl).trans (ex_drop (Nat.le_of_ble_eq_true rfl))
theorem eJ6_bitCount_0f7a4_10 {st : List Value} {x : Int32} : GJ6_bitCount_0f7a4 w Q 10 [some (.int x)] st u ↔ GJ6_bitCount_0f7a4 w Q 11 [some (.int x)] (.int x :: st) u := WP_u (.iload_n 0) [] rfl
theorem eJ6_bitCount_0f7a4_11 {l0 : Option Value} {st : List Value} : GJ6_bitCount_0f7a4 w Q 11 [l0] st u ↔ GJ6_bitCount_0f7a4 w Q 14 [l0] (.int (858993459) :: st) u := WP_u (.ldc_w 266) [] rfl
theorem eJ6_bitCount_0f7a4_14 {l0 : Option Value} {st : List Value} {x y : Int32} : GJ6_bitCount_0f7a4 w Q 14 [l0] (.int y :: .int x :: st) u ↔ GJ6_bitCount_0f7a4 w Q 15 [l0] (.int (x &&& y) :: st) u := WP_u (.iand) [] rfl
theorem eJ6_bitCount_0f7a4_15 {st : List Value} {x : Int32} : GJ6_bitCount_0f7a4 w Q 15 [some (.int x)] st u ↔ GJ6_bitCount_0f7a4 w Q 16 [some (.int x)] (.int x :: st) u := WP_u (.iload_n 0) [] rfl
theorem eJ6_bitCount_0f7a4_16 {l0 : Option Value} {st : List Value} : GJ6_bitCount_0f7a4 w Q 16 [l0] st u ↔ GJ6_bitCount_0f7a4 w Q 17 [l0] (.int 2 :: st) u := WP_iconst rfl (by decide)
theorem eJ6_bitCount_0f7a4_17 {l0 : Option Value} {st : List Value} {x y : Int32} : GJ6_bitCount_0f7a4 w Q 17 [l0] (.int y :: .int x :: st) u ↔ GJ6_bitCount_0f7a4 w Q 18 [l0] (.int ((x.toUInt32 >>> (y.toUInt32 &&& Int32.toUInt32 31)).toInt32) :: st) u := WP_u (.iushr) [] rfl
theorem eJ6_bitCount_0f7a4_18 {l0 : Option Value} {st : List Value} : GJ6_bitCount_0f7a4 w Q 18 [l0] st u ↔ GJ6_bitCount_0f7a4 w Q 21 [l0] (.int (858993459) :: st) u := WP_u (.ldc_w 266) [] rfl
theorem eJ6_bitCount_0f7a4_21 {l0 : Option Value} {st : List Value} {x y : Int32} : GJ6_bitCount_0f7a4 w Q 21 [l0] (.int y :: .int x :: st) u ↔ GJ6_bitCount_0f7a4 w Q 22 [l0] (.int (x &&& y) :: st) u := WP_u (.iand) [] rfl
theorem eJ6_bitCount_0f7a4_22 {l0 : Option Value} {st : List Value} {x y : Int32} : GJ6_bitCount_0f7a4 w Q 22 [l0] (.int y :: .int x :: st) u ↔ GJ6_bitCount_0f7a4 w Q 23 [l0] (.int (x + y) :: st) u := WP_u (.iadd) [] rfl
theorem eJ6_bitCount_0f7a4_23 {l0 : Option Value} {st : List Value} {x : Int32} : GJ6_bitCount_0f7a4 w Q 23 [l0] (.int x :: st) u ↔ GJ6_bitCount_0f7a4 w Q 24 [some (.int x)] st u := (WP_u (.istore_n 0) [] rfl).trans (ex_drop (Nat.le_of_ble_eq_true rfl))
theorem eJ6_bitCount_0f7a4_24 {st : List Value} {x : Int32} : GJ6_bitCount_0f7a4 w Q 24 [some (.int x)] st u ↔ GJ6_bitCount_0f7a4 w Q 25 [some (.int x)] (.int x :: st) u := WP_u (.iload_n 0) [] rfl
theorem eJ6_bitCount_0f7a4_25 {st : List Value} {x : Int32} : GJ6_bitCount_0f7a4 w Q 25 [some (.int x)] st u ↔ GJ6_bitCount_0f7a4 w Q 26 [some (.int x)] (.int x :: st) u := WP_u (.iload_n 0) [] rfl
theorem eJ6_bitCount_0f7a4_26 {l0 : Option Value} {st : List Value} : GJ6_bitCount_0f7a4 w Q 26 [l0] st u ↔ GJ6_bitCount_0f7a4 w Q 27 [l0] (.int 4 :: st) u := WP_iconst rfl (by decide)
theorem eJ6_bitCount_0f7a4_27 {l0 : Option Value} {st : List Value} {x y : Int32} : GJ6_bitCount_0f7a4 w Q 27 [l0] (.int y :: .int x :: st) u ↔ GJ6_bitCount_0f7a4 w Q 28 [l0] (.int ((x.toUInt32 >>> (y.toUInt32 &&& Int32.toUInt32 31)).toInt32) :: st) u := WP_u (.iushr) [] rfl
theorem eJ6_bitCount_0f7a4_28 {l0 : Option Value} {st : List Value} {x y : Int32} : GJ6_bitCount_0f7a4 w Q 28 [l0] (.int y :: .int x :: st) u ↔ GJ6_bitCount_0f7a4 w Q 29 [l0] (.int (x + y) :: st) u := WP_u (.iadd) [] rfl
theorem eJ6_bitCount_0f7a4_29 {l0 : Option Value} {st : List Value} : GJ6_bitCount_0f7a4 w Q 29 [l0] st u ↔ GJ6_bitCount_0f7a4 w Q 32 [l0] (.int (252645135) :: st) u := WP_u (.ldc_w 267) [] rfl
theorem eJ6_bitCount_0f7a4_32 {l0 : Option Value} {st : List Value} {x y : Int32} : GJ6_bitCount_0f7a4 w Q 32 [l0] (.int y :: .int x :: st) u ↔ GJ6_bitCount_0f7a4 w Q 33 [l0] (.int (x &&& y) :: st) u := WP_u (.iand) [] rfl
theorem eJ6_bitCount_0f7a4_33 {l0 : Option Value} {st : List Value} {x : Int32} : GJ6_bitCount_0f7a4 w Q 33 [l0] (.int x :: st) u ↔ GJ6_bitCount_0f7a4 w Q 34 [some (.int x)] st u := (WP_u (.istore_n 0) [] rfl).trans (ex_drop (Nat.le_of_ble_eq_true rfl))
theorem eJ6_bitCount_0f7a4_34 {st : List Value} {x : Int32} : GJ6_bitCount_0f7a4 w Q 34 [some (.int x)] st u ↔ GJ6_bitCount_0f7a4 w Q 35 [some (.int x)] (.int x :: st) u := WP_u (.iload_n 0) [] rfl
theorem eJ6_bitCount_0f7a4_35 {st : List Value} {x : Int32} : GJ6_bitCount_0f7a4 w Q 35 [some (.int x)] st u ↔ GJ6_bitCount_0f7a4 w Q 36 [some (.int x)] (.int x :: st) u := WP_u (.iload_n 0) [] rfl
theorem eJ6_bitCount_0f7a4_36 {l0 : Option Value} {st : List Value} : GJ6_bitCount_0f7a4 w Q 36 [l0] st u ↔ GJ6_bitCount_0f7a4 w Q 38 [l0] (.int 8 :: st) u := WP_bipush rfl (by decide)
theorem eJ6_bitCount_0f7a4_38 {l0 : Option Value} {st : List Value} {x y : Int32} : GJ6_bitCount_0f7a4 w Q 38 [l0] (.int y :: .int x :: st) u ↔ GJ6_bitCount_0f7a4 w Q 39 [l0] (.int ((x.toUInt32 >>> (y.toUInt32 &&& Int32.toUInt32 31)).toInt32) :: st) u := WP_u (.iushr) [] rfl
theorem eJ6_bitCount_0f7a4_39 {l0 : Option Value} {st : List Value} {x y : Int32} : GJ6_bitCount_0f7a4 w Q 39 [l0] (.int y :: .int x :: st) u ↔ GJ6_bitCount_0f7a4 w Q 40 [l0] (.int (x + y) :: st) u := WP_u (.iadd) [] rfl
theorem eJ6_bitCount_0f7a4_40 {l0 : Option Value} {st : List Value} {x : Int32} : GJ6_bitCount_0f7a4 w Q 40 [l0] (.int x :: st) u ↔ GJ6_bitCount_0f7a4 w Q 41 [some (.int x)] st u := (WP_u (.istore_n 0) [] rfl).trans (ex_drop (Nat.le_of_ble_eq_true rfl))
theorem eJ6_bitCount_0f7a4_41 {st : List Value} {x : Int32} : GJ6_bitCount_0f7a4 w Q 41 [some (.int x)] st u ↔ GJ6_bitCount_0f7a4 w Q 42 [some (.int x)] (.int x :: st) u := WP_u (.iload_n 0) [] rfl
theorem eJ6_bitCount_0f7a4_42 {st : List Value} {x : Int32} : GJ6_bitCount_0f7a4 w Q 42 [some (.int x)] st u ↔ GJ6_bitCount_0f7a4 w Q 43 [some (.int x)] (.int x :: st) u := WP_u (.iload_n 0) [] rfl
theorem eJ6_bitCount_0f7a4_43 {l0 : Option Value} {st : List Value} : GJ6_bitCount_0f7a4 w Q 43 [l0] st u ↔ GJ6_bitCount_0f7a4 w Q 45 [l0] (.int 16 :: st) u := WP_bipush rfl (by decide)
theorem eJ6_bitCount_0f7a4_45 {l0 : Option Value} {st : List Value} {x y : Int32} : GJ6_bitCount_0f7a4 w Q 45 [l0] (.int y :: .int x :: st) u ↔ GJ6_bitCount_0f7a4 w Q 46 [l0] (.int ((x.toUInt32 >>> (y.toUInt32 &&& Int32.toUInt32 31)).toInt32) :: st) u := WP_u (.iushr) [] rfl
theorem eJ6_bitCount_0f7a4_46 {l0 : Option Value} {st : List Value} {x y : Int32} : GJ6_bitCount_0f7a4 w Q 46 [l0] (.int y :: .int x :: st) u ↔ GJ6_bitCount_0f7a4 w Q 47 [l0] (.int (x + y) :: st) u := WP_u (.iadd) [] rfl
theorem eJ6_bitCount_0f7a4_47 {l0 : Option Value} {st : List Value} {x : Int32} : GJ6_bitCount_0f7a4 w Q 47 [l0] (.int x :: st) u ↔ GJ6_bitCount_0f7a4 w Q 48 [some (.int x)] st u := (WP_u (.istore_n 0) [] rfl).trans (ex_drop (Nat.le_of_ble_eq_true rfl))
theorem eJ6_bitCount_0f7a4_48 {st : List Value} {x : Int32} : GJ6_bitCount_0f7a4 w Q 48 [some (.int x)] st u ↔ GJ6_bitCount_0f7a4 w Q 49 [some (.int x)] (.int x :: st) u := WP_u (.iload_n 0) [] rfl
theorem eJ6_bitCount_0f7a4_49 {l0 : Option Value} {st : List Value} : GJ6_bitCount_0f7a4 w Q 49 [l0] st u ↔ GJ6_bitCount_0f7a4 w Q 51 [l0] (.int 63 :: st) u := WP_bipush rfl (by decide)
theorem eJ6_bitCount_0f7a4_51 {l0 : Option Value} {st : List Value} {x y : Int32} : GJ6_bitCount_0f7a4 w Q 51 [l0] (.int y :: .int x :: st) u ↔ GJ6_bitCount_0f7a4 w Q 52 [l0] (.int (x &&& y) :: st) u := WP_u (.iand) [] rfl
theorem eJ6_bitCount_0f7a4_52 {l0 : Option Value} {x : Int32} : GJ6_bitCount_0f7a4 w Q 52 [l0] [.int x] u ↔ Q (some (.int x)) u := (WP_u (.ireturn) [] rfl).trans (ex_ret rfl)
end
def VJ6_bitCount_0f7a4 (w : WW) : Prop := ∀ (a0 : Int32) (u : MM), pJ6_bitCount_0f7a4 a0 u → GJ6_bitCount_0f7a4 w (fun r u' => r = some (.int (rJ6_bitCount_0f7a4 a0 u)) ∧ u' = u) 0 [some (.int a0)] [] u
theorem vJ6_compare_7cf53 (w : WW) : VJ6_compare_7cf53 w := by
  intro a b u h
  simp only [eJ6_compare_7cf53_0, eJ6_compare_7cf53_1, eJ6_compare_7cf53_2, eJ6_compare_7cf53_5, eJ6_compare_7cf53_6, eJ6_compare_7cf53_9, eJ6_compare_7cf53_10, eJ6_compare_7cf53_11, eJ6_compare_7cf53_14, eJ6_compare_7cf53_15, eJ6_compare_7cf53_18, eJ6_compare_7cf53_19, kl_i, kl_r, kl_n, kl_l, true_and, and_true, true_implies, false_implies, not_true_eq_false, not_false_eq_true, i10, Classical.not_not, rJ6_compare_7cf53, cmpI, Option.some.injEq, Value.int.injEq]
  refine ⟨fun c => ⟨fun d => ?_, fun d => ?_⟩, fun c => ?_⟩
  · rw [if_neg (Int32.not_lt.mpr c), if_neg d]
  · rw [if_neg (Int32.not_lt.mpr c), if_pos d]
  · rw [if_pos (Int32.not_le.mp c)]
set_option maxRecDepth 20000 in
theorem KJ6_compare_7cf53_ok (w : WW) : KOk w MJ6_compare_7cf53 (KJ6_compare_7cf53 w) := KOk_mk flJ6_ok ciJ6_ok clJ6_ok (fun _ _ h => by cases h) (fun _ _ h => by cases h) (List.forall_mem_nil _)
theorem ctJ6_compare_7cf53 (w : WW) : CT w yJ6_compare_7cf53 MJ6_compare_7cf53 (csJ6_compare_7cf53 w).2.1 (csJ6_compare_7cf53 w).2.2 := by
  refine CT_of (by decide) rfl TJ6_compare_7cf53_ok TJ6_compare_7cf53_v (KJ6_compare_7cf53_ok w) (fun as u h => ?_)
  obtain ⟨a0, a1, rfl, h⟩ := sgII h
  have hh := h
  refine ⟨Nat.le_of_ble_eq_true rfl, ?_⟩
  have key := vJ6_compare_7cf53 w a0 a1 u hh
  exact key
theorem vJ9_abs_0f7a4 (w : WW) : VJ9_abs_0f7a4 w := by
  intro a u h
  simp only [eJ9_abs_0f7a4_0, eJ9_abs_0f7a4_1, eJ9_abs_0f7a4_4, eJ9_abs_0f7a4_5, eJ9_abs_0f7a4_6, eJ9_abs_0f7a4_9, eJ9_abs_0f7a4_10, kl_i, kl_r, kl_n, kl_l, true_and, and_true, true_implies, false_implies, not_true_eq_false, not_false_eq_true, i10, Classical.not_not, rJ9_abs_0f7a4, absI, Option.some.injEq, Value.int.injEq]
  exact ⟨fun c => (if_neg (Int32.not_lt.mpr c)).symm, fun c => (if_pos (Int32.not_le.mp c)).symm⟩
set_option maxRecDepth 20000 in
theorem KJ9_abs_0f7a4_ok (w : WW) : KOk w MJ9_abs_0f7a4 (KJ9_abs_0f7a4 w) := KOk_mk flJ9_ok ciJ9_ok clJ9_ok (fun _ _ h => by cases h) (fun _ _ h => by cases h) (List.forall_mem_nil _)
theorem ctJ9_abs_0f7a4 (w : WW) : CT w yJ9_abs_0f7a4 MJ9_abs_0f7a4 (csJ9_abs_0f7a4 w).2.1 (csJ9_abs_0f7a4 w).2.2 := by
  refine CT_ofF (by decide +kernel) rfl TJ9_abs_0f7a4_ok TJ9_abs_0f7a4_v (KJ9_abs_0f7a4_ok w) (fun as u h => ?_)
  obtain ⟨a0, rfl, h⟩ := sgI h
  have hh := h
  refine ⟨Nat.le_of_ble_eq_true rfl, ?_⟩
  have key := vJ9_abs_0f7a4 w a0 u hh
  exact key
theorem vJ9_max_7cf53 (w : WW) : VJ9_max_7cf53 w := by
  intro a b u h
  simp only [eJ9_max_7cf53_0, eJ9_max_7cf53_1, eJ9_max_7cf53_2, eJ9_max_7cf53_5, eJ9_max_7cf53_6, eJ9_max_7cf53_9, eJ9_max_7cf53_10, kl_i, kl_r, kl_n, kl_l, true_and, and_true, true_implies, false_implies, not_true_eq_false, not_false_eq_true, i10, Classical.not_not, rJ9_max_7cf53, maxI, Option.some.injEq, Value.int.injEq]
  exact ⟨fun c => (if_pos c).symm, fun c => (if_neg c).symm⟩
set_option maxRecDepth 20000 in
theorem KJ9_max_7cf53_ok (w : WW) : KOk w MJ9_max_7cf53 (KJ9_max_7cf53 w) := KOk_mk flJ9_ok ciJ9_ok clJ9_ok (fun _ _ h => by cases h) (fun _ _ h => by cases h) (List.forall_mem_nil _)
theorem ctJ9_max_7cf53 (w : WW) : CT w yJ9_max_7cf53 MJ9_max_7cf53 (csJ9_max_7cf53 w).2.1 (csJ9_max_7cf53 w).2.2 := by
  refine CT_ofF (by decide +kernel) rfl TJ9_max_7cf53_ok TJ9_max_7cf53_v (KJ9_max_7cf53_ok w) (fun as u h => ?_)
  obtain ⟨a0, a1, rfl, h⟩ := sgII h
  have hh := h
  refine ⟨Nat.le_of_ble_eq_true rfl, ?_⟩
  have key := vJ9_max_7cf53 w a0 a1 u hh
  exact key
theorem vJ9_min_7cf53 (w : WW) : VJ9_min_7cf53 w := by
  intro a b u h
  simp only [eJ9_min_7cf53_0, eJ9_min_7cf53_1, eJ9_min_7cf53_2, eJ9_min_7cf53_5, eJ9_min_7cf53_6, eJ9_min_7cf53_9, eJ9_min_7cf53_10, kl_i, kl_r, kl_n, kl_l, true_and, and_true, true_implies, false_implies, not_true_eq_false, not_false_eq_true, i10, Classical.not_not, rJ9_min_7cf53, minI, Option.some.injEq, Value.int.injEq]
  exact ⟨fun c => (if_pos c).symm, fun c => (if_neg c).symm⟩
set_option maxRecDepth 20000 in
theorem KJ9_min_7cf53_ok (w : WW) : KOk w MJ9_min_7cf53 (KJ9_min_7cf53 w) := KOk_mk flJ9_ok ciJ9_ok clJ9_ok (fun _ _ h => by cases h) (fun _ _ h => by cases h) (List.forall_mem_nil _)
theorem ctJ9_min_7cf53 (w : WW) : CT w yJ9_min_7cf53 MJ9_min_7cf53 (csJ9_min_7cf53 w).2.1 (csJ9_min_7cf53 w).2.2 := by
  refine CT_ofF (by decide +kernel) rfl TJ9_min_7cf53_ok TJ9_min_7cf53_v (KJ9_min_7cf53_ok w) (fun as u h => ?_)
  obtain ⟨a0, a1, rfl, h⟩ := sgII h
  have hh := h
  refine ⟨Nat.le_of_ble_eq_true rfl, ?_⟩
  have key := vJ9_min_7cf53 w a0 a1 u hh
  exact key
theorem vJ6_bitCount_0f7a4 (w : WW) : VJ6_bitCount_0f7a4 w := by
  intro x u h
  simp only [eJ6_bitCount_0f7a4_0, eJ6_bitCount_0f7a4_1, eJ6_bitCount_0f7a4_2, eJ6_bitCount_0f7a4_3, eJ6_bitCount_0f7a4_4, eJ6_bitCount_0f7a4_7, eJ6_bitCount_0f7a4_8, eJ6_bitCount_0f7a4_9, eJ6_bitCount_0f7a4_10, eJ6_bitCount_0f7a4_11, eJ6_bitCount_0f7a4_14, eJ6_bitCount_0f7a4_15, eJ6_bitCount_0f7a4_16, eJ6_bitCount_0f7a4_17, eJ6_bitCount_0f7a4_18, eJ6_bitCount_0f7a4_21, eJ6_bitCount_0f7a4_22, eJ6_bitCount_0f7a4_23, eJ6_bitCount_0f7a4_24, eJ6_bitCount_0f7a4_25, eJ6_bitCount_0f7a4_26, eJ6_bitCount_0f7a4_27, eJ6_bitCount_0f7a4_28, eJ6_bitCount_0f7a4_29, eJ6_bitCount_0f7a4_32, eJ6_bitCount_0f7a4_33, eJ6_bitCount_0f7a4_34, eJ6_bitCount_0f7a4_35, eJ6_bitCount_0f7a4_36, eJ6_bitCount_0f7a4_38, eJ6_bitCount_0f7a4_39, eJ6_bitCount_0f7a4_40, eJ6_bitCount_0f7a4_41, eJ6_bitCount_0f7a4_42, eJ6_bitCount_0f7a4_43, eJ6_bitCount_0f7a4_45, eJ6_bitCount_0f7a4_46, eJ6_bitCount_0f7a4_47, eJ6_bitCount_0f7a4_48, eJ6_bitCount_0f7a4_49, eJ6_bitCount_0f7a4_51, eJ6_bitCount_0f7a4_52, kl_i, kl_r, kl_n, kl_l, true_and, and_true, true_implies, false_implies, not_true_eq_false, not_false_eq_true, i10, Classical.not_not, rJ6_bitCount_0f7a4, Option.some.injEq, Value.int.injEq]
  rfl
set_option maxRecDepth 20000 in
theorem KJ6_bitCount_0f7a4_ok (w : WW) : KOk w MJ6_bitCount_0f7a4 (KJ6_bitCount_0f7a4 w) := KOk_mk flJ6_ok ciJ6_ok clJ6_ok (fun _ _ h => by cases h) (fun _ _ h => by cases h) (List.forall_mem_nil _)
theorem ctJ6_bitCount_0f7a4 (w : WW) : CT w yJ6_bitCount_0f7a4 MJ6_bitCount_0f7a4 (csJ6_bitCount_0f7a4 w).2.1 (csJ6_bitCount_0f7a4 w).2.2 := by
  refine CT_of (by decide) rfl TJ6_bitCount_0f7a4_ok TJ6_bitCount_0f7a4_v (KJ6_bitCount_0f7a4_ok w) (fun as u h => ?_)
  obtain ⟨a0, rfl, h⟩ := sgI h
  have hh := h
  refine ⟨Nat.le_of_ble_eq_true rfl, ?_⟩
  have key := vJ6_bitCount_0f7a4 w a0 u hh
  exact key
