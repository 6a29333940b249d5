/-! ===== the class's words ===== -/
/-- the bytes from s on are these letters -/
def mt (B : Nat → Int32) : Nat → List Int32 → Bool
  | _, [] => true
  | s, c :: l => decide (B s = c) && mt B (s + 1) l
/-- the token stands on the tape -/
def TK (u : MM) : Prop := ∃ s e, s ≤ e ∧ e ≤ NN (u.1 281) ∧ u.1 283 = nI s ∧ u.1 284 = nI e
abbrev wd (u : MM) (k : Nat) : Prop := u.1 282 = 1 ∧ NN (u.1 284) - NN (u.1 283) = (kb k).length ∧ mt (bx u) (NN (u.1 283)) (kb k) = true
def pX4_isWord (_ : Nat) (u : MM) : Prop := TX u ∧ TK u
def rX4_isWord (k : Nat) (u : MM) : Int32 := bi (wd u k)
def nmT (k : Int32) : Nat := if k = 1 then 6 else if k = 2 then 7 else if k = 3 then 8 else if k = 4 then 9 else if k = 5 then 10 else 5
def pX4_nameOf (_ : Int32) (_ : MM) : Prop := True
def rX4_nameOf (k : Int32) (_ : MM) : Nat := nmT k
def pX4_kindNamed (u : MM) : Prop := TX u ∧ TK u
def rX4_kindNamed (u : MM) : Int32 := if wd u 5 then 0 else if wd u 6 then 1 else if wd u 7 then 2 else if wd u 8 then 3 else if wd u 9 then 4 else if wd u 10 then 5 else -1
theorem kOk_wK (w : WW) {t : Nat} (ht : t < 11) : kOk w (wK w t) := ⟨t, ht, rfl⟩
def MX4_isWord : MI := (cX4_isWord, 3, some .boolean, RX4, { frames := 6, cells := 0, slots := 0, locals := 126 })
def TX4_isWord : TB := [(0, .aload_n 0, 1, []), (1, .getfield 43, 3, []), (4, .iconst 1, 1, []), (5, .if_icmp .ne 19, 3, [24]), (8, .aload_n 0, 1, []), (9, .getfield 19, 3, []), (12, .aload_n 0, 1, []), (13, .getfield 46, 3, []), (16, .isub, 1, []), (17, .aload_n 1, 1, []), (18, .invokevirtual 126, 3, []), (21, .if_icmp .eq 5, 3, [26]), (24, .iconst 0, 1, []), (25, .ireturn, 1, []), (26, .iconst 0, 1, []), (27, .istore_n 2, 1, []), (28, .iload_n 2, 1, []), (29, .aload_n 1, 1, []), (30, .invokevirtual 126, 3, []), (33, .if_icmp .ge 30, 3, [63]), (36, .aload_n 0, 1, []), (37, .getfield 9, 3, []), (40, .aload_n 0, 1, []), (41, .getfield 46, 3, []), (44, .iload_n 2, 1, []), (45, .iadd, 1, []), (46, .iaload, 1, []), (47, .aload_n 1, 1, []), (48, .iload_n 2, 1, []), (49, .invokevirtual 130, 3, []), (52, .if_icmp .eq 5, 3, [57]), (55, .iconst 0, 1, []), (56, .ireturn, 1, []), (57, .iinc 2 1, 3, []), (60, .goto (-32), 3, [28]), (63, .iconst 1, 1, []), (64, .ireturn, 1, [])]
set_option maxRecDepth 20000 in
theorem TX4_isWord_ok : TX4_isWord.all (chk MX4_isWord.1) = true := by decide +kernel
theorem TX4_isWord_v : TX4_isWord.all vOk = true := by decide +kernel
def csX4_isWord (w : WW) : CS := (2, fun as u => match as with | [.ref a0, .ref a1] => a0 = tpA w ∧ kOk w a1 ∧ wOk w ∧ pX4_isWord (kt w a1) u | _ => False, fun as u => match as with | [.ref a0, .ref a1] => (some (.int (rX4_isWord (kt w a1) u)), u) | _ => (none, u))
def MX4_nameOf : MI := (cX4_nameOf, 1, some (.object "java/lang/String"), RX4, { frames := 0, cells := 0, slots := 0, locals := 0 })
def TX4_nameOf : TB := [(0, .iload_n 0, 1, []), (1, .tableswitch 50 1 5 #[35, 38, 41, 44, 47], 35, [51, 36, 39, 42, 45, 48]), (36, .ldc 114, 2, []), (38, .areturn, 1, []), (39, .ldc 116, 2, []), (41, .areturn, 1, []), (42, .ldc 118, 2, []), (44, .areturn, 1, []), (45, .ldc 120, 2, []), (47, .areturn, 1, []), (48, .ldc 122, 2, []), (50, .areturn, 1, []), (51, .ldc 124, 2, []), (53, .areturn, 1, [])]
set_option maxRecDepth 20000 in
theorem TX4_nameOf_ok : TX4_nameOf.all (chk MX4_nameOf.1) = true := by decide +kernel
theorem TX4_nameOf_v : TX4_nameOf.all vOk = true := by decide +kernel
def csX4_nameOf (w : WW) : CS := (1, fun as u => match as with | [.int a0] => pX4_nameOf a0 u | _ => False, fun as u => match as with | [.int a0] => (some (.ref (wK w (rX4_nameOf a0 u))), u) | _ => (none, u))
def MX4_kindNamed : MI := (cX4_kindNamed, 2, some .int, RX4, { frames := 7, cells := 0, slots := 0, locals := 148 })
def TX4_kindNamed : TB := [(0, .iconst 0, 1, []), (1, .istore_n 1, 1, []), (2, .iload_n 1, 1, []), (3, .bipush 6, 2, []), (5, .if_icmp .ge 22, 3, [27]), (8, .aload_n 0, 1, []), (9, .iload_n 1, 1, []), (10, .invokestatic 110, 3, []), (13, .invokevirtual 27, 3, []), (16, .ifCond .eq 5, 3, [21]), (19, .iload_n 1, 1, []), (20, .ireturn, 1, []), (21, .iinc 1 1, 3, []), (24, .goto (-22), 3, [2]), (27, .iconst (-1), 1, []), (28, .ireturn, 1, [])]
set_option maxRecDepth 20000 in
theorem TX4_kindNamed_ok : TX4_kindNamed.all (chk MX4_kindNamed.1) = true := by decide +kernel
theorem TX4_kindNamed_v : TX4_kindNamed.all vOk = true := by decide +kernel
def csX4_kindNamed (w : WW) : CS := (1, fun as u => match as with | [.ref a0] => a0 = tpA w ∧ wOk w ∧ pX4_kindNamed u | _ => False, fun as u => match as with | [.ref a0] => (some (.int (rX4_kindNamed u)), u) | _ => (none, u))
def KX4_isWord (w : WW) : KT := (al flX4, al ciX4, al clX4, fun _ => none, al [(25, 0), (35, 1), (66, 2), (89, 3), (95, 4), (124, 5), (114, 6), (116, 7), (118, 8), (120, 9), (122, 10)], al [(126, csJ0_length_8abf5 w), (130, csJ0_charAt_5068e w)])
abbrev GX4_isWord (w : WW) (Q : Option Value → MM → Prop) : Nat → LL → List Value → MM → Prop := WP w MX4_isWord TX4_isWord (KX4_isWord w) Q
section
variable {w : WW} {Q : Option Value → MM → Prop} {u : MM}
theorem eX4_isWord_0 {l1 l2 : Option Value} {st : List Value} {x : Nat} : GX4_isWord w Q 0 [some (.ref x), l1, l2] st u ↔ GX4_isWord w Q 1 [some (.ref x), l1, l2] (.ref x :: st) u := WP_u (.aload_n 0) [] rfl
theorem eX4_isWord_1 {l0 l1 l2 : Option Value} {st : List Value} {a : Nat} : GX4_isWord w Q 1 [l0, l1, l2] (.ref a :: st) u ↔ okI w a 4 2 ∧ GX4_isWord w Q 4 [l0, l1, l2] (.int (u.1 (ixI w a 2)) :: st) u := (WP_u (.getfield 43) [] rfl).trans ex_and
theorem eX4_isWord_4 {l0 l1 l2 : Option Value} {st : List Value} : GX4_isWord w Q 4 [l0, l1, l2] st u ↔ GX4_isWord w Q 5 [l0, l1, l2] (.int 1 :: st) u := WP_iconst rfl (by decide)
theorem eX4_isWord_5 {l0 l1 l2 : Option Value} {st : List Value} {x y : Int32} : GX4_isWord w Q 5 [l0, l1, l2] (.int y :: .int x :: st) u ↔ (¬ x = y → GX4_isWord w Q 24 [l0, l1, l2] st u) ∧ (¬ (¬ x = y) → GX4_isWord w Q 8 [l0, l1, l2] st u) := (WP_u (.if_icmp .ne 19) [24] rfl).trans ex_br
theorem eX4_isWord_8 {l1 l2 : Option Value} {st : List Value} {x : Nat} : GX4_isWord w Q 8 [some (.ref x), l1, l2] st u ↔ GX4_isWord w Q 9 [some (.ref x), l1, l2] (.ref x :: st) u := WP_u (.aload_n 0) [] rfl
theorem eX4_isWord_9 {l0 l1 l2 : Option Value} {st : List Value} {a : Nat} : GX4_isWord w Q 9 [l0, l1, l2] (.ref a :: st) u ↔ okI w a 4 4 ∧ GX4_isWord w Q 12 [l0, l1, l2] (.int (u.1 (ixI w a 4)) :: st) u := (WP_u (.getfield 19) [] rfl).trans ex_and
theorem eX4_isWord_12 {l1 l2 : Option Value} {st : List Value} {x : Nat} : GX4_isWord w Q 12 [some (.ref x), l1, l2] st u ↔ GX4_isWord w Q 13 [some (.ref x), l1, l2] (.ref x :: st) u := WP_u (.aload_n 0) [] rfl
theorem eX4_isWord_13 {l0 l1 l2 : Option Value} {st : List Value} {a : Nat} : GX4_isWord w Q 13 [l0, l1, l2] (.ref a :: st) u ↔ okI w a 4 3 ∧ GX4_isWord w Q 16 [l0, l1, l2] (.int (u.1 (ixI w a 3)) :: st) u := (WP_u (.getfield 46) [] rfl).trans ex_and
theorem eX4_isWord_16 {l0 l1 l2 : Option Value} {st : List Value} {x y : Int32} : GX4_isWord w Q 16 [l0, l1, l2] (.int y :: .int x :: st) u ↔ GX4_isWord w Q 17 [l0, l1, l2] (.int (x - y) :: st) u := WP_u (.isub) [] rfl
theorem eX4_isWord_17 {l0 l2 : Option Value} {st : List Value} {x : Nat} : GX4_isWord w Q 17 [l0, some (.ref x), l2] st u ↔ GX4_isWord w Q 18 [l0, some (.ref x), l2] (.ref x :: st) u := WP_u (.aload_n 1) [] rfl
theorem eX4_isWord_18 {l0 l1 l2 : Option Value} {x0 : Nat} {x1 : Int32} : GX4_isWord w Q 18 [l0, l1, l2] [.ref x0, .int x1] u ↔ (kOk w x0 ∧ wOk w ∧ pJ0_length_8abf5 (kt w x0) u) ∧ GX4_isWord w Q 21 [l0, l1, l2] [.int (rJ0_length_8abf5 (kt w x0) u), .int x1] u := (WP_u (.invokevirtual 126) [] rfl).trans (ex_call ⟨Nat.le_of_ble_eq_true rfl, Nat.le_of_ble_eq_true rfl⟩)
theorem eX4_isWord_21 {l0 l1 l2 : Option Value} {st : List Value} {x y : Int32} : GX4_isWord w Q 21 [l0, l1, l2] (.int y :: .int x :: st) u ↔ (x = y → GX4_isWord w Q 26 [l0, l1, l2] st u) ∧ (¬ (x = y) → GX4_isWord w Q 24 [l0, l1, l2] st u) := (WP_u (.if_icmp .eq 5) [26] rfl).trans ex_br
theorem eX4_isWord_24 {l0 l1 l2 : Option Value} {st : List Value} : GX4_isWord w Q 24 [l0, l1, l2] st u ↔ GX4_isWord w Q 25 [l0, l1, l2] (.int 0 :: st) u := WP_iconst rfl (by decide)
theorem eX4_isWord_25 {l0 l1 l2 : Option Value} {x : Int32} : GX4_isWord w Q 25 [l0, l1, l2] [.int x] u ↔ nb x ∧ Q (some (.int x)) u := (WP_u (.ireturn) [] rfl).trans ex_k
theorem eX4_isWord_26 {l0 l1 l2 : Option Value} {st : List Value} : GX4_isWord w Q 26 [l0, l1, l2] st u ↔ GX4_isWord w Q 27 [l0, l1, l2] (.int 0 :: st) u := WP_iconst rfl (by decide)
theorem eX4_isWord_27 {l0 l1 l2 : Option Value} {st : List Value} {x : Int32} : GX4_isWord w Q 27 [l0, l1, l2] (.int x :: st) u ↔ GX4_isWord w Q 28 [l0, kl l1, some (.int x)] st u := (WP_u (.istore_n 2) [] rfl).trans (ex_drop (Nat.le_of_ble_eq_true rfl))
theorem eX4_isWord_28 {l0 l1 : Option Value} {st : List Value} {x : Int32} : GX4_isWord w Q 28 [l0, l1, some (.int x)] st u ↔ GX4_isWord w Q 29 [l0, l1, some (.int x)] (.int x :: st) u := WP_u (.iload_n 2) [] rfl
theorem eX4_isWord_29 {l0 l2 : Option Value} {st : List Value} {x : Nat} : GX4_isWord w Q 29 [l0, some (.ref x), l2] st u ↔ GX4_isWord w Q 30 [l0, some (.ref x), l2] (.ref x :: st) u := WP_u (.aload_n 1) [] rfl
theorem eX4_isWord_30 {l0 l1 l2 : Option Value} {x0 : Nat} {x1 : Int32} : GX4_isWord w Q 30 [l0, l1, l2] [.ref x0, .int x1] u ↔ (kOk w x0 ∧ wOk w ∧ pJ0_length_8abf5 (kt w x0) u) ∧ GX4_isWord w Q 33 [l0, l1, l2] [.int (rJ0_length_8abf5 (kt w x0) u), .int x1] u := (WP_u (.invokevirtual 126) [] rfl).trans (ex_call ⟨Nat.le_of_ble_eq_true rfl, Nat.le_of_ble_eq_true rfl⟩)
theorem eX4_isWord_33 {l0 l1 l2 : Option Value} {st : List Value} {x y : Int32} : GX4_isWord w Q 33 [l0, l1, l2] (.int y :: .int x :: st) u ↔ (y ≤ x → GX4_isWord w Q 63 [l0, l1, l2] st u) ∧ (¬ (y ≤ x) → GX4_isWord w Q 36 [l0, l1, l2] st u) := (WP_u (.if_icmp .ge 30) [63] rfl).trans ex_br
theorem eX4_isWord_36 {l1 l2 : Option Value} {st : List Value} {x : Nat} : GX4_isWord w Q 36 [some (.ref x), l1, l2] st u ↔ GX4_isWord w Q 37 [some (.ref x), l1, l2] (.ref x :: st) u := WP_u (.aload_n 0) [] rfl
theorem eX4_isWord_37 {l0 l1 l2 : Option Value} {st : List Value} {a : Nat} : GX4_isWord w Q 37 [l0, l1, l2] (.ref a :: st) u ↔ okR w a 4 0 ∧ GX4_isWord w Q 40 [l0, l1, l2] (.ref (rfF w a 0) :: st) u := (WP_u (.getfield 9) [] rfl).trans ex_and
theorem eX4_isWord_40 {l1 l2 : Option Value} {st : List Value} {x : Nat} : GX4_isWord w Q 40 [some (.ref x), l1, l2] st u ↔ GX4_isWord w Q 41 [some (.ref x), l1, l2] (.ref x :: st) u := WP_u (.aload_n 0) [] rfl
theorem eX4_isWord_41 {l0 l1 l2 : Option Value} {st : List Value} {a : Nat} : GX4_isWord w Q 41 [l0, l1, l2] (.ref a :: st) u ↔ okI w a 4 3 ∧ GX4_isWord w Q 44 [l0, l1, l2] (.int (u.1 (ixI w a 3)) :: st) u := (WP_u (.getfield 46) [] rfl).trans ex_and
theorem eX4_isWord_44 {l0 l1 : Option Value} {st : List Value} {x : Int32} : GX4_isWord w Q 44 [l0, l1, some (.int x)] st u ↔ GX4_isWord w Q 45 [l0, l1, some (.int x)] (.int x :: st) u := WP_u (.iload_n 2) [] rfl
theorem eX4_isWord_45 {l0 l1 l2 : Option Value} {st : List Value} {x y : Int32} : GX4_isWord w Q 45 [l0, l1, l2] (.int y :: .int x :: st) u ↔ GX4_isWord w Q 46 [l0, l1, l2] (.int (x + y) :: st) u := WP_u (.iadd) [] rfl
theorem eX4_isWord_46 {l0 l1 l2 : Option Value} {st : List Value} {a : Nat} {i : Int32} : GX4_isWord w Q 46 [l0, l1, l2] (.int i :: .ref a :: st) u ↔ okAI w a i ∧ GX4_isWord w Q 47 [l0, l1, l2] (.int (rdA w u a i) :: st) u := (WP_u (.iaload) [] rfl).trans ex_and
theorem eX4_isWord_47 {l0 l2 : Option Value} {st : List Value} {x : Nat} : GX4_isWord w Q 47 [l0, some (.ref x), l2] st u ↔ GX4_isWord w Q 48 [l0, some (.ref x), l2] (.ref x :: st) u := WP_u (.aload_n 1) [] rfl
theorem eX4_isWord_48 {l0 l1 : Option Value} {st : List Value} {x : Int32} : GX4_isWord w Q 48 [l0, l1, some (.int x)] st u ↔ GX4_isWord w Q 49 [l0, l1, some (.int x)] (.int x :: st) u := WP_u (.iload_n 2) [] rfl
theorem eX4_isWord_49 {l0 l1 l2 : Option Value} {x0 : Int32} {x1 : Nat} {x2 : Int32} : GX4_isWord w Q 49 [l0, l1, l2] [.int x0, .ref x1, .int x2] u ↔ (kOk w x1 ∧ wOk w ∧ pJ0_charAt_5068e (kt w x1) x0 u) ∧ GX4_isWord w Q 52 [l0, l1, l2] [.int (rJ0_charAt_5068e (kt w x1) x0 u), .int x2] u := (WP_u (.invokevirtual 130) [] rfl).trans (ex_call ⟨Nat.le_of_ble_eq_true rfl, Nat.le_of_ble_eq_true rfl⟩)
theorem eX4_isWord_52 {l0 l1 l2 : Option Value} {st : List Value} {x y : Int32} : GX4_isWord w Q 52 [l0, l1, l2] (.int y :: .int x :: st) u ↔ (x = y → GX4_isWord w Q 57 [l0, l1, l2] st u) ∧ (¬ (x = y) → GX4_isWord w Q 55 [l0, l1, l2] st u) := (WP_u (.if_icmp .eq 5) [57] rfl).trans ex_br
theorem eX4_isWord_55 {l0 l1 l2 : Option Value} {st : List Value} : GX4_isWord w Q 55 [l0, l1, l2] st u ↔ GX4_isWord w Q 56 [l0, l1, l2] (.int 0 :: st) u := WP_iconst rfl (by decide)
theorem eX4_isWord_56 {l0 l1 l2 : Option Value} {x : Int32} : GX4_isWord w Q 56 [l0, l1, l2] [.int x] u ↔ nb x ∧ Q (some (.int x)) u := (WP_u (.ireturn) [] rfl).trans ex_k
theorem eX4_isWord_57 {l0 l1 : Option Value} {st : List Value} {x : Int32} : GX4_isWord w Q 57 [l0, l1, some (.int x)] st u ↔ GX4_isWord w Q 60 [l0, kl l1, some (.int (x + 1))] st u := WP_iinc rfl (by decide) rfl rfl
theorem eX4_isWord_60 {l0 l1 l2 : Option Value} {st : List Value} : GX4_isWord w Q 60 [l0, l1, l2] st u ↔ GX4_isWord w Q 28 [l0, l1, l2] st u := WP_u (.goto (-32)) [28] rfl
theorem eX4_isWord_63 {l0 l1 l2 : Option Value} {st : List Value} : GX4_isWord w Q 63 [l0, l1, l2] st u ↔ GX4_isWord w Q 64 [l0, l1, l2] (.int 1 :: st) u := WP_iconst rfl (by decide)
theorem eX4_isWord_64 {l0 l1 l2 : Option Value} {x : Int32} : GX4_isWord w Q 64 [l0, l1, l2] [.int x] u ↔ nb x ∧ Q (some (.int x)) u := (WP_u (.ireturn) [] rfl).trans ex_k
end
def VX4_isWord (w : WW) : Prop := ∀ (t1 : Nat) (u : MM), t1 < 11 → wOk w → pX4_isWord t1 u → GX4_isWord w (fun r u' => r = some (.int (rX4_isWord t1 u)) ∧ u' = u) 0 [some (.ref (tpA w)), some (.ref (wK w t1)), none] [] u
def KX4_nameOf (w : WW) : KT := (al flX4, al ciX4, al clX4, fun _ => none, al [(25, 0), (35, 1), (66, 2), (89, 3), (95, 4), (124, 5), (114, 6), (116, 7), (118, 8), (120, 9), (122, 10)], al [])
abbrev GX4_nameOf (w : WW) (Q : Option Value → MM → Prop) : Nat → LL → List Value → MM → Prop := WP w MX4_nameOf TX4_nameOf (KX4_nameOf w) Q
section
variable {w : WW} {Q : Option Value → MM → Prop} {u : MM}
theorem eX4_nameOf_0 {st : List Value} {x : Int32} : GX4_nameOf w Q 0 [some (.int x)] st u ↔ GX4_nameOf w Q 1 [some (.int x)] (.int x :: st) u := WP_u (.iload_n 0) [] rfl
theorem eX4_nameOf_1 {l0 : Option Value} {st : List Value} {x : Int32} : GX4_nameOf w Q 1 [l0] (.int x :: st) u ↔ (x = 1 → GX4_nameOf w Q 36 [l0] st u) ∧ (¬ x = 1 → ((x = 2 → GX4_nameOf w Q 39 [l0] st u) ∧ (¬ x = 2 → ((x = 3 → GX4_nameOf w Q 42 [l0] st u) ∧ (¬ x = 3 → ((x = 4 → GX4_nameOf w Q 45 [l0] st u) ∧ (¬ x = 4 → ((x = 5 → GX4_nameOf w Q 48 [l0] st u) ∧ (¬ x = 5 → GX4_nameOf w Q 51 [l0] st u))))))))) := (WP_u (.tableswitch 50 1 5 #[35, 38, 41, 44, 47]) [51, 36, 39, 42, 45, 48] rfl).trans ((ex_swc (f := fun t n => wp w MX4_nameOf TX4_nameOf (KX4_nameOf w) Q n t [l0] st u) (d := fun n => wp w MX4_nameOf TX4_nameOf (KX4_nameOf w) Q n 51 [l0] st u) [36, 39, 42, 45, 48] 1).trans Iff.rfl)
theorem eX4_nameOf_36 {l0 : Option Value} {st : List Value} : GX4_nameOf w Q 36 [l0] st u ↔ GX4_nameOf w Q 38 [l0] (.ref (wK w 6) :: st) u := WP_u (.ldc 114) [] rfl
theorem eX4_nameOf_38 {l0 : Option Value} {x : Nat} : GX4_nameOf w Q 38 [l0] [.ref x] u ↔ Q (some (.ref x)) u := (WP_u (.areturn) [] rfl).trans ex_k
theorem eX4_nameOf_39 {l0 : Option Value} {st : List Value} : GX4_nameOf w Q 39 [l0] st u ↔ GX4_nameOf w Q 41 [l0] (.ref (wK w 7) :: st) u := WP_u (.ldc 116) [] rfl
theorem eX4_nameOf_41 {l0 : Option Value} {x : Nat} : GX4_nameOf w Q 41 [l0] [.ref x] u ↔ Q (some (.ref x)) u := (WP_u (.areturn) [] rfl).trans ex_k
theorem eX4_nameOf_42 {l0 : Option Value} {st : List Value} : GX4_nameOf w Q 42 [l0] st u ↔ GX4_nameOf w Q 44 [l0] (.ref (wK w 8) :: st) u := WP_u (.ldc 118) [] rfl
theorem eX4_nameOf_44 {l0 : Option Value} {x : Nat} : GX4_nameOf w Q 44 [l0] [.ref x] u ↔ Q (some (.ref x)) u := (WP_u (.areturn) [] rfl).trans ex_k
theorem eX4_nameOf_45 {l0 : Option Value} {st : List Value} : GX4_nameOf w Q 45 [l0] st u ↔ GX4_nameOf w Q 47 [l0] (.ref (wK w 9) :: st) u := WP_u (.ldc 120) [] rfl
theorem eX4_nameOf_47 {l0 : Option Value} {x : Nat} : GX4_nameOf w Q 47 [l0] [.ref x] u ↔ Q (some (.ref x)) u := (WP_u (.areturn) [] rfl).trans ex_k
theorem eX4_nameOf_48 {l0 : Option Value} {st : List Value} : GX4_nameOf w Q 48 [l0] st u ↔ GX4_nameOf w Q 50 [l0] (.ref (wK w 10) :: st) u := WP_u (.ldc 122) [] rfl
theorem eX4_nameOf_50 {l0 : Option Value} {x : Nat} : GX4_nameOf w Q 50 [l0] [.ref x] u ↔ Q (some (.ref x)) u := (WP_u (.areturn) [] rfl).trans ex_k
theorem eX4_nameOf_51 {l0 : Option Value} {st : List Value} : GX4_nameOf w Q 51 [l0] st u ↔ GX4_nameOf w Q 53 [l0] (.ref (wK w 5) :: st) u := WP_u (.ldc 124) [] rfl
theorem eX4_nameOf_53 {l0 : Option Value} {x : Nat} : GX4_nameOf w Q 53 [l0] [.ref x] u ↔ Q (some (.ref x)) u := (WP_u (.areturn) [] rfl).trans ex_k
end
def VX4_nameOf (w : WW) : Prop := ∀ (a0 : Int32) (u : MM), pX4_nameOf a0 u → GX4_nameOf w (fun r u' => r = some (.ref (wK w (rX4_nameOf a0 u))) ∧ u' = u) 0 [some (.int a0)] [] u
def KX4_kindNamed (w : WW) : KT := (al flX4, al ciX4, al clX4, fun _ => none, al [(25, 0), (35, 1), (66, 2), (89, 3), (95, 4), (124, 5), (114, 6), (116, 7), (118, 8), (120, 9), (122, 10)], al [(27, csX4_isWord w), (65646, csX4_nameOf w)])
abbrev GX4_kindNamed (w : WW) (Q : Option Value → MM → Prop) : Nat → LL → List Value → MM → Prop := WP w MX4_kindNamed TX4_kindNamed (KX4_kindNamed w) Q
section
variable {w : WW} {Q : Option Value → MM → Prop} {u : MM}
theorem eX4_kindNamed_0 {l0 l1 : Option Value} {st : List Value} : GX4_kindNamed w Q 0 [l0, l1] st u ↔ GX4_kindNamed w Q 1 [l0, l1] (.int 0 :: st) u := WP_iconst rfl (by decide)
theorem eX4_kindNamed_1 {l0 l1 : Option Value} {st : List Value} {x : Int32} : GX4_kindNamed w Q 1 [l0, l1] (.int x :: st) u ↔ GX4_kindNamed w Q 2 [kl l0, some (.int x)] st u := (WP_u (.istore_n 1) [] rfl).trans (ex_drop (Nat.le_of_ble_eq_true rfl))
theorem eX4_kindNamed_2 {l0 : Option Value} {st : List Value} {x : Int32} : GX4_kindNamed w Q 2 [l0, some (.int x)] st u ↔ GX4_kindNamed w Q 3 [l0, some (.int x)] (.int x :: st) u := WP_u (.iload_n 1) [] rfl
theorem eX4_kindNamed_3 {l0 l1 : Option Value} {st : List Value} : GX4_kindNamed w Q 3 [l0, l1] st u ↔ GX4_kindNamed w Q 5 [l0, l1] (.int 6 :: st) u := WP_bipush rfl (by decide)
theorem eX4_kindNamed_5 {l0 l1 : Option Value} {st : List Value} {x y : Int32} : GX4_kindNamed w Q 5 [l0, l1] (.int y :: .int x :: st) u ↔ (y ≤ x → GX4_kindNamed w Q 27 [l0, l1] st u) ∧ (¬ (y ≤ x) → GX4_kindNamed w Q 8 [l0, l1] st u) := (WP_u (.if_icmp .ge 22) [27] rfl).trans ex_br
theorem eX4_kindNamed_8 {l1 : Option Value} {st : List Value} {x : Nat} : GX4_kindNamed w Q 8 [some (.ref x), l1] st u ↔ GX4_kindNamed w Q 9 [some (.ref x), l1] (.ref x :: st) u := WP_u (.aload_n 0) [] rfl
theorem eX4_kindNamed_9 {l0 : Option Value} {st : List Value} {x : Int32} : GX4_kindNamed w Q 9 [l0, some (.int x)] st u ↔ GX4_kindNamed w Q 10 [l0, some (.int x)] (.int x :: st) u := WP_u (.iload_n 1) [] rfl
theorem eX4_kindNamed_10 {l0 l1 : Option Value} {x0 : Int32} {x1 : Nat} : GX4_kindNamed w Q 10 [l0, l1] [.int x0, .ref x1] u ↔ (pX4_nameOf x0 u) ∧ GX4_kindNamed w Q 13 [l0, l1] [.ref (wK w (rX4_nameOf x0 u)), .ref x1] u := (WP_u (.invokestatic 110) [] rfl).trans (ex_call ⟨Nat.le_of_ble_eq_true rfl, Nat.le_of_ble_eq_true rfl⟩)
theorem eX4_kindNamed_13 {l0 l1 : Option Value} {x0 : Nat} {x1 : Nat} : GX4_kindNamed w Q 13 [l0, l1] [.ref x0, .ref x1] u ↔ (x1 = tpA w ∧ kOk w x0 ∧ wOk w ∧ pX4_isWord (kt w x0) u) ∧ GX4_kindNamed w Q 16 [l0, l1] [.int (rX4_isWord (kt w x0) u)] u := (WP_u (.invokevirtual 27) [] rfl).trans (ex_call ⟨Nat.le_of_ble_eq_true rfl, Nat.le_of_ble_eq_true rfl⟩)
theorem eX4_kindNamed_16 {l0 l1 : Option Value} {st : List Value} {x : Int32} : GX4_kindNamed w Q 16 [l0, l1] (.int x :: st) u ↔ (x = 0 → GX4_kindNamed w Q 21 [l0, l1] st u) ∧ (¬ (x = 0) → GX4_kindNamed w Q 19 [l0, l1] st u) := (WP_u (.ifCond .eq 5) [21] rfl).trans ex_br
theorem eX4_kindNamed_19 {l0 : Option Value} {st : List Value} {x : Int32} : GX4_kindNamed w Q 19 [l0, some (.int x)] st u ↔ GX4_kindNamed w Q 20 [l0, some (.int x)] (.int x :: st) u := WP_u (.iload_n 1) [] rfl
theorem eX4_kindNamed_20 {l0 l1 : Option Value} {x : Int32} : GX4_kindNamed w Q 20 [l0, l1] [.int x] u ↔ Q (some (.int x)) u := (WP_u (.ireturn) [] rfl).trans (ex_ret rfl)
theorem eX4_kindNamed_21 {l0 : Option Value} {st : List Value} {x : Int32} : GX4_kindNamed w Q 21 [l0, some (.int x)] st u ↔ GX4_kindNamed w Q 24 [kl l0, some (.int (x + 1))] st u := WP_iinc rfl (by decide) rfl rfl
theorem eX4_kindNamed_24 {l0 l1 : Option Value} {st : List Value} : GX4_kindNamed w Q 24 [l0, l1] st u ↔ GX4_kindNamed w Q 2 [l0, l1] st u := WP_u (.goto (-22)) [2] rfl
theorem eX4_kindNamed_27 {l0 l1 : Option Value} {st : List Value} : GX4_kindNamed w Q 27 [l0, l1] st u ↔ GX4_kindNamed w Q 28 [l0, l1] (.int (-1) :: st) u := WP_iconst rfl (by decide)
theorem eX4_kindNamed_28 {l0 l1 : Option Value} {x : Int32} : GX4_kindNamed w Q 28 [l0, l1] [.int x] u ↔ Q (some (.int x)) u := (WP_u (.ireturn) [] rfl).trans (ex_ret rfl)
end
def VX4_kindNamed (w : WW) : Prop := ∀  (u : MM), wOk w → pX4_kindNamed u → GX4_kindNamed w (fun r u' => r = some (.int (rX4_kindNamed u)) ∧ u' = u) 0 [some (.ref (tpA w)), none] [] u
theorem lX4_isWord {w : WW} (hw : wOk w) {t : Nat} (ht : t < 11) {u : MM} {L s : Nat} (hL : L ≤ 120) (eL : u.1 281 = nI L) (hs : s + (kb t).length ≤ L) (es : u.1 283 = nI s) {Q : Option Value → MM → Prop} :
    ∀ (n i : Nat), i + n = (kb t).length → Q (some (.int (bi (mt (bx u) (s + i) ((kb t).drop i) = true)))) u → GX4_isWord w Q 28 [some (.ref (tpA w)), some (.ref (wK w t)), some (.int (nI i))] [] u := by
  obtain ⟨k1, k2, k3⟩ := kb_all t ht
  intro n
  induction n with
  | zero =>
    intro i hi hQ
    have hle : nI (kb t).length ≤ nI i := nI_le (by omega) (by omega)
    have e : (kb t).drop i = [] := List.drop_eq_nil_iff.mpr (by omega)
    rw [e, bi_t (show mt (bx u) (s + i) [] = true from rfl)] at hQ
    rw [eX4_isWord_28]
    simp only [eX4_isWord_0, eX4_isWord_1, eX4_isWord_4, eX4_isWord_5, eX4_isWord_8, eX4_isWord_9, eX4_isWord_12, eX4_isWord_13, eX4_isWord_16, eX4_isWord_17, eX4_isWord_18, eX4_isWord_21, eX4_isWord_24, eX4_isWord_25, eX4_isWord_26, eX4_isWord_27, eX4_isWord_29, eX4_isWord_30, eX4_isWord_33, eX4_isWord_36, eX4_isWord_37, eX4_isWord_40, eX4_isWord_41, eX4_isWord_44, eX4_isWord_45, eX4_isWord_46, eX4_isWord_47, eX4_isWord_48, eX4_isWord_49, eX4_isWord_52, eX4_isWord_55, eX4_isWord_56, eX4_isWord_57, eX4_isWord_60, eX4_isWord_63, eX4_isWord_64, kl_i, kl_r, kl_n, kl_l, true_and, and_true, true_implies, false_implies, not_true_eq_false, not_false_eq_true, i10, Classical.not_not, kOk_wK w ht, hw, kt_wK hw ht, pJ0_length_8abf5, rJ0_length_8abf5, hle]
    exact ⟨nb_1, hQ⟩
  | succ n ih =>
    intro i hi hQ
    have hlt : ¬ nI (kb t).length ≤ nI i := nI_ge (by omega) (by omega)
    have hN : NN (nI i) = i := NN_nI (by omega)
    have ea : nI s + nI i = nI (s + i) := nI_add s i
    have hNa : NN (nI (s + i)) = s + i := NN_nI (by omega)
    have hv : vp_in (nI (s + i)) 120 := vi_nI (by omega)
    have hvi : vp_in (nI i) (kb t).length := vi_nI (by omega) (by omega)
    have hb := bx_at eL hL (k := s + i) (by omega)
    have ed : (kb t).drop i = (kb t).getD i 0 :: (kb t).drop (i + 1) := by
      rw [List.drop_eq_getElem_cons (show i < (kb t).length by omega)]
      congr 1
      rw [List.getD_eq_getElem?_getD, List.getElem?_eq_getElem (show i < (kb t).length by omega)]; rfl
    rw [ed, mt] at hQ
    rw [eX4_isWord_28]
    simp only [eX4_isWord_0, eX4_isWord_1, eX4_isWord_4, eX4_isWord_5, eX4_isWord_8, eX4_isWord_9, eX4_isWord_12, eX4_isWord_13, eX4_isWord_16, eX4_isWord_17, eX4_isWord_18, eX4_isWord_21, eX4_isWord_24, eX4_isWord_25, eX4_isWord_26, eX4_isWord_27, eX4_isWord_29, eX4_isWord_30, eX4_isWord_33, eX4_isWord_36, eX4_isWord_37, eX4_isWord_40, eX4_isWord_41, eX4_isWord_44, eX4_isWord_45, eX4_isWord_46, eX4_isWord_47, eX4_isWord_48, eX4_isWord_49, eX4_isWord_52, eX4_isWord_55, eX4_isWord_56, eX4_isWord_57, eX4_isWord_60, eX4_isWord_63, eX4_isWord_64, kl_i, kl_r, kl_n, kl_l, true_and, and_true, true_implies, false_implies, not_true_eq_false, not_false_eq_true, i10, Classical.not_not, ok_tp0, rf_tp0, ok_tp1, ix_tp1, ok_tp2, ix_tp2, ok_tp3, ix_tp3, ok_tp4, ix_tp4, ok_tp5, ix_tp5, ai_tbb, rd_tbb, tx_r1, tx_r2, tx_r3, tx_r4, tx_r5, tx_b, tx_w2, tx_w3, tx_w4, tx_w5, kOk_wK w ht, hw, kt_wK hw ht, pJ0_length_8abf5, rJ0_length_8abf5, hlt, es, ea, hv, hNa, hb, pJ0_charAt_5068e, hvi, rJ0_charAt_5068e, hN]
    refine ⟨fun c => ?_, fun c => ⟨nb_0, ?_⟩⟩
    · rw [nI_1]
      refine ih (i + 1) (by omega) ?_
      rw [decide_eq_true c, Bool.true_and] at hQ
      exact hQ
    · rw [decide_eq_false c, Bool.false_and, bi_f (by decide)] at hQ
      exact hQ
theorem vX4_isWord (w : WW) : VX4_isWord w := by
  intro t u ht hw h
  obtain ⟨⟨⟨L, hL, eL⟩, hB⟩, s, e, hse, heL, es, ee⟩ := h
  rw [eL, NN_nI (by omega)] at heL
  obtain ⟨k1, k2, k3⟩ := kb_all t ht
  have ed : nI e - nI s = nI (e - s) := by
    have : nI e = nI (e - s) + nI s := by rw [nI_add]; congr 1; omega
    rw [this, Int32.add_sub_cancel]
  have eq : nI (e - s) = nI (kb t).length ↔ e - s = (kb t).length := nI_eq (by omega) (by omega)
  have hw1 : wd u t ↔ u.1 282 = 1 ∧ e - s = (kb t).length ∧ mt (bx u) s (kb t) = true := by
    rw [wd, es, ee, NN_nI (by omega), NN_nI (by omega)]
  simp only [eX4_isWord_0, eX4_isWord_1, eX4_isWord_4, eX4_isWord_5, eX4_isWord_8, eX4_isWord_9, eX4_isWord_12, eX4_isWord_13, eX4_isWord_16, eX4_isWord_17, eX4_isWord_18, eX4_isWord_21, eX4_isWord_24, eX4_isWord_25, eX4_isWord_26, eX4_isWord_27, eX4_isWord_29, eX4_isWord_30, eX4_isWord_33, eX4_isWord_36, eX4_isWord_37, eX4_isWord_40, eX4_isWord_41, eX4_isWord_44, eX4_isWord_45, eX4_isWord_46, eX4_isWord_47, eX4_isWord_48, eX4_isWord_49, eX4_isWord_52, eX4_isWord_55, eX4_isWord_56, eX4_isWord_57, eX4_isWord_60, eX4_isWord_63, eX4_isWord_64, kl_i, kl_r, kl_n, kl_l, true_and, and_true, true_implies, false_implies, not_true_eq_false, not_false_eq_true, i10, Classical.not_not, ok_tp0, rf_tp0, ok_tp1, ix_tp1, ok_tp2, ix_tp2, ok_tp3, ix_tp3, ok_tp4, ix_tp4, ok_tp5, ix_tp5, ai_tbb, rd_tbb, tx_r1, tx_r2, tx_r3, tx_r4, tx_r5, tx_b, tx_w2, tx_w3, tx_w4, tx_w5, kOk_wK w ht, hw, kt_wK hw ht, pJ0_length_8abf5, rJ0_length_8abf5, es, ee, ed, eq, rX4_isWord]
  refine ⟨fun c => ⟨nb_0, ?_⟩, fun c => ⟨fun d => ?_, fun d => ⟨nb_0, ?_⟩⟩⟩
  · rw [bi_f (fun z => c (hw1.mp z).1)]
  · refine lX4_isWord hw ht hL eL (by omega) es (kb t).length 0 (by omega) ⟨?_, rfl⟩
    rw [Nat.add_zero, List.drop_zero, bi_cong (show wd u t ↔ mt (bx u) s (kb t) = true from hw1.trans ⟨fun z => z.2.2, fun z => ⟨c, d, z⟩⟩)]
  · rw [bi_f (fun z => d (hw1.mp z).2.1)]
theorem wcX4_126 : ∀ x ∈ wV1 RX4 126 yJ0_length_8abf5 MJ0_length_8abf5, x ∈ Gt := by decide +kernel
theorem nmJ0_length_8abf5 : nmOk yJ0_length_8abf5 0 = true := by decide +kernel
theorem wcX4_130 : ∀ x ∈ wV1 RX4 130 yJ0_charAt_5068e MJ0_charAt_5068e, x ∈ Gt := by decide +kernel
theorem nmJ0_charAt_5068e : nmOk yJ0_charAt_5068e 1 = true := by decide +kernel
set_option maxRecDepth 20000 in
theorem KX4_isWord_ok (w : WW) : KOk w MX4_isWord (KX4_isWord w) := KOk_mk flX4_ok ciX4_ok clX4_ok (fun _ _ h => by cases h) (fun n t h => tx_ok n t h) (List.forall_mem_cons.mpr ⟨itV (n := 126) (by decide) (COk_VK (n := 0) (ctJ0_length_8abf5 w) wcX4_126 nmJ0_length_8abf5 (by decide) rfl (prJ0_length_8abf5 w)), List.forall_mem_cons.mpr ⟨itV (n := 130) (by decide) (COk_VK (n := 1) (ctJ0_charAt_5068e w) wcX4_130 nmJ0_charAt_5068e (by decide) rfl (prJ0_charAt_5068e w)), List.forall_mem_nil _⟩⟩)
theorem ctX4_isWord (w : WW) : CT w yX4_isWord MX4_isWord (csX4_isWord w).2.1 (csX4_isWord w).2.2 := by
  refine CT_of (by decide) rfl TX4_isWord_ok TX4_isWord_v (KX4_isWord_ok w) (fun as u h => ?_)
  obtain ⟨a0, a1, rfl, h⟩ := sgRR h
  obtain ⟨rfl, h1, hwok, hh⟩ := h
  obtain ⟨q1, e1, rfl⟩ := h1
  rw [kt_wK hwok e1] at hh
  refine ⟨Nat.le_of_ble_eq_true rfl, ?_⟩
  have key := vX4_isWord w q1 u e1 hwok hh
  simp only [csX4_isWord, kt_wK hwok e1]
  exact key
theorem prX4_isWord (w : WW) : ∀ as u, (csX4_isWord w).2.1 as u → ∃ a r, as = .ref a :: r ∧ r.length = 1 ∧ okO w a 4 := by
  intro as u h
  obtain ⟨a0, a1, rfl, h⟩ := sgRR h
  exact ⟨_, _, rfl, rfl, okO_tp h⟩
theorem vX4_nameOf (w : WW) : VX4_nameOf w := by
  intro k u h
  simp only [eX4_nameOf_0, eX4_nameOf_1, eX4_nameOf_36, eX4_nameOf_38, eX4_nameOf_39, eX4_nameOf_41, eX4_nameOf_42, eX4_nameOf_44, eX4_nameOf_45, eX4_nameOf_47, eX4_nameOf_48, eX4_nameOf_50, eX4_nameOf_51, eX4_nameOf_53, kl_i, kl_r, kl_n, kl_l, true_and, and_true, true_implies, false_implies, not_true_eq_false, not_false_eq_true, i10, Classical.not_not, rX4_nameOf, nmT]
  have h12 : ¬ (1 : Int32) = 2 := by decide
  refine ⟨fun c => ?_, fun c => ⟨fun d => ?_, fun d => ⟨fun e => ?_, fun e => ⟨fun f => ?_, fun f => ⟨fun g => ?_, fun g => ?_⟩⟩⟩⟩⟩
  · rw [if_pos c]
  · rw [if_neg c, if_pos d]
  · rw [if_neg c, if_neg d, if_pos e]
  · rw [if_neg c, if_neg d, if_neg e, if_pos f]
  · rw [if_neg c, if_neg d, if_neg e, if_neg f, if_pos g]
  · rw [if_neg c, if_neg d, if_neg e, if_neg f, if_neg g]
set_option maxRecDepth 20000 in
theorem KX4_nameOf_ok (w : WW) : KOk w MX4_nameOf (KX4_nameOf w) := KOk_mk flX4_ok ciX4_ok clX4_ok (fun _ _ h => by cases h) (fun n t h => tx_ok n t h) (List.forall_mem_nil _)
theorem ctX4_nameOf (w : WW) : CT w yX4_nameOf MX4_nameOf (csX4_nameOf w).2.1 (csX4_nameOf w).2.2 := by
  refine CT_of (by decide) rfl TX4_nameOf_ok TX4_nameOf_v (KX4_nameOf_ok w) (fun as u h => ?_)
  obtain ⟨a0, rfl, h⟩ := sgI h
  have hh := h
  refine ⟨Nat.le_of_ble_eq_true rfl, ?_⟩
  have key := vX4_nameOf w a0 u hh
  exact key
theorem nmT_k : ∀ k, k < 6 → nmT (nI k) = 5 + k := by
  intro k hk
  have : k = 0 ∨ k = 1 ∨ k = 2 ∨ k = 3 ∨ k = 4 ∨ k = 5 := by omega
  rcases this with rfl | rfl | rfl | rfl | rfl | rfl <;> decide
theorem vX4_kindNamed (w : WW) : VX4_kindNamed w := by
  intro u hw h
  have h' : pX4_isWord 0 u := h
  have step : ∀ (k : Nat) (r : Int32), k < 6 → (wd u (5 + k) → r = nI k) → (¬ wd u (5 + k) → GX4_kindNamed w (fun x u' => x = some (.int r) ∧ u' = u) 2 [some (.ref (tpA w)), some (.int (nI (k + 1)))] [] u) → GX4_kindNamed w (fun x u' => x = some (.int r) ∧ u' = u) 2 [some (.ref (tpA w)), some (.int (nI k))] [] u := by
    intro k r hk h1 h2
    have hlt : ¬ (6 : Int32) ≤ nI k := nI_ge (a := k) (b := 6) hk (by decide)
    have ht : 5 + k < 11 := by omega
    have hp : pX4_isWord (5 + k) u := h
    rw [eX4_kindNamed_2]
    simp only [eX4_kindNamed_0, eX4_kindNamed_1, eX4_kindNamed_3, eX4_kindNamed_5, eX4_kindNamed_8, eX4_kindNamed_9, eX4_kindNamed_10, eX4_kindNamed_13, eX4_kindNamed_16, eX4_kindNamed_19, eX4_kindNamed_20, eX4_kindNamed_21, eX4_kindNamed_24, eX4_kindNamed_27, eX4_kindNamed_28, kl_i, kl_r, kl_n, kl_l, true_and, and_true, true_implies, false_implies, not_true_eq_false, not_false_eq_true, i10, Classical.not_not, hlt, pX4_nameOf, rX4_nameOf, nmT_k k hk, kOk_wK w ht, hw, kt_wK hw ht, hp, rX4_isWord, bi_0, nI_1]
    exact ⟨h2, fun z => by rw [h1 z]⟩
  have fin : GX4_kindNamed w (fun x u' => x = some (.int (-1)) ∧ u' = u) 2 [some (.ref (tpA w)), some (.int (nI 6))] [] u := by
    have hle : (6 : Int32) ≤ nI 6 := by decide
    rw [eX4_kindNamed_2]
    simp only [eX4_kindNamed_0, eX4_kindNamed_1, eX4_kindNamed_3, eX4_kindNamed_5, eX4_kindNamed_8, eX4_kindNamed_9, eX4_kindNamed_10, eX4_kindNamed_13, eX4_kindNamed_16, eX4_kindNamed_19, eX4_kindNamed_20, eX4_kindNamed_21, eX4_kindNamed_24, eX4_kindNamed_27, eX4_kindNamed_28, kl_i, kl_r, kl_n, kl_l, true_and, and_true, true_implies, false_implies, not_true_eq_false, not_false_eq_true, i10, Classical.not_not, hle]
  simp only [eX4_kindNamed_0, eX4_kindNamed_1, eX4_kindNamed_3, eX4_kindNamed_5, eX4_kindNamed_8, eX4_kindNamed_9, eX4_kindNamed_10, eX4_kindNamed_13, eX4_kindNamed_16, eX4_kindNamed_19, eX4_kindNamed_20, eX4_kindNamed_21, eX4_kindNamed_24, eX4_kindNamed_27, eX4_kindNamed_28, kl_i, kl_r, kl_n, kl_l, true_and, and_true, true_implies, false_implies, not_true_eq_false, not_false_eq_true, i10, Classical.not_not]
  unfold rX4_kindNamed
  refine step 0 _ (by decide) (fun z => by rw [if_pos z]; rfl) (fun z0 => ?_)
  refine step 1 _ (by decide) (fun z => by rw [if_neg z0, if_pos z]; rfl) (fun z1 => ?_)
  refine step 2 _ (by decide) (fun z => by rw [if_neg z0, if_neg z1, if_pos z]; rfl) (fun z2 => ?_)
  refine step 3 _ (by decide) (fun z => by rw [if_neg z0, if_neg z1, if_neg z2, if_pos z]; rfl) (fun z3 => ?_)
  refine step 4 _ (by decide) (fun z => by rw [if_neg z0, if_neg z1, if_neg z2, if_neg z3, if_pos z]; rfl) (fun z4 => ?_)
  refine step 5 _ (by decide) (fun z => by rw [if_neg z0, if_neg z1, if_neg z2, if_neg z3, if_neg z4, if_pos z]; rfl) (fun z5 => ?_)
  rw [if_neg z0, if_neg z1, if_neg z2, if_neg z3, if_neg z4, if_neg z5]
  exact fin
theorem wcX4_27 : ∀ x ∈ wV1 RX4 27 yX4_isWord MX4_isWord, x ∈ Gt := by decide +kernel
theorem nmX4_isWord : nmOk yX4_isWord 1 = true := by decide +kernel
theorem wcX4_65646 : ∀ x ∈ wS1 RX4 110 yX4_nameOf MX4_nameOf, x ∈ Gt := by decide +kernel
theorem nmX4_nameOf : nmOk yX4_nameOf 1 = true := by decide +kernel
set_option maxRecDepth 20000 in
theorem KX4_kindNamed_ok (w : WW) : KOk w MX4_kindNamed (KX4_kindNamed w) := KOk_mk flX4_ok ciX4_ok clX4_ok (fun _ _ h => by cases h) (fun n t h => tx_ok n t h) (List.forall_mem_cons.mpr ⟨itV (n := 27) (by decide) (COk_V (n := 1) (ci := 4) (ctX4_isWord w) wcX4_27 nmX4_isWord (by decide) (by decide) rfl (prX4_isWord w)), List.forall_mem_cons.mpr ⟨itS (n := 110) (COk_S (n := 1) (ctX4_nameOf w) wcX4_65646 nmX4_nameOf (by decide)), List.forall_mem_nil _⟩⟩)
theorem ctX4_kindNamed (w : WW) : CT w yX4_kindNamed MX4_kindNamed (csX4_kindNamed w).2.1 (csX4_kindNamed w).2.2 := by
  refine CT_of (by decide) rfl TX4_kindNamed_ok TX4_kindNamed_v (KX4_kindNamed_ok w) (fun as u h => ?_)
  obtain ⟨a0, rfl, h⟩ := sgR h
  obtain ⟨rfl, hwok, hh⟩ := h
  refine ⟨Nat.le_of_ble_eq_true rfl, ?_⟩
  have key := vX4_kindNamed w u hwok hh
  exact key
theorem prX4_kindNamed (w : WW) : ∀ as u, (csX4_kindNamed w).2.1 as u → ∃ a r, as = .ref a :: r ∧ r.length = 0 ∧ okO w a 4 := by
  intro as u h
  obtain ⟨a0, rfl, h⟩ := sgR h
  exact ⟨_, _, rfl, rfl, okO_tp h⟩
