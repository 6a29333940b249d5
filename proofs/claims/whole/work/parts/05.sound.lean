/-! ===== what the small machine says holds of the machine ===== -/
def Gt : List Cond := lw_tbl.filter goodWord
theorem Gt_in {x : Cond} (h : x ∈ lw_tbl) (g : goodWord x = true) : x ∈ Gt := List.mem_filter.mpr ⟨h, g⟩
theorem Gt_ok {x : Cond} (h : x ∈ Gt) : (x.onTables && x.keeps) = true ∨ ∃ ty, x = .arrayClass ty := good_of_word (List.mem_filter.mp h).2
theorem Gt_goodIn {ws : List Cond} (h : ∀ x ∈ ws, x ∈ Gt) : GoodIn Gt ws := fun x hx => ⟨h x hx, Gt_ok (h x hx)⟩
def stNm : Nat → String
  | 0 => "ABOVE"
  | 1 => "TIMES_TOES"
  | 2 => "MORE_LEANS"
  | _ => "STAYS"
def stTb : Nat → List Int32
  | 0 => [-1, 0, 0, 0, 3, 1]
  | 1 => [1, 1, 0, 1, 2, 1]
  | 2 => [0, 30, 0, 0, 0, 50]
  | _ => [10, 20, 10, 15, 4, 20]
def stIx : Nat → Nat
  | 0 => 33
  | 1 => 37
  | 2 => 40
  | _ => 43
def kIx : Nat → Nat := fun t => [25, 35, 66, 89, 95, 124, 114, 116, 118, 120, 122].getD t 0
def kTx : Nat → String := fun t => ["seat", "cough", "worth", "toes", "wants", "courtier", "fat", "page", "stooled", "feigner", "cook"].getD t ""
def kByt : List (List Int32) := [[115, 101, 97, 116], [99, 111, 117, 103, 104], [119, 111, 114, 116, 104], [116, 111, 101, 115], [119, 97, 110, 116, 115], [99, 111, 117, 114, 116, 105, 101, 114], [102, 97, 116], [112, 97, 103, 101], [115, 116, 111, 111, 108, 101, 100], [102, 101, 105, 103, 110, 101, 114], [99, 111, 111, 107]]
def kLen : List Nat := [4, 5, 5, 4, 5, 8, 3, 4, 7, 7, 4]
abbrev wA' (w : WW) : Nat → Prop := fun q => wl w ≤ q
def RO (w : WW) (U : State) : Prop :=
  (∀ t, t < 4 → va_Z "ChairDance" (stNm t) "[I" (.ref (wA w t)) (wA' w) U U.heap ∧ va_T .int (wA w t) 6 (fun j => .int (wV w (wA w t) j)) (wA' w) U U.heap ∧ va_Nw (.fieldLinkNest "ChairDance$One" (stIx t) "ChairDance" (stNm t) "[I" "ChairDance") U ∧ ∀ j, j < 6 → wV w (wA w t) j = (stTb t).getD j 0)
  ∧ (∀ t, t < 11 → vk_R "ChairDance$Tape" (kIx t) (kTx t) (wK w t) U) ∧ vk_S 11 kLen kByt (wK w) (wKV w) (wA' w) U U.heap ∧ va_Z "java/lang/String" "COMPACT_STRINGS" "Z" (.int 1) (wA' w) U U.heap ∧ va_Zq "jdk/internal/util/Preconditions" "SIOOBE_FORMATTER" "Ljava/util/function/BiFunction;" (wA' w) U U.heap
theorem RO.call {w : WW} {s U : State} {H : Heap} {locs : List Loc} (h : RO w s) (hS : va_S (wA' w) s.heap H locs) (hU : U.heap = H) (hW : s.WarmedH U.vm) : RO w U := by
  obtain ⟨h1, h2, h3, h4, h5⟩ := h
  refine ⟨fun t ht => ?_, fun t ht => (h2 t ht).warm hW, ?_, ?_, ?_⟩
  · obtain ⟨a, b, c, d⟩ := h1 t ht
    exact ⟨by rw [hU]; exact (a.moved hW.alike).kept hS.2.1, by rw [hU]; exact (b.moved hW.alike).kept hS.2.1, c.warmF hW, d⟩
  · rw [hU]; exact (h3.moved hW.alike).kept hS.2.1
  · rw [hU]; exact (h4.moved hW.alike).kept hS.2.1
  · rw [hU]; exact (h5.moved hW.alike).kept hS.2.1
theorem RO.blind {w : WW} {U : State} {g : JFrame} {mk : MethodId} {a : Array Value} (h : RO w U) : RO w (U.calling g mk a) := by
  obtain ⟨h1, h2, h3, h4, h5⟩ := h
  have al : U.vm.Alike (U.calling g mk a).vm := Vm.Alike.refl U.vm
  refine ⟨fun t ht => ?_, fun t ht => (h2 t ht).same rfl, h3.moved al, h4.moved al, h5.moved al⟩
  obtain ⟨x, y, c, d⟩ := h1 t ht
  exact ⟨x.moved al, y.moved al, va_Nw.same rfl rfl c, d⟩
def cQ (ci : Nat) : vw_C := vwCl.getD ci (RX0, TX0, 5)
def cTy : Nat → Nat → FieldType
  | 0 => tyX0
  | 1 => tyX1
  | 2 => tyX2
  | 3 => tyX3
  | 4 => tyX4
  | 5 => tyX5
  | _ => tyX6
theorem u0 : ∀ x ∈ wsX00, x ∈ Gt := by decide +kernel
theorem u1 : ∀ x ∈ wsX10, x ∈ Gt := by decide +kernel
theorem u2 : ∀ x ∈ wsX20, x ∈ Gt := by decide +kernel
theorem u3 : ∀ x ∈ wsX30, x ∈ Gt := by decide +kernel
theorem u4 : ∀ x ∈ wsX40, x ∈ Gt := by decide +kernel
theorem u5 : ∀ x ∈ wsX50, x ∈ Gt := by decide +kernel
theorem u6 : ∀ x ∈ wsX60, x ∈ Gt := by decide +kernel
theorem cl_ok {ci : Nat} (h : ci < 7) : vwCl[ci]? = some (cQ ci) ∧ (∀ x ∈ u_ws (cQ ci).1 (cQ ci).2.1 (cQ ci).2.2, x ∈ Gt) ∧ (∀ k, k < (cQ ci).2.2 → parseFieldDescriptor ((cQ ci).2.1 k).2.2.1 = some (cTy ci k)) ∧ (∀ a, a < (cQ ci).2.2 → ∀ b, b < (cQ ci).2.2 → a ≠ b → ((cQ ci).2.1 a).2.1 ≠ ((cQ ci).2.1 b).2.1) := by
  match ci, h with
  | 0, _ => exact ⟨rfl, u0, tyX0_ok, nmX0⟩
  | 1, _ => exact ⟨rfl, u1, tyX1_ok, nmX1⟩
  | 2, _ => exact ⟨rfl, u2, tyX2_ok, nmX2⟩
  | 3, _ => exact ⟨rfl, u3, tyX3_ok, nmX3⟩
  | 4, _ => exact ⟨rfl, u4, tyX4_ok, nmX4⟩
  | 5, _ => exact ⟨rfl, u5, tyX5_ok, nmX5⟩
  | 6, _ => exact ⟨rfl, u6, tyX6_ok, nmX6⟩
def Cx (w : WW) (M : MI) (p : Program) (s : State) (m : MethodId) (args : Array Value) (meth : Method) (c : Code) : Prop :=
  p.tables.exec = Jvm.exec ∧ c.code = M.1 ∧ c.maxLocals = M.2.1 ∧ s.vm.findClass M.2.2.2.1 = some m.cls ∧ (∀ x ∈ Gt, x.before args s = true) ∧ meth.sig.returnType = M.2.2.1 ∧ meth.locks = false ∧ va_K (wD w) vwCl (tysO w) s ∧ RO w s
def Qm (w : WW) (Q : Option Value → MM → Prop) : Array Value → State → Outcome → State → Prop := fun _ st o t => ∃ r u, o = .returned r ∧ Q r u ∧ va_P (wD w) vwCl (wsO w u) t.heap ∧ va_F (wA' w) st t
/-- from here, with these locals, operands and numbers, the method comes to its end with Q -/
def GG (w : WW) (M : MI) (Q : Option Value → MM → Prop) (pc : Nat) (L : LL) (st : List Value) (u : MM) : Prop :=
  ∀ (p : Program) (l : Launch) (e : Env) (s : State) (m : MethodId) (args : Array Value) (below : List Frame) (meth : Method) (c : Code), Cx w M p s m args meth c → ∀ (H : Heap) (locs : List Loc) (ls : Array Slot), va_P (wD w) vwCl (wsO w u) H → va_S (wA' w) s.heap H locs → lh ls L → L.length = M.2.1 →
    W p l e M.2.2.2.2 s m args below meth c H locs 0 0 (MQ below (Qm w Q) args s 0 0 (wA' w)) (F0 m pc ls st)
/-- what a call does -/
def COk (w : WW) (M : MI) (ins : Instr) (cs : CS) : Prop :=
  ∀ (p : Program) (l : Launch) (e : Env) (s : State) (m : MethodId) (args : Array Value) (below : List Frame) (meth : Method) (c : Code), Cx w M p s m args meth c → ∀ (H : Heap) (locs : List Loc) (ls : Array Slot) (pc : Nat) (st : List Value) (u : MM) (Qf : State → Prop), va_P (wD w) vwCl (wsO w u) H → va_S (wA' w) s.heap H locs → ls.size = M.2.1 → decode M.1 pc = .ok (ins, 3) →
    cs.1 ≤ st.length → ((st.drop cs.1).map (fun v => v.category)).sum ≤ 8 → cs.2.1 (st.take cs.1).reverse u →
    (∀ (H1 : Heap) (locs1 : List Loc), va_P (wD w) vwCl (wsO w (cs.2.2 (st.take cs.1).reverse u).2) H1 → va_S (wA' w) s.heap H1 locs1 → W p l e M.2.2.2.2 s m args below meth c H1 locs1 0 0 Qf (F0 m (pc + 3) ls ((cs.2.2 (st.take cs.1).reverse u).1.toList ++ st.drop cs.1))) →
    W p l e M.2.2.2.2 s m args below meth c H locs 0 0 Qf (F0 m pc ls st)
def fOk (own : String) (n ci j kd : Nat) : Bool := Nat.blt ci 7 && Nat.blt j (cQ ci).2.2 && decide (Cond.fieldLink own n ((cQ ci).2.1 j).1 ((cQ ci).2.1 j).2.1 ((cQ ci).2.1 j).2.2.1 ∈ Gt)
  && (match kd with
    | 0 => decide (cTy ci j = .int) && !((cQ ci).2.1 j).2.2.2
    | 1 => decide (cTy ci j = .long) && !((cQ ci).2.1 j).2.2.2
    | 2 => true
    | 3 => decide (cTy ci j = .boolean) && !((cQ ci).2.1 j).2.2.2
    | _ => false)
def KOk (w : WW) (M : MI) (K : KT) : Prop :=
  (∀ n ci j kd, K.1 n = some (ci, j, kd) → fOk M.2.2.2.1 n ci j kd = true) ∧ (∀ n v, K.2.1 n = some v → Cond.constant M.2.2.2.1 n v ∈ Gt) ∧ (∀ n v, K.2.2.1 n = some v → Cond.constantLong M.2.2.2.1 n v ∈ Gt)
  ∧ (∀ n t, K.2.2.2.1 n = some t → t < 4 ∧ M.2.2.2.1 = "ChairDance$One" ∧ stIx t = n) ∧ (∀ n t, K.2.2.2.2.1 n = some t → t < 11 ∧ M.2.2.2.1 = "ChairDance$Tape" ∧ kIx t = n)
  ∧ (∀ n cs, K.2.2.2.2.2 n = some cs → (n < 65536 → COk w M (.invokevirtual n) cs) ∧ (65536 ≤ n → COk w M (.invokestatic (n - 65536)) cs))
def lenOk (i : Instr) (n : Nat) : Bool := match i with
  | .tableswitch .. => true
  | .lookupswitch .. => true
  | .bipush _ | .iload _ | .lload _ | .aload _ | .istore _ | .astore _ | .lstore _ | .ldc _ => Nat.beq n 2
  | .sipush _ | .iinc _ _ | .ifCond _ _ | .if_icmp _ _ | .goto _ | .ldc_w _ | .ldc2_w _ | .getstatic _ | .getfield _ | .putfield _ | .invokevirtual _ | .invokestatic _ | .invokespecial _ => Nat.beq n 3
  | _ => Nat.beq n 1
def tgO (pc : Nat) (o : Int) (t : Nat) : Bool := decide ((pc : Int) + o = (t : Int))
def tgOs (pc : Nat) : List Int → List Nat → Bool
  | [], [] => true
  | o :: os, t :: ts => tgO pc o t && tgOs pc os ts
  | _, _ => false
def tgOk (pc : Nat) (i : Instr) (tg : List Nat) : Bool := match i with
  | .ifCond _ o | .if_icmp _ o | .goto o => tgOs pc [o] tg
  | .tableswitch d lo hi offs => tgOs pc (d :: offs.toList) tg && decide (-1000 < lo) && decide (hi < 1000) && decide (hi + 1 = lo + offs.size)
  | .lookupswitch d ps => tgOs pc (d :: ps.toList.map (·.2)) tg && (ps.toList.zip (ps.toList.drop 1)).all (fun (a, next) => a.1 < next.1) && ps.toList.all (fun q => decide (-1000 < q.1) && decide (q.1 < 1000))
  | _ => true
def chk (cc : ByteArray) (q : Nat × Instr × Nat × List Nat) : Bool := decide (decode cc q.1 = .ok (q.2.1, q.2.2.1)) && lenOk q.2.1 q.2.2.1 && tgOk q.1 q.2.1 q.2.2.2
theorem lk_chk {cc : ByteArray} : ∀ {T : TB}, T.all (chk cc) = true → ∀ {pc : Nat} {i : Instr} {tg : List Nat}, lk T pc = some (i, tg) → ∃ len, decode cc pc = .ok (i, len) ∧ lenOk i len = true ∧ tgOk pc i tg = true
  | [], _, _, _, _, h => by cases h
  | (a, i0, n0, t0) :: T, hT, pc, i, tg, h => by
    simp only [List.all_cons, Bool.and_eq_true] at hT
    simp only [lk] at h
    by_cases e : Nat.beq a pc = true
    · rw [if_pos e] at h
      cases h
      have e2 : a = pc := Nat.eq_of_beq_eq_true e
      subst e2
      have h1 := hT.1
      simp only [chk, Bool.and_eq_true, decide_eq_true_eq] at h1
      exact ⟨n0, h1.1.1, h1.1.2, h1.2⟩
    · rw [if_neg e] at h
      exact lk_chk hT.2 h
theorem tg1 {pc : Nat} {o : Int} {t : Nat} (h : tgOs pc [o] [t] = true) : (pc : Int) + o = (t : Int) := by
  simp only [tgOs, Bool.and_true, tgO, decide_eq_true_eq] at h
  exact h
theorem tgs_at {pc : Nat} : ∀ {os : List Int} {ts : List Nat}, tgOs pc os ts = true → ∀ {j t : Nat}, ts[j]? = some t → ∃ o, os[j]? = some o ∧ (pc : Int) + o = (t : Int)
  | [], [], _, j, t, h => by simp at h
  | o :: os, t0 :: ts, hh, j, t, h => by
    simp only [tgOs, Bool.and_eq_true, tgO, decide_eq_true_eq] at hh
    cases j with
    | zero => simp only [List.getElem?_cons_zero, Option.some.injEq] at h; subst h; exact ⟨o, by simp, hh.1⟩
    | succ j => rw [List.getElem?_cons_succ] at h; rw [List.getElem?_cons_succ]; exact tgs_at hh.2 h
  | [], _ :: _, hh, _, _, _ => by simp [tgOs] at hh
  | _ :: _, [], hh, _, _, _ => by simp [tgOs] at hh
theorem tgs_len {pc : Nat} : ∀ {os : List Int} {ts : List Nat}, tgOs pc os ts = true → os.length = ts.length
  | [], [], _ => rfl
  | o :: os, t0 :: ts, hh => by
    simp only [tgOs, Bool.and_eq_true] at hh
    simp [tgs_len hh.2]
  | [], _ :: _, hh => by simp [tgOs] at hh
  | _ :: _, [], hh => by simp [tgOs] at hh
theorem i32_ofInt {x : Int32} {z : Int} (h1 : -2147483648 ≤ z) (h2 : z < 2147483648) : x = Int32.ofInt z ↔ x.toInt = z := by
  have e : (Int32.ofInt z).toInt = z := by
    rw [Int32.toInt_ofInt]
    rw [Int.bmod_def]
    simp only [Int32.size]
    omega
  constructor
  · rintro rfl; exact e
  · intro h; exact Int32.toInt_inj.mp (by rw [h, e])
theorem swc_out {x : Int32} {f : Nat → Prop} {d : Prop} : ∀ (ts : List Nat) (lo : Int), -1000 < lo → lo + ts.length ≤ 1001 → swc x lo ts f d → (∀ (j t : Nat), ts[j]? = some t → x.toInt = lo + (j : Int) → f t) ∧ (x.toInt < lo ∨ lo + ts.length ≤ x.toInt → d)
  | [], lo, _, _, h => ⟨fun j t h1 => by simp at h1, fun _ => h⟩
  | t0 :: ts, lo, hl, hu, h => by
    simp only [List.length_cons] at hu
    simp only [swc] at h
    rw [i32_ofInt (by omega) (by omega)] at h
    obtain ⟨h1, h2⟩ := h
    refine ⟨fun j t hj hx => ?_, fun hx => ?_⟩
    · cases j with
      | zero =>
        simp only [List.getElem?_cons_zero, Option.some.injEq] at hj
        subst hj
        exact h1 (by simpa using hx)
      | succ j =>
        rw [List.getElem?_cons_succ] at hj
        have hne : ¬ x.toInt = lo := by omega
        exact (swc_out ts (lo + 1) (by omega) (by omega) (h2 hne)).1 j t hj (by omega)
    · simp only [List.length_cons] at hx
      have hne : ¬ x.toInt = lo := by omega
      exact (swc_out ts (lo + 1) (by omega) (by omega) (h2 hne)).2 (by omega)
theorem swk_off {x : Int32} {f : Nat → Prop} {dd : Prop} {pc : Nat} {d : Int} {td : Nat} (hd : (pc : Int) + d = (td : Int)) : ∀ (ps : List (Int × Int)) (ts : List Nat), ps.all (fun q => decide (-1000 < q.1) && decide (q.1 < 1000)) = true → tgOs pc (ps.map (·.2)) ts = true → swk x (ps.map (·.1)) ts f dd → (∃ t : Nat, (pc : Int) + Op.lookupswitch.offset ps d x.toInt = (t : Int) ∧ f t) ∨ ((pc : Int) + Op.lookupswitch.offset ps d x.toInt = (td : Int) ∧ dd)
  | [], ts, _, _, h => Or.inr ⟨by rw [show Op.lookupswitch.offset [] d x.toInt = d from rfl]; exact hd, by simpa [swk] using h⟩
  | (a, o) :: ps, [], _, h2, _ => by simp [tgOs] at h2
  | (a, o) :: ps, t :: ts, h1, h2, h => by
    simp only [List.all_cons, Bool.and_eq_true, decide_eq_true_eq] at h1
    simp only [List.map_cons, tgOs, Bool.and_eq_true, tgO, decide_eq_true_eq] at h2
    simp only [List.map_cons, swk] at h
    rw [i32_ofInt (by omega) (by omega)] at h
    rw [Op.lookupswitch.offset_cons]
    by_cases e : x.toInt = a
    · rw [if_pos e.symm]
      exact Or.inl ⟨t, h2.1, h.1 e⟩
    · rw [if_neg (fun q => e q.symm)]
      exact swk_off hd ps ts h1.2 h2.2 (h.2 e)
