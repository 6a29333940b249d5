/-! ===== the small machine's step, and what it means of the machine ===== -/
-- locals
def lg : LL → Nat → Option Value
  | [], _ => none
  | o :: _, 0 => o
  | _ :: t, n + 1 => lg t n
def kl : Option Value → Option Value
  | some (.long _) => none
  | some (.double _) => none
  | o => o
def ls1 : LL → Nat → Value → LL
  | [], _, _ => []
  | _ :: t, 0, v => some v :: t
  | o :: t, 1, v => kl o :: ls1 t 0 v
  | o :: t, n + 2, v => o :: ls1 t (n + 1) v
def ls2 : LL → Nat → Value → LL
  | [], _, _ => []
  | [_], 0, v => [some v]
  | _ :: _ :: t, 0, v => some v :: none :: t
  | o :: t, 1, v => kl o :: ls2 t 0 v
  | o :: t, n + 2, v => o :: ls2 t (n + 1) v
theorem kl_some {o : Option Value} {v : Value} (h : kl o = some v) : o = some v ∧ ¬ v.category = 2 := by
  cases o with
  | none => cases h
  | some x => cases x <;> simp [kl] at h <;> subst h <;> simp [Value.category]
theorem ls1_len : ∀ (L : LL) (i : Nat) (v : Value), (ls1 L i v).length = L.length
  | [], _, _ => rfl
  | _ :: _, 0, _ => rfl
  | _ :: t, 1, v => by simp [ls1, ls1_len t 0 v]
  | _ :: t, n + 2, v => by simp [ls1, ls1_len t (n + 1) v]
theorem ls1_get : ∀ (L : LL) (i j : Nat) (v x : Value), lg (ls1 L i v) j = some x → (j = i ∧ x = v) ∨ (j ≠ i ∧ lg L j = some x ∧ ¬ (j + 1 = i ∧ x.category = 2))
  | [], _, _, _, _, h => by simp [ls1, lg] at h
  | o :: t, 0, j, v, x, h => by
    cases j with
    | zero => simp only [ls1, lg, Option.some.injEq] at h; exact Or.inl ⟨rfl, h.symm⟩
    | succ j => exact Or.inr ⟨by omega, by simpa [ls1, lg] using h, by omega⟩
  | o :: t, 1, j, v, x, h => by
    cases j with
    | zero =>
      simp only [ls1, lg] at h
      obtain ⟨h1, h2⟩ := kl_some h
      exact Or.inr ⟨by omega, by simpa [lg] using h1, fun q => h2 q.2⟩
    | succ j =>
      simp only [ls1, lg] at h
      rcases ls1_get t 0 j v x h with ⟨a, b⟩ | ⟨a, b, c⟩
      · exact Or.inl ⟨by omega, b⟩
      · exact Or.inr ⟨by omega, by simpa [lg] using b, by omega⟩
  | o :: t, n + 2, j, v, x, h => by
    cases j with
    | zero => exact Or.inr ⟨by omega, by simpa [ls1, lg] using h, by omega⟩
    | succ j =>
      simp only [ls1, lg] at h
      rcases ls1_get t (n + 1) j v x h with ⟨a, b⟩ | ⟨a, b, c⟩
      · exact Or.inl ⟨by omega, b⟩
      · exact Or.inr ⟨by omega, by simpa [lg] using b, fun q => c ⟨by omega, q.2⟩⟩
theorem ls2_len : ∀ (L : LL) (i : Nat) (v : Value), (ls2 L i v).length = L.length
  | [], _, _ => by simp [ls2]
  | [_], 0, _ => by simp [ls2]
  | _ :: _ :: _, 0, _ => by simp [ls2]
  | _ :: t, 1, v => by simp [ls2, ls2_len t 0 v]
  | _ :: t, n + 2, v => by simp [ls2, ls2_len t (n + 1) v]
theorem ls2_get : ∀ (L : LL) (i j : Nat) (v x : Value), lg (ls2 L i v) j = some x → (j = i ∧ x = v) ∨ (j ≠ i ∧ j ≠ i + 1 ∧ lg L j = some x ∧ ¬ (j + 1 = i ∧ x.category = 2))
  | [], _, _, _, _, h => by simp [ls2, lg] at h
  | [o], 0, j, v, x, h => by
    cases j with
    | zero => simp only [ls2, lg, Option.some.injEq] at h; exact Or.inl ⟨rfl, h.symm⟩
    | succ j => simp [ls2, lg] at h
  | o :: o2 :: t, 0, j, v, x, h => by
    cases j with
    | zero => simp only [ls2, lg, Option.some.injEq] at h; exact Or.inl ⟨rfl, h.symm⟩
    | succ j =>
      cases j with
      | zero => simp [ls2, lg] at h
      | succ j => exact Or.inr ⟨by omega, by omega, by simpa [ls2, lg] using h, by omega⟩
  | o :: t, 1, j, v, x, h => by
    cases j with
    | zero =>
      simp only [ls2, lg] at h
      obtain ⟨h1, h2⟩ := kl_some h
      exact Or.inr ⟨by omega, by omega, by simpa [lg] using h1, fun q => h2 q.2⟩
    | succ j =>
      simp only [ls2, lg] at h
      rcases ls2_get t 0 j v x h with ⟨a, b⟩ | ⟨a, b, c, d⟩
      · exact Or.inl ⟨by omega, b⟩
      · exact Or.inr ⟨by omega, by omega, by simpa [lg] using c, by omega⟩
  | o :: t, n + 2, j, v, x, h => by
    cases j with
    | zero => exact Or.inr ⟨by omega, by omega, by simpa [ls2, lg] using h, by omega⟩
    | succ j =>
      simp only [ls2, lg] at h
      rcases ls2_get t (n + 1) j v x h with ⟨a, b⟩ | ⟨a, b, c, d⟩
      · exact Or.inl ⟨by omega, b⟩
      · exact Or.inr ⟨by omega, by omega, by simpa [lg] using c, fun q => d ⟨by omega, q.2⟩⟩
def lh (ls : Array Slot) (L : LL) : Prop := ls.size = L.length ∧ lv_wf ls ∧ ∀ (i : Nat) (v : Value), lg L i = some v → ls[i]? = some (.val v)
theorem lg_lt : ∀ {L : LL} {i : Nat} {v : Value}, lg L i = some v → i < L.length
  | [], _, _, h => by simp [lg] at h
  | _ :: _, 0, _, _ => by simp
  | _ :: t, n + 1, v, h => by simp only [lg] at h; have := lg_lt h; simp; omega
def prs (L : LL) : List (Nat × Value) := (List.range L.length).filterMap (fun i => (lg L i).map (fun v => (i, v)))
theorem prs_mem {L : LL} {q : Nat × Value} : q ∈ prs L ↔ lg L q.1 = some q.2 := by
  simp only [prs, List.mem_filterMap, List.mem_range, Option.map_eq_some_iff]
  constructor
  · rintro ⟨i, -, v, h, rfl⟩; exact h
  · intro h; exact ⟨q.1, lg_lt h, q.2, h, rfl⟩
theorem lh_has {ls : Array Slot} {L : LL} (h : lh ls L) : lv_has ls L.length (prs L) := ⟨h.1, h.2.1, fun q hq => h.2.2 _ _ (prs_mem.mp hq)⟩
theorem lh_st1 {ls : Array Slot} {L : LL} {i : Nat} {v : Value} {ls' : Array Slot} (h : lv_has ls' L.length ((i, v) :: (prs L).filter (fun q => !(q.1 == i) && !(q.1 + 1 == i && q.2.category == 2)))) : lh ls' (ls1 L i v) := by
  refine ⟨by rw [ls1_len]; exact h.1, h.2.1, fun j x hj => ?_⟩
  rcases ls1_get L i j v x hj with ⟨rfl, rfl⟩ | ⟨a, b, c⟩
  · exact h.2.2 (j, x) List.mem_cons_self
  · refine h.2.2 (j, x) (List.mem_cons_of_mem _ (List.mem_filter.mpr ⟨prs_mem.mpr b, ?_⟩))
    simp only [Bool.and_eq_true, Bool.not_eq_true', beq_eq_false_iff_ne, ne_eq, Bool.and_eq_false_iff]
    refine ⟨a, ?_⟩
    by_cases q : j + 1 = i
    · exact Or.inr (fun z => c ⟨q, z⟩)
    · exact Or.inl q
theorem lh_st2 {ls : Array Slot} {L : LL} {i : Nat} {v : Value} {ls' : Array Slot} (h : lv_has ls' L.length ((i, v) :: (prs L).filter (fun q => !(q.1 == i) && (!(q.1 == i + 1) && !(q.1 + 1 == i && q.2.category == 2))))) : lh ls' (ls2 L i v) := by
  refine ⟨by rw [ls2_len]; exact h.1, h.2.1, fun j x hj => ?_⟩
  rcases ls2_get L i j v x hj with ⟨rfl, rfl⟩ | ⟨a, b, c, d⟩
  · exact h.2.2 (j, x) List.mem_cons_self
  · refine h.2.2 (j, x) (List.mem_cons_of_mem _ (List.mem_filter.mpr ⟨prs_mem.mpr c, ?_⟩))
    simp only [Bool.and_eq_true, Bool.not_eq_true', beq_eq_false_iff_ne, ne_eq, Bool.and_eq_false_iff]
    refine ⟨a, b, ?_⟩
    by_cases q : j + 1 = i
    · exact Or.inr (fun z => d ⟨q, z⟩)
    · exact Or.inl q
-- the cells
def ob (w : WW) (a : Nat) : Option CD := if wl w ≤ a then lay[a - wl w]? else none
theorem ob_ws {w : WW} {u : MM} {a : Nat} {cd : CD} (h : ob w a = some cd) : ∃ k, lay[k]? = some cd ∧ a = wl w + k ∧ (wsO w u)[k]? = some (a, ce w u cd) := by
  unfold ob at h
  by_cases hl : wl w ≤ a
  · rw [if_pos hl] at h
    have e : a = wl w + (a - wl w) := by omega
    exact ⟨a - wl w, h, e, by rw [wsO_get h, ← e]⟩
  · rw [if_neg hl] at h; cases h
def okO (w : WW) (a ci : Nat) : Prop := ∃ b n fs, ob w a = some (.inl (ci, b, n, fs))
def okI (w : WW) (a ci j : Nat) : Prop := ∃ b n fs r, ob w a = some (.inl (ci, b, n, fs)) ∧ fs[j]? = some (.inl r)
def okJ (w : WW) (a ci j : Nat) : Prop := ∃ b n fs r, ob w a = some (.inl (ci, b, n, fs)) ∧ fs[j]? = some (.inr (.inl r))
def okR (w : WW) (a ci j : Nat) : Prop := ∃ b n fs r, ob w a = some (.inl (ci, b, n, fs)) ∧ fs[j]? = some (.inr (.inr r))
def ixI (w : WW) (a j : Nat) : Nat := match ob w a with
  | some (.inl (_, b, _, fs)) => (match fs[j]? with | some (.inl r) => b + r | _ => 0)
  | _ => 0
def ixJ (w : WW) (a j : Nat) : Nat := match ob w a with
  | some (.inl (_, _, _, fs)) => (match fs[j]? with | some (.inr (.inl r)) => r | _ => 0)
  | _ => 0
def rfF (w : WW) (a j : Nat) : Nat := match ob w a with
  | some (.inl (_, _, _, fs)) => (match fs[j]? with | some (.inr (.inr r)) => wl w + r | _ => 0)
  | _ => 0
def okAS (w : WW) (a : Nat) (i : Int32) : Prop := ∃ n b, ob w a = some (.inr (0, n, .inl b)) ∧ vp_in i n
def okAI (w : WW) (a : Nat) (i : Int32) : Prop := okAS w a i ∨ (∃ t, t < 4 ∧ a = wA w t ∧ ob w a = none ∧ vp_in i 6)
def ixA (w : WW) (a : Nat) (i : Int32) : Nat := match ob w a with
  | some (.inr (_, _, .inl b)) => b + i.toNatClampNeg
  | _ => 0
def rdA (w : WW) (u : MM) (a : Nat) (i : Int32) : Int32 := match ob w a with
  | some (.inr (_, _, .inl b)) => u.1 (b + i.toNatClampNeg)
  | _ => wV w a i.toNatClampNeg
def okAJ (w : WW) (a : Nat) (i : Int32) : Prop := ∃ n b, ob w a = some (.inr (1, n, .inr (.inl b))) ∧ vp_in i n
def ixAJ (w : WW) (a : Nat) (i : Int32) : Nat := match ob w a with
  | some (.inr (_, _, .inr (.inl b))) => b + i.toNatClampNeg
  | _ => 0
def okAR (w : WW) (a : Nat) (i : Int32) : Prop := ∃ t n x d, ob w a = some (.inr (t, n, .inr (.inr (x, d)))) ∧ vp_in i n ∧ 2 ≤ t ∧ t < 5
def rfA (w : WW) (a : Nat) (i : Int32) : Nat := match ob w a with
  | some (.inr (_, _, .inr (.inr (x, d)))) => wl w + x + d * i.toNatClampNeg
  | _ => 0
-- the step
abbrev CS : Type := Nat × (List Value → MM → Prop) × (List Value → MM → Option Value × MM)
/-- of a method: code, locals, what it returns, its own name, room -/
abbrev MI : Type := ByteArray × Nat × Option FieldType × String × Room
/-- its rows: pc, instruction, length, targets -/
abbrev TB : Type := List (Nat × Instr × Nat × List Nat)
/-- fields (kind of object, place, kind of field), numbers, long numbers, static arrays, texts, calls -/
abbrev KT : Type := (Nat → Option (Nat × Nat × Nat)) × (Nat → Option Int32) × (Nat → Option Int64) × (Nat → Option Nat) × (Nat → Option Nat) × (Nat → Option CS)
def lk : TB → Nat → Option (Instr × List Nat)
  | [], _ => none
  | (a, i, _, tg) :: t, pc => if Nat.beq a pc then some (i, tg) else lk t pc
def swc (x : Int32) : Int → List Nat → (Nat → Prop) → Prop → Prop
  | _, [], _, d => d
  | lo, t :: ts, f, d => (x = Int32.ofInt lo → f t) ∧ (¬ x = Int32.ofInt lo → swc x (lo + 1) ts f d)
def swk (x : Int32) : List Int → List Nat → (Nat → Prop) → Prop → Prop
  | k :: ks, t :: ts, f, d => (x = Int32.ofInt k → f t) ∧ (¬ x = Int32.ofInt k → swk x ks ts f d)
  | _, _, _, d => d
def cnd (c : Jvm.ClassFile.Cond) (x y : Int32) : Prop := match c with
  | .eq => x = y
  | .ne => ¬ x = y
  | .lt => x < y
  | .ge => y ≤ x
  | .gt => y < x
  | .le => x ≤ y
def sGet (w : WW) (K : KT) (n pc : Nat) (L : LL) (st : List Value) (u : MM) (k : Nat → LL → List Value → MM → Prop) : Prop := match K.1 n, st with
    | some (ci, j, 0), .ref a :: r => okI w a ci j ∧ k (pc + 3) L (.int (u.1 (ixI w a j)) :: r) u
    | some (ci, j, 1), .ref a :: r => okJ w a ci j ∧ k (pc + 3) L (.long (u.2 (ixJ w a j)) :: r) u
    | some (ci, j, 2), .ref a :: r => okR w a ci j ∧ k (pc + 3) L (.ref (rfF w a j) :: r) u
    | some (ci, j, 3), .ref a :: r => okI w a ci j ∧ k (pc + 3) L (.int (u.1 (ixI w a j)) :: r) u
    | _, _ => False
def sPut (w : WW) (K : KT) (n pc : Nat) (L : LL) (st : List Value) (u : MM) (k : Nat → LL → List Value → MM → Prop) : Prop := match K.1 n, st with
    | some (ci, j, 0), .int v :: .ref a :: r => okI w a ci j ∧ k (pc + 3) L r (uI u (ixI w a j) v)
    | some (ci, j, 1), .long v :: .ref a :: r => okJ w a ci j ∧ k (pc + 3) L r (uJ u (ixJ w a j) v)
    | some (ci, j, 3), .int v :: .ref a :: r => (okI w a ci j ∧ (v = 0 ∨ v = 1)) ∧ k (pc + 3) L r (uI u (ixI w a j) v)
    | _, _ => False
def stepP (w : WW) (M : MI) (K : KT) (Q : Option Value → MM → Prop) (i : Instr) (tg : List Nat) (pc : Nat) (L : LL) (st : List Value) (u : MM) (k : Nat → LL → List Value → MM → Prop) : Prop :=
  match i with
  | .iconst n => k (pc + 1) L (.int (Int32.ofInt n) :: st) u
  | .bipush n => k (pc + 2) L (.int (Int8.ofInt n).toInt32 :: st) u
  | .sipush n => k (pc + 3) L (.int (Int16.ofInt n).toInt32 :: st) u
  | .lconst n => k (pc + 1) L (.long (Int64.ofNat (n : Nat)) :: st) u
  | .iload_n n => (match lg L n with | some (.int x) => k (pc + 1) L (.int x :: st) u | _ => False)
  | .iload n => (match lg L n with | some (.int x) => k (pc + 2) L (.int x :: st) u | _ => False)
  | .lload_n n => (match lg L n with | some (.long x) => k (pc + 1) L (.long x :: st) u | _ => False)
  | .lload n => (match lg L n with | some (.long x) => k (pc + 2) L (.long x :: st) u | _ => False)
  | .aload_n n => (match lg L n with | some (.ref x) => k (pc + 1) L (.ref x :: st) u | _ => False)
  | .aload n => (match lg L n with | some (.ref x) => k (pc + 2) L (.ref x :: st) u | _ => False)
  | .istore_n n => (match st with | .int x :: r => (n : Nat) < L.length ∧ k (pc + 1) (ls1 L n (.int x)) r u | _ => False)
  | .istore n => (match st with | .int x :: r => n < L.length ∧ k (pc + 2) (ls1 L n (.int x)) r u | _ => False)
  | .astore_n n => (match st with | .ref x :: r => (n : Nat) < L.length ∧ k (pc + 1) (ls1 L n (.ref x)) r u | _ => False)
  | .astore n => (match st with | .ref x :: r => n < L.length ∧ k (pc + 2) (ls1 L n (.ref x)) r u | _ => False)
  | .lstore_n n => (match st with | .long x :: r => (n : Nat) + 1 < L.length ∧ k (pc + 1) (ls2 L n (.long x)) r u | _ => False)
  | .lstore n => (match st with | .long x :: r => n + 1 < L.length ∧ k (pc + 2) (ls2 L n (.long x)) r u | _ => False)
  | .iinc n d => (match lg L n with | some (.int x) => k (pc + 3) (ls1 L n (.int (x + Int32.ofInt d))) st u | _ => False)
  | .iadd => (match st with | .int y :: .int x :: r => k (pc + 1) L (.int (x + y) :: r) u | _ => False)
  | .isub => (match st with | .int y :: .int x :: r => k (pc + 1) L (.int (x - y) :: r) u | _ => False)
  | .imul => (match st with | .int y :: .int x :: r => k (pc + 1) L (.int (x * y) :: r) u | _ => False)
  | .iand => (match st with | .int y :: .int x :: r => k (pc + 1) L (.int (x &&& y) :: r) u | _ => False)
  | .ior => (match st with | .int y :: .int x :: r => k (pc + 1) L (.int (x ||| y) :: r) u | _ => False)
  | .idiv => (match st with | .int y :: .int x :: r => ¬ y = 0 ∧ k (pc + 1) L (.int (x / y) :: r) u | _ => False)
  | .irem => (match st with | .int y :: .int x :: r => ¬ y = 0 ∧ k (pc + 1) L (.int (x - x / y * y) :: r) u | _ => False)
  | .ineg => (match st with | .int x :: r => k (pc + 1) L (.int (-x) :: r) u | _ => False)
  | .ishl => (match st with | .int y :: .int x :: r => k (pc + 1) L (.int (x <<< (y &&& 31)) :: r) u | _ => False)
  | .ishr => (match st with | .int y :: .int x :: r => k (pc + 1) L (.int (x >>> (y &&& 31)) :: r) u | _ => False)
  | .iushr => (match st with | .int y :: .int x :: r => k (pc + 1) L (.int (x.toUInt32 >>> (y.toUInt32 &&& Int32.toUInt32 31)).toInt32 :: r) u | _ => False)
  | .ladd => (match st with | .long y :: .long x :: r => k (pc + 1) L (.long (x + y) :: r) u | _ => False)
  | .lsub => (match st with | .long y :: .long x :: r => k (pc + 1) L (.long (x - y) :: r) u | _ => False)
  | .lmul => (match st with | .long y :: .long x :: r => k (pc + 1) L (.long (x * y) :: r) u | _ => False)
  | .lshl => (match st with | .int y :: .long x :: r => k (pc + 1) L (.long (x <<< (y.toInt64 &&& 63)) :: r) u | _ => False)
  | .lshr => (match st with | .int y :: .long x :: r => k (pc + 1) L (.long (x >>> (y.toInt64 &&& 63)) :: r) u | _ => False)
  | .lcmp => (match st with | .long y :: .long x :: r => k (pc + 1) L (.int (lg_cmp x y) :: r) u | _ => False)
  | .i2l => (match st with | .int x :: r => k (pc + 1) L (.long x.toInt64 :: r) u | _ => False)
  | .l2i => (match st with | .long x :: r => k (pc + 1) L (.int x.toInt32 :: r) u | _ => False)
  | .i2b => (match st with | .int x :: r => k (pc + 1) L (.int x.toInt8.toInt32 :: r) u | _ => False)
  | .i2s => (match st with | .int x :: r => k (pc + 1) L (.int x.toInt16.toInt32 :: r) u | _ => False)
  | .dup => (match st with | x :: r => x.category = 1 ∧ k (pc + 1) L (x :: x :: r) u | _ => False)
  | .pop => (match st with | x :: r => x.category = 1 ∧ k (pc + 1) L r u | _ => False)
  | .dup_x1 => (match st with | x :: y :: r => (x.category = 1 ∧ y.category = 1) ∧ k (pc + 1) L (x :: y :: x :: r) u | _ => False)
  | .dup2 => (match st with | x :: y :: r => (x.category = 1 ∧ y.category = 1) ∧ k (pc + 1) L (x :: y :: x :: y :: r) u | _ => False)
  | .ifCond c _ => (match st, tg with | .int x :: r, [t] => (cnd c x 0 → k t L r u) ∧ (¬ cnd c x 0 → k (pc + 3) L r u) | _, _ => False)
  | .if_icmp c _ => (match st, tg with | .int y :: .int x :: r, [t] => (cnd c x y → k t L r u) ∧ (¬ cnd c x y → k (pc + 3) L r u) | _, _ => False)
  | .goto _ => (match tg with | [t] => k t L st u | _ => False)
  | .tableswitch _ lo _ _ => (match st, tg with | .int x :: r, td :: ts => swc x lo ts (fun t => k t L r u) (k td L r u) | _, _ => False)
  | .lookupswitch _ ps => (match st, tg with | .int x :: r, td :: ts => swk x (ps.toList.map (·.1)) ts (fun t => k t L r u) (k td L r u) | _, _ => False)
  | .ldc n => (match K.2.1 n with | some v => k (pc + 2) L (.int v :: st) u | none => (match K.2.2.2.2.1 n with | some t => k (pc + 2) L (.ref (wK w t) :: st) u | none => False))
  | .ldc_w n => (match K.2.1 n with | some v => k (pc + 3) L (.int v :: st) u | none => False)
  | .ldc2_w n => (match K.2.2.1 n with | some v => k (pc + 3) L (.long v :: st) u | none => False)
  | .getstatic n => (match K.2.2.2.1 n with | some t => k (pc + 3) L (.ref (wA w t) :: st) u | none => False)
  | .getfield n => sGet w K n pc L st u k
  | .putfield n => sPut w K n pc L st u k
  | .iaload => (match st with | .int i :: .ref a :: r => okAI w a i ∧ k (pc + 1) L (.int (rdA w u a i) :: r) u | _ => False)
  | .iastore => (match st with | .int v :: .int i :: .ref a :: r => okAS w a i ∧ k (pc + 1) L r (uI u (ixA w a i) v) | _ => False)
  | .laload => (match st with | .int i :: .ref a :: r => okAJ w a i ∧ k (pc + 1) L (.long (u.2 (ixAJ w a i)) :: r) u | _ => False)
  | .lastore => (match st with | .long v :: .int i :: .ref a :: r => okAJ w a i ∧ k (pc + 1) L r (uJ u (ixAJ w a i) v) | _ => False)
  | .aaload => (match st with | .int i :: .ref a :: r => okAR w a i ∧ k (pc + 1) L (.ref (rfA w a i) :: r) u | _ => False)
  | .invokevirtual n => (match K.2.2.2.2.2 n with | some cs => (cs.1 ≤ st.length ∧ ((st.drop cs.1).map (fun v => v.category)).sum ≤ 8) ∧ cs.2.1 (st.take cs.1).reverse u ∧ k (pc + 3) L ((cs.2.2 (st.take cs.1).reverse u).1.toList ++ st.drop cs.1) (cs.2.2 (st.take cs.1).reverse u).2 | none => False)
  | .invokestatic n => (match K.2.2.2.2.2 (n + 65536) with | some cs => (cs.1 ≤ st.length ∧ ((st.drop cs.1).map (fun v => v.category)).sum ≤ 8) ∧ cs.2.1 (st.take cs.1).reverse u ∧ k (pc + 3) L ((cs.2.2 (st.take cs.1).reverse u).1.toList ++ st.drop cs.1) (cs.2.2 (st.take cs.1).reverse u).2 | none => False)
  | .ireturn => (match M.2.2.1, st with | some ty, [.int v] => narrow ty (.int v) = .int v ∧ Q (some (.int v)) u | _, _ => False)
  | .lreturn => (match M.2.2.1, st with | some .long, [.long v] => Q (some (.long v)) u | _, _ => False)
  | .areturn => (match M.2.2.1, st with | some (.object _), [.ref v] => Q (some (.ref v)) u | _, _ => False)
  | .return_ => (match M.2.2.1, st with | none, [] => Q none u | _, _ => False)
  | _ => False
def wp (w : WW) (M : MI) (T : TB) (K : KT) (Q : Option Value → MM → Prop) : Nat → Nat → LL → List Value → MM → Prop
  | 0, _, _, _, _ => False
  | n + 1, pc, L, st, u => (match lk T pc with | some (i, tg) => stepP w M K Q i tg pc L st u (wp w M T K Q n) | none => False)
def WP (w : WW) (M : MI) (T : TB) (K : KT) (Q : Option Value → MM → Prop) (pc : Nat) (L : LL) (st : List Value) (u : MM) : Prop := ∃ n, wp w M T K Q n pc L st u
theorem WP_unf {w : WW} {M : MI} {T : TB} {K : KT} {Q : Option Value → MM → Prop} {pc : Nat} {L : LL} {st : List Value} {u : MM} {i : Instr} {tg : List Nat} (h : lk T pc = some (i, tg)) : WP w M T K Q pc L st u ↔ ∃ n, stepP w M K Q i tg pc L st u (wp w M T K Q n) := by
  constructor
  · rintro ⟨n, hn⟩
    cases n with
    | zero => exact hn.elim
    | succ n => rw [wp, h] at hn; exact ⟨n, hn⟩
  · rintro ⟨n, hn⟩
    exact ⟨n + 1, by rw [wp, h]; exact hn⟩
theorem ex_br {c : Prop} {P R : Nat → Prop} : (∃ n, (c → P n) ∧ (¬ c → R n)) ↔ (c → ∃ n, P n) ∧ (¬ c → ∃ n, R n) := by
  by_cases h : c
  · constructor
    · rintro ⟨n, a, -⟩; exact ⟨fun _ => ⟨n, a h⟩, fun z => (z h).elim⟩
    · rintro ⟨a, -⟩; obtain ⟨n, hn⟩ := a h; exact ⟨n, fun _ => hn, fun z => (z h).elim⟩
  · constructor
    · rintro ⟨n, -, a⟩; exact ⟨fun z => (h z).elim, fun _ => ⟨n, a h⟩⟩
    · rintro ⟨-, a⟩; obtain ⟨n, hn⟩ := a h; exact ⟨n, fun z => (h z).elim, fun _ => hn⟩
theorem ex_and {a : Prop} {P : Nat → Prop} : (∃ n, a ∧ P n) ↔ a ∧ ∃ n, P n := exists_and_left
theorem ex_and2 {a b : Prop} {P : Nat → Prop} : (∃ n, a ∧ b ∧ P n) ↔ a ∧ b ∧ ∃ n, P n := by
  constructor
  · rintro ⟨n, x, y, z⟩; exact ⟨x, y, n, z⟩
  · rintro ⟨x, y, n, z⟩; exact ⟨n, x, y, z⟩
theorem ex_k {a : Prop} : (∃ _n : Nat, a) ↔ a := ⟨fun ⟨_, h⟩ => h, fun h => ⟨0, h⟩⟩
theorem ex_swc {x : Int32} {f : Nat → Nat → Prop} {d : Nat → Prop} : ∀ (ts : List Nat) (lo : Int), (∃ n, swc x lo ts (fun t => f t n) (d n)) ↔ swc x lo ts (fun t => ∃ n, f t n) (∃ n, d n)
  | [], _ => Iff.rfl
  | t :: ts, lo => by
    simp only [swc]
    rw [ex_br, ex_swc ts (lo + 1)]
theorem ex_swk {x : Int32} {f : Nat → Nat → Prop} {d : Nat → Prop} : ∀ (ks : List Int) (ts : List Nat), (∃ n, swk x ks ts (fun t => f t n) (d n)) ↔ swk x ks ts (fun t => ∃ n, f t n) (∃ n, d n)
  | [], ts => by simp only [swk]
  | _ :: _, [] => by simp only [swk]
  | k :: ks, t :: ts => by
    simp only [swk]
    rw [ex_br, ex_swk ks ts]
