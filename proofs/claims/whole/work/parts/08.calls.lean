/-! ===== contracts, and calls by contract ===== -/
def sl : List Value → LL
  | [] => []
  | v :: vs => if v.category = 2 then some v :: none :: sl vs else some v :: sl vs
def L0 (n : Nat) (vs : List Value) : LL := sl vs ++ List.replicate (n - (sl vs).length) none
theorem sl_len : ∀ vs : List Value, (sl vs).length = (lg_sl vs).length
  | [] => rfl
  | v :: vs => by
    have ih := sl_len vs
    simp only [lg_sl] at ih
    by_cases h : v.category = 2
    · simp [sl, lg_sl, h, ih]
    · simp [sl, lg_sl, h, ih]
theorem lg_rep : ∀ (n i : Nat) (v : Value), lg (List.replicate n none) i = some v → False
  | 0, _, _, h => by simp [lg] at h
  | n + 1, 0, _, h => by simp [List.replicate, lg] at h
  | n + 1, i + 1, v, h => by simp only [List.replicate, lg] at h; exact lg_rep n i v h
theorem lg_args : ∀ (vs : List Value) (n k i : Nat) (v : Value), lg (sl vs ++ List.replicate n none) i = some v → (k + i, v) ∈ lv_args k vs
  | [], n, k, i, v, h => by simp only [sl, List.nil_append] at h; exact (lg_rep n i v h).elim
  | x :: vs, n, k, i, v, h => by
    by_cases hc : x.category = 2
    · simp only [sl, if_pos hc, List.cons_append] at h
      simp only [lv_args, if_pos hc]
      match i, h with
      | 0, h => simp only [lg, Option.some.injEq] at h; subst h; exact List.mem_cons_self
      | 1, h => simp [lg] at h
      | i + 2, h =>
        simp only [lg] at h
        have := lg_args vs n (k + 2) i v h
        rw [show k + (i + 2) = k + 2 + i by omega]
        exact List.mem_cons_of_mem _ this
    · simp only [sl, if_neg hc, List.cons_append] at h
      simp only [lv_args, if_neg hc]
      match i, h with
      | 0, h => simp only [lg, Option.some.injEq] at h; subst h; exact List.mem_cons_self
      | i + 1, h =>
        simp only [lg] at h
        have := lg_args vs n (k + 1) i v h
        rw [show k + (i + 1) = k + 1 + i by omega]
        exact List.mem_cons_of_mem _ this
theorem L0_len {n : Nat} {vs : List Value} (h : (sl vs).length ≤ n) : (L0 n vs).length = n := by simp [L0]; omega
theorem L0_lh {n : Nat} {vs : List Value} (h : (sl vs).length ≤ n) : lh ((lg_sl vs ++ List.replicate (n - (lg_sl vs).length) Slot.unset).toArray) (L0 n vs) := by
  have h1 := lv_entry vs (n := n) (by rw [← sl_len]; exact h)
  refine ⟨by rw [h1.1, L0_len h], h1.2.1, fun i v hi => ?_⟩
  have := lg_args vs _ 0 i v hi
  rw [Nat.zero_add] at this
  exact h1.2.2 _ this
def wsy (y : MethodName) (M : MI) : List Cond := .code y M.1 M.2.1 M.2.2.1 :: Gt
def Wd (w : WW) (u : MM) (U : State) : Prop := va_P (wD w) vwCl (wsO w u) U.heap ∧ va_K (wD w) vwCl (tysO w) U ∧ RO w U
/-- a method's contract: for these arguments and numbers it returns so, and the numbers are then so -/
def CT (w : WW) (y : MethodName) (M : MI) (pre : List Value → MM → Prop) (res : List Value → MM → Option Value × MM) : Prop :=
  ∀ (l : Launch) (as : List Value) (u : MM), pre as u → Met l y (wsy y M) M.2.2.2.2 (va_Pc as (fun U => Wd w u U)) (Qm w (fun r u' => r = (res as u).1 ∧ u' = (res as u).2)) 0 0 (wA' w)
theorem CT_of {w : WW} {y : MethodName} {M : MI} {T : TB} {K : KT} {pre : List Value → MM → Prop} {res : List Value → MM → Option Value × MM} (hy : plainName y.cls = true) (hown : y.cls = M.2.2.2.1) (hT : T.all (chk M.1) = true) (hV : T.all vOk = true) (hK : KOk w M K)
    (h : ∀ as u, pre as u → (sl as).length ≤ M.2.1 ∧ WP w M T K (fun r u' => r = (res as u).1 ∧ u' = (res as u).2) 0 (L0 M.2.1 as) [] u) : CT w y M pre res := by
  intro l as u hp
  obtain ⟨hlen, n, hn⟩ := h as u hp
  refine Met.ofW (cc := M.1) (maxL := M.2.1) (ret := M.2.2.1) hy rfl ?_
  intro p e s m args below meth c s₁ B hml hv
  obtain ⟨rfl, hP, hK1, hRO⟩ := hv
  have hts := atoms_spec (ws := wsy y M) B.pre
  have hfc : s.vm.findClass y.cls = some m.cls := findClass_of_methodNamed B.named
  rw [hown] at hfc
  rw [lg_entry_eq]
  exact wp_run hT hV hK n 0 _ [] u hn p l e s m as.toArray below meth c ⟨B.exec, B.bytes, hml, hfc, fun x hx => hts x (List.mem_cons_of_mem _ hx), B.returns, B.notSynchronized, hK1, hRO⟩ s.heap [] _ hP va_S.rf (L0_lh hlen) (L0_len hlen)
theorem Wd_blind {w : WW} {u : MM} {as : List Value} : FrameBlind (va_Pc as (fun U => Wd w u U)) := by
  intro a U g mk q
  obtain ⟨q0, qP, qK, qR⟩ := q
  exact ⟨q0, qP, va_K.moved (u := U) (U := U.calling g mk a) (Vm.Alike.refl U.vm) qK, qR.blind⟩
theorem Wd_at {w : WW} {u : MM} {s U : State} {H : Heap} {locs : List Loc} (hK : va_K (wD w) vwCl (tysO w) s) (hRO : RO w s) (hP : va_P (wD w) vwCl (wsO w u) H) (hS : va_S (wA' w) s.heap H locs) (hU : U.heap = H) (hW : s.WarmedH U.vm) : Wd w u U :=
  ⟨by rw [hU]; exact hP, va_K.moved hW.alike hK, hRO.call hS hU hW⟩
/-- behind a call: what the contract said, in the caller -/
theorem run_back {w : WW} {p : Program} {l : Launch} {e : Env} {R : Room} {s : State} {m : MethodId} {args : Array Value} {below : List Frame} {meth : Method} {c : Code} {H : Heap} {locs : List Loc} {rest : List Value} {a : Array Value} {r : Option Value} {u' : MM} {Qf : State → Prop} {m2 : MethodId} {pc : Nat} {ls : Array Slot} {st : List Value}
    (hr : va_Run p l e R s m args below meth c H locs 0 0 0 0 (F0 m2 pc ls st) rest (Qm w (fun x y => x = r ∧ y = u') a) (wA' w)) (hS : va_S (wA' w) s.heap H locs)
    (kk : ∀ (H1 : Heap) (locs1 : List Loc), va_P (wD w) vwCl (wsO w u') H1 → va_S (wA' w) s.heap H1 locs1 → W p l e R s m args below meth c H1 locs1 0 0 Qf (F0 m2 (pc + 3) ls (r.toList ++ rest))) : W p l e R s m args below meth c H locs 0 0 Qf (F0 m2 pc ls st) := by
  intro T hT X
  obtain ⟨v, st₀, t, T', L, h0, X', hL, e1, e2, ⟨x, y, hv, ⟨rfl, rfl⟩, hP, hz, hk⟩, stp⟩ := hr T hT X
  cases hv
  rw [h0] at hz hk
  obtain ⟨t2, a1, b1⟩ := kk T'.heap (locs ++ L) (by rw [e1]; exact hP)
    ⟨Nat.le_trans hS.1 (by rw [e1]; exact hz), fun q h1 h2 => by rw [e1, hk q (Nat.lt_of_lt_of_le h1 hS.1) h2]; exact hS.2.1 q h1 h2, fun q hq => by
      rcases List.mem_append.mp hq with h | h
      · exact hS.2.2 q h
      · exact hL q h⟩ T' rfl X'
  exact ⟨t2, stp t2 a1, b1⟩
theorem take_split {st : List Value} {n : Nat} {as : List Value} (h : (st.take n).reverse = as) : st = as.reverse ++ st.drop n := by
  rw [← h, List.reverse_reverse, List.take_append_drop]
/-- the words that a call of y asks for -/
def wV1 (own : String) (idx : Nat) (y : MethodName) (My : MI) : List Cond := [.methodLink own idx y, .instanceMethod y, .selects y.cls y y, .initialized y.cls, .code y My.1 My.2.1 My.2.2.1]
def wS1 (own : String) (idx : Nat) (y : MethodName) (My : MI) : List Cond := [.methodLink own idx y, .static y, .initialized y.cls, .code y My.1 My.2.1 My.2.2.1]
def rmOk (M My : MI) : Bool := Nat.beq My.2.2.2.2.cells 0 && Nat.beq My.2.2.2.2.slots 0 && Nat.ble (My.2.2.2.2.frames + 1) M.2.2.2.2.frames && Nat.ble (8 + (My.2.1 + 11) + My.2.2.2.2.locals) M.2.2.2.2.locals
def nmOk (y : MethodName) (n : Nat) : Bool := decide (y.cls ≠ "java/lang/invoke/MethodHandle") && decide (y.cls ≠ "java/lang/invoke/VarHandle") && decide ((parseMethodDescriptor y.desc).map (fun d => d.parameters.length) = some n)
theorem wsy_in {own : String} {idx : Nat} {y : MethodName} {My : MI} (h : .code y My.1 My.2.1 My.2.2.1 ∈ Gt) : ∀ x ∈ wsy y My, x ∈ Gt := fun x hx => (List.mem_cons.mp hx).elim (fun e => e ▸ h) id
theorem COk_V {w : WW} {M My : MI} {y : MethodName} {pre : List Value → MM → Prop} {res : List Value → MM → Option Value × MM} {n idx ci : Nat} (hC : CT w y My pre res) (hw : ∀ x ∈ wV1 M.2.2.2.1 idx y My, x ∈ Gt) (hn : nmOk y n = true) (hr : rmOk M My = true) (hci : ci < 7) (hcl : (cQ ci).1 = y.cls)
    (hp : ∀ as u, pre as u → ∃ a r, as = .ref a :: r ∧ r.length = n ∧ okO w a ci) : COk w M (.invokevirtual idx) (n + 1, pre, res) := by
  intro p l e s m args below meth c C H locs ls pc st u Qf hP hS hls hd h0 h1 h2 kk
  obtain ⟨hx, hb, hml, hown, hts, hret, hlk, hK, hRO⟩ := C
  obtain ⟨a, r, ha, hrl, b, nn, fs, ho⟩ := hp _ _ h2
  obtain ⟨k, -, -, hws⟩ := ob_ws (u := u) ho
  simp only [nmOk, Bool.and_eq_true, decide_eq_true_eq] at hn
  simp only [rmOk, Bool.and_eq_true, Nat.beq_eq, Nat.ble_eq] at hr
  have hcode : .code y My.1 My.2.1 My.2.2.1 ∈ Gt := hw _ (by simp [wV1])
  have hG : GoodIn Gt (wsV M.2.2.2.1 idx y.cls y (wsy y My)) := Gt_goodIn (fun x hx => by
    simp only [wsV, List.mem_append] at hx
    rcases hx with hx | hx
    · exact hw x (by simp only [wV1]; simp only [List.mem_cons, List.not_mem_nil, or_false] at hx ⊢; rcases hx with h | h | h | h <;> simp [h])
    · exact wsy_in (own := M.2.2.2.1) (idx := idx) hcode x hx)
  have hst := take_split ha
  simp only [List.reverse_cons, List.append_assoc, List.singleton_append] at hst
  refine run_back (rest := st.drop (n + 1)) (va_runV (As := r) (C := y.cls) (b := a) (rest := st.drop (n + 1)) ⟨hx, hb, hml, hown, hts⟩ (hC l _ u h2) (cwV n hts hG rfl hr.1.1.1 hr.1.1.2 ⟨rfl, hn.1.1, hn.1.2, hn.2⟩ ⟨hr.1.2, hr.2⟩) ⟨Wd_blind, ?_, fun U hU hW => ⟨by rw [← ha], Wd_at hK hRO hP hS hU hW⟩⟩ rfl hrl (by rw [hls]) hst (lv_room h1) hd ⟨Nat.zero_le _, Nat.zero_le _⟩) hS kk
  have := va_recv hK hP (cl_ok hci).1 hws
  rw [hcl] at this
  exact this
theorem COk_S {w : WW} {M My : MI} {y : MethodName} {pre : List Value → MM → Prop} {res : List Value → MM → Option Value × MM} {n idx : Nat} (hC : CT w y My pre res) (hw : ∀ x ∈ wS1 M.2.2.2.1 idx y My, x ∈ Gt) (hn : nmOk y n = true) (hr : rmOk M My = true)
    : COk w M (.invokestatic idx) (n, pre, res) := by
  intro p l e s m args below meth c C H locs ls pc st u Qf hP hS hls hd h0 h1 h2 kk
  obtain ⟨hx, hb, hml, hown, hts, hret, hlk, hK, hRO⟩ := C
  simp only [nmOk, Bool.and_eq_true, decide_eq_true_eq] at hn
  simp only [rmOk, Bool.and_eq_true, Nat.beq_eq, Nat.ble_eq] at hr
  have hcode : .code y My.1 My.2.1 My.2.2.1 ∈ Gt := hw _ (by simp [wS1])
  have hG : GoodIn Gt (va_wsS M.2.2.2.1 idx y (wsy y My)) := Gt_goodIn (fun x hx => by
    simp only [va_wsS, List.mem_append] at hx
    rcases hx with hx | hx
    · exact hw x (by simp only [wS1]; simp only [List.mem_cons, List.not_mem_nil, or_false] at hx ⊢; rcases hx with h | h | h <;> simp [h])
    · exact wsy_in (own := M.2.2.2.1) (idx := idx) hcode x hx)
  have hst := take_split (st := st) (n := n) rfl
  refine run_back (rest := st.drop n) (va_runS (As := (st.take n).reverse) (rest := st.drop n) ⟨hx, hb, hml, hown, hts⟩ (hC l _ u h2) (va_cwS n hts hG rfl hr.1.1.1 hr.1.1.2 ⟨hn.1.1, hn.1.2, hn.2⟩ ⟨hr.1.2, hr.2⟩) ⟨Wd_blind, fun U hU hW => ⟨rfl, Wd_at hK hRO hP hS hU hW⟩⟩ rfl (by simp only [List.length_reverse, List.length_take]; exact Nat.min_eq_left h0) (by rw [hls]) hst (lv_room h1) hd ⟨Nat.zero_le _, Nat.zero_le _⟩) hS kk
