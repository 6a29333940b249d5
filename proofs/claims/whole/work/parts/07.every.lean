/-! ===== every instruction of the small machine ===== -/
theorem inv_i {P : Int32 → List Value → Prop} {st : List Value} (h : match st with | .int x :: r => P x r | _ => False) : ∃ (x : Int32) (r : List Value), st = .int x :: r ∧ P x r := by
  split at h
  · exact ⟨_, _, rfl, h⟩
  · exact False.elim h
theorem inv_l {P : Int64 → List Value → Prop} {st : List Value} (h : match st with | .long x :: r => P x r | _ => False) : ∃ (x : Int64) (r : List Value), st = .long x :: r ∧ P x r := by
  split at h
  · exact ⟨_, _, rfl, h⟩
  · exact False.elim h
theorem inv_r {P : Nat → List Value → Prop} {st : List Value} (h : match st with | .ref x :: r => P x r | _ => False) : ∃ (x : Nat) (r : List Value), st = .ref x :: r ∧ P x r := by
  split at h
  · exact ⟨_, _, rfl, h⟩
  · exact False.elim h
theorem inv_v {P : Value → List Value → Prop} {st : List Value} (h : match st with | x :: r => P x r | _ => False) : ∃ (x : Value) (r : List Value), st = x :: r ∧ P x r := by
  split at h
  · exact ⟨_, _, rfl, h⟩
  · exact False.elim h
theorem inv_vv {P : Value → Value → List Value → Prop} {st : List Value} (h : match st with | x :: y :: r => P x y r | _ => False) : ∃ (x : Value) (y : Value) (r : List Value), st = x :: y :: r ∧ P x y r := by
  split at h
  · exact ⟨_, _, _, rfl, h⟩
  · exact False.elim h
theorem inv_ii {P : Int32 → Int32 → List Value → Prop} {st : List Value} (h : match st with | .int y :: .int x :: r => P x y r | _ => False) : ∃ (x : Int32) (y : Int32) (r : List Value), st = .int y :: .int x :: r ∧ P x y r := by
  split at h
  · exact ⟨_, _, _, rfl, h⟩
  · exact False.elim h
theorem inv_ll {P : Int64 → Int64 → List Value → Prop} {st : List Value} (h : match st with | .long y :: .long x :: r => P x y r | _ => False) : ∃ (x : Int64) (y : Int64) (r : List Value), st = .long y :: .long x :: r ∧ P x y r := by
  split at h
  · exact ⟨_, _, _, rfl, h⟩
  · exact False.elim h
theorem inv_il {P : Int64 → Int32 → List Value → Prop} {st : List Value} (h : match st with | .int y :: .long x :: r => P x y r | _ => False) : ∃ (x : Int64) (y : Int32) (r : List Value), st = .int y :: .long x :: r ∧ P x y r := by
  split at h
  · exact ⟨_, _, _, rfl, h⟩
  · exact False.elim h
theorem inv_lgi {P : Int32 → Prop} {L : LL} {n : Nat} (h : match lg L n with | some (.int x) => P x | _ => False) : ∃ x, lg L n = some (.int x) ∧ P x := by
  split at h
  · rename_i e; exact ⟨_, e, h⟩
  · exact False.elim h
theorem inv_lgl {P : Int64 → Prop} {L : LL} {n : Nat} (h : match lg L n with | some (.long x) => P x | _ => False) : ∃ x, lg L n = some (.long x) ∧ P x := by
  split at h
  · rename_i e; exact ⟨_, e, h⟩
  · exact False.elim h
theorem inv_lgr {P : Nat → Prop} {L : LL} {n : Nat} (h : match lg L n with | some (.ref x) => P x | _ => False) : ∃ x, lg L n = some (.ref x) ∧ P x := by
  split at h
  · rename_i e; exact ⟨_, e, h⟩
  · exact False.elim h
theorem inv_it {P : Int32 → List Value → Nat → Prop} {st : List Value} {tg : List Nat} (h : match st, tg with | .int x :: r, [t] => P x r t | _, _ => False) : ∃ (x : Int32) (r : List Value) (t : Nat), st = .int x :: r ∧ tg = [t] ∧ P x r t := by
  split at h
  · exact ⟨_, _, _, rfl, rfl, h⟩
  · exact False.elim h
theorem inv_iit {P : Int32 → Int32 → List Value → Nat → Prop} {st : List Value} {tg : List Nat} (h : match st, tg with | .int y :: .int x :: r, [t] => P x y r t | _, _ => False) : ∃ (x y : Int32) (r : List Value) (t : Nat), st = .int y :: .int x :: r ∧ tg = [t] ∧ P x y r t := by
  split at h
  · exact ⟨_, _, _, _, rfl, rfl, h⟩
  · exact False.elim h
theorem inv_its {P : Int32 → List Value → Nat → List Nat → Prop} {st : List Value} {tg : List Nat} (h : match st, tg with | .int x :: r, t :: ts => P x r t ts | _, _ => False) : ∃ (x : Int32) (r : List Value) (t : Nat) (ts : List Nat), st = .int x :: r ∧ tg = t :: ts ∧ P x r t ts := by
  split at h
  · exact ⟨_, _, _, _, rfl, rfl, h⟩
  · exact False.elim h
theorem inv_t {P : Nat → Prop} {tg : List Nat} (h : match tg with | [t] => P t | _ => False) : ∃ t : Nat, tg = [t] ∧ P t := by
  split at h
  · exact ⟨_, rfl, h⟩
  · exact False.elim h
theorem inv_o {α : Type} {P : α → Prop} {o : Option α} (h : match o with | some t => P t | none => False) : ∃ t, o = some t ∧ P t := by
  split at h
  · exact ⟨_, rfl, h⟩
  · exact False.elim h
theorem inv_ir {P : Int32 → Nat → List Value → Prop} {st : List Value} (h : match st with | .int x :: .ref a :: r => P x a r | _ => False) : ∃ (x : Int32) (a : Nat) (r : List Value), st = .int x :: .ref a :: r ∧ P x a r := by
  split at h
  · exact ⟨_, _, _, rfl, h⟩
  · exact False.elim h
theorem inv_iir {P : Int32 → Int32 → Nat → List Value → Prop} {st : List Value} (h : match st with | .int v :: .int x :: .ref a :: r => P v x a r | _ => False) : ∃ (v : Int32) (x : Int32) (a : Nat) (r : List Value), st = .int v :: .int x :: .ref a :: r ∧ P v x a r := by
  split at h
  · exact ⟨_, _, _, _, rfl, h⟩
  · exact False.elim h
theorem inv_lir {P : Int64 → Int32 → Nat → List Value → Prop} {st : List Value} (h : match st with | .long v :: .int x :: .ref a :: r => P v x a r | _ => False) : ∃ (v : Int64) (x : Int32) (a : Nat) (r : List Value), st = .long v :: .int x :: .ref a :: r ∧ P v x a r := by
  split at h
  · exact ⟨_, _, _, _, rfl, h⟩
  · exact False.elim h
theorem swc_mono {x : Int32} {f g : Nat → Prop} {d e : Prop} (hf : ∀ t, f t → g t) (hd : d → e) : ∀ (ts : List Nat) (lo : Int), swc x lo ts f d → swc x lo ts g e
  | [], _, h => hd h
  | _ :: ts, lo, h => ⟨fun z => hf _ (h.1 z), fun z => swc_mono hf hd ts (lo + 1) (h.2 z)⟩
theorem swk_mono {x : Int32} {f g : Nat → Prop} {d e : Prop} (hf : ∀ t, f t → g t) (hd : d → e) : ∀ (ks : List Int) (ts : List Nat), swk x ks ts f d → swk x ks ts g e
  | [], _, h => by simp only [swk] at h ⊢; exact hd h
  | _ :: _, [], h => by simp only [swk] at h ⊢; exact hd h
  | _ :: ks, _ :: ts, h => by
    simp only [swk] at h ⊢
    exact ⟨fun z => hf _ (h.1 z), fun z => swk_mono hf hd ks ts (h.2 z)⟩
theorem sGet_mono {w : WW} {K : KT} {n pc : Nat} {L : LL} {st : List Value} {u : MM} {k k' : Nat → LL → List Value → MM → Prop} (hk : ∀ a b c d, k a b c d → k' a b c d) (h : sGet w K n pc L st u k) : sGet w K n pc L st u k' := by
  unfold sGet at h ⊢
  split at h <;> first | exact ⟨h.1, hk _ _ _ _ h.2⟩ | exact False.elim h
theorem sPut_mono {w : WW} {K : KT} {n pc : Nat} {L : LL} {st : List Value} {u : MM} {k k' : Nat → LL → List Value → MM → Prop} (hk : ∀ a b c d, k a b c d → k' a b c d) (h : sPut w K n pc L st u k) : sPut w K n pc L st u k' := by
  unfold sPut at h ⊢
  split at h <;> first | exact ⟨h.1, hk _ _ _ _ h.2⟩ | exact False.elim h
theorem stepP_mono {w : WW} {M : MI} {K : KT} {Q : Option Value → MM → Prop} {i : Instr} {tg : List Nat} {pc : Nat} {L : LL} {st : List Value} {u : MM} {k k' : Nat → LL → List Value → MM → Prop} (hk : ∀ a b c d, k a b c d → k' a b c d) (h : stepP w M K Q i tg pc L st u k) : stepP w M K Q i tg pc L st u k' := by
  cases i with
  | iconst n => exact hk _ _ _ _ h
  | bipush n => exact hk _ _ _ _ h
  | sipush n => exact hk _ _ _ _ h
  | lconst n => exact hk _ _ _ _ h
  | iload_n n => obtain ⟨x, e, h⟩ := inv_lgi h; show (match lg L n with | some (.int x) => _ | _ => False); rw [e]; exact hk _ _ _ _ h
  | iload n => obtain ⟨x, e, h⟩ := inv_lgi h; show (match lg L n with | some (.int x) => _ | _ => False); rw [e]; exact hk _ _ _ _ h
  | lload_n n => obtain ⟨x, e, h⟩ := inv_lgl h; show (match lg L n with | some (.long x) => _ | _ => False); rw [e]; exact hk _ _ _ _ h
  | lload n => obtain ⟨x, e, h⟩ := inv_lgl h; show (match lg L n with | some (.long x) => _ | _ => False); rw [e]; exact hk _ _ _ _ h
  | aload_n n => obtain ⟨x, e, h⟩ := inv_lgr h; show (match lg L n with | some (.ref x) => _ | _ => False); rw [e]; exact hk _ _ _ _ h
  | aload n => obtain ⟨x, e, h⟩ := inv_lgr h; show (match lg L n with | some (.ref x) => _ | _ => False); rw [e]; exact hk _ _ _ _ h
  | istore_n n => obtain ⟨x, r, rfl, h1, h⟩ := inv_i h; exact ⟨h1, hk _ _ _ _ h⟩
  | istore n => obtain ⟨x, r, rfl, h1, h⟩ := inv_i h; exact ⟨h1, hk _ _ _ _ h⟩
  | astore_n n => obtain ⟨x, r, rfl, h1, h⟩ := inv_r h; exact ⟨h1, hk _ _ _ _ h⟩
  | astore n => obtain ⟨x, r, rfl, h1, h⟩ := inv_r h; exact ⟨h1, hk _ _ _ _ h⟩
  | lstore_n n => obtain ⟨x, r, rfl, h1, h⟩ := inv_l h; exact ⟨h1, hk _ _ _ _ h⟩
  | lstore n => obtain ⟨x, r, rfl, h1, h⟩ := inv_l h; exact ⟨h1, hk _ _ _ _ h⟩
  | iinc n d => obtain ⟨x, e, h⟩ := inv_lgi h; show (match lg L n with | some (.int x) => _ | _ => False); rw [e]; exact hk _ _ _ _ h
  | iadd => obtain ⟨x, y, r, rfl, h⟩ := inv_ii h; exact hk _ _ _ _ h
  | isub => obtain ⟨x, y, r, rfl, h⟩ := inv_ii h; exact hk _ _ _ _ h
  | imul => obtain ⟨x, y, r, rfl, h⟩ := inv_ii h; exact hk _ _ _ _ h
  | iand => obtain ⟨x, y, r, rfl, h⟩ := inv_ii h; exact hk _ _ _ _ h
  | ior => obtain ⟨x, y, r, rfl, h⟩ := inv_ii h; exact hk _ _ _ _ h
  | ishl => obtain ⟨x, y, r, rfl, h⟩ := inv_ii h; exact hk _ _ _ _ h
  | ishr => obtain ⟨x, y, r, rfl, h⟩ := inv_ii h; exact hk _ _ _ _ h
  | iushr => obtain ⟨x, y, r, rfl, h⟩ := inv_ii h; exact hk _ _ _ _ h
  | idiv => obtain ⟨x, y, r, rfl, h1, h⟩ := inv_ii h; exact ⟨h1, hk _ _ _ _ h⟩
  | irem => obtain ⟨x, y, r, rfl, h1, h⟩ := inv_ii h; exact ⟨h1, hk _ _ _ _ h⟩
  | ineg => obtain ⟨x, r, rfl, h⟩ := inv_i h; exact hk _ _ _ _ h
  | ladd => obtain ⟨x, y, r, rfl, h⟩ := inv_ll h; exact hk _ _ _ _ h
  | lsub => obtain ⟨x, y, r, rfl, h⟩ := inv_ll h; exact hk _ _ _ _ h
  | lmul => obtain ⟨x, y, r, rfl, h⟩ := inv_ll h; exact hk _ _ _ _ h
  | lcmp => obtain ⟨x, y, r, rfl, h⟩ := inv_ll h; exact hk _ _ _ _ h
  | lshl => obtain ⟨x, y, r, rfl, h⟩ := inv_il h; exact hk _ _ _ _ h
  | lshr => obtain ⟨x, y, r, rfl, h⟩ := inv_il h; exact hk _ _ _ _ h
  | i2l => obtain ⟨x, r, rfl, h⟩ := inv_i h; exact hk _ _ _ _ h
  | l2i => obtain ⟨x, r, rfl, h⟩ := inv_l h; exact hk _ _ _ _ h
  | i2b => obtain ⟨x, r, rfl, h⟩ := inv_i h; exact hk _ _ _ _ h
  | i2s => obtain ⟨x, r, rfl, h⟩ := inv_i h; exact hk _ _ _ _ h
  | dup => obtain ⟨x, r, rfl, h1, h⟩ := inv_v h; exact ⟨h1, hk _ _ _ _ h⟩
  | pop => obtain ⟨x, r, rfl, h1, h⟩ := inv_v h; exact ⟨h1, hk _ _ _ _ h⟩
  | dup_x1 => obtain ⟨x, y, r, rfl, h1, h⟩ := inv_vv h; exact ⟨h1, hk _ _ _ _ h⟩
  | dup2 => obtain ⟨x, y, r, rfl, h1, h⟩ := inv_vv h; exact ⟨h1, hk _ _ _ _ h⟩
  | ifCond c o => obtain ⟨x, r, t, rfl, rfl, h1, h2⟩ := inv_it h; exact ⟨fun z => hk _ _ _ _ (h1 z), fun z => hk _ _ _ _ (h2 z)⟩
  | if_icmp c o => obtain ⟨x, y, r, t, rfl, rfl, h1, h2⟩ := inv_iit h; exact ⟨fun z => hk _ _ _ _ (h1 z), fun z => hk _ _ _ _ (h2 z)⟩
  | goto o => obtain ⟨t, rfl, h⟩ := inv_t h; exact hk _ _ _ _ h
  | tableswitch d lo hi offs => obtain ⟨x, r, td, ts, rfl, rfl, h⟩ := inv_its h; exact swc_mono (fun t z => hk _ _ _ _ z) (fun z => hk _ _ _ _ z) ts lo h
  | lookupswitch d ps => obtain ⟨x, r, td, ts, rfl, rfl, h⟩ := inv_its h; exact swk_mono (fun t z => hk _ _ _ _ z) (fun z => hk _ _ _ _ z) _ ts h
  | ldc n =>
    have h : (match K.2.1 n with | some v => k (pc + 2) L (.int v :: st) u | none => (match K.2.2.2.2.1 n with | some t => k (pc + 2) L (.ref (wK w t) :: st) u | none => False)) := h
    show (match K.2.1 n with | some v => k' (pc + 2) L (.int v :: st) u | none => (match K.2.2.2.2.1 n with | some t => k' (pc + 2) L (.ref (wK w t) :: st) u | none => False))
    cases e : K.2.1 n with
    | some v => rw [e] at h; exact hk _ _ _ _ h
    | none =>
      rw [e] at h
      cases e2 : K.2.2.2.2.1 n with
      | some v => rw [e2] at h; exact hk _ _ _ _ h
      | none => rw [e2] at h; exact False.elim h
  | ldc_w n =>
    have h : (match K.2.1 n with | some v => k (pc + 3) L (.int v :: st) u | none => False) := h
    show (match K.2.1 n with | some v => k' (pc + 3) L (.int v :: st) u | none => False)
    cases e : K.2.1 n with
    | some v => rw [e] at h; exact hk _ _ _ _ h
    | none => rw [e] at h; exact False.elim h
  | ldc2_w n =>
    have h : (match K.2.2.1 n with | some v => k (pc + 3) L (.long v :: st) u | none => False) := h
    show (match K.2.2.1 n with | some v => k' (pc + 3) L (.long v :: st) u | none => False)
    cases e : K.2.2.1 n with
    | some v => rw [e] at h; exact hk _ _ _ _ h
    | none => rw [e] at h; exact False.elim h
  | getstatic n =>
    have h : (match K.2.2.2.1 n with | some v => k (pc + 3) L (.ref (wA w v) :: st) u | none => False) := h
    show (match K.2.2.2.1 n with | some v => k' (pc + 3) L (.ref (wA w v) :: st) u | none => False)
    cases e : K.2.2.2.1 n with
    | some v => rw [e] at h; exact hk _ _ _ _ h
    | none => rw [e] at h; exact False.elim h
  | getfield n => exact sGet_mono hk h
  | putfield n => exact sPut_mono hk h
  | iaload => obtain ⟨x, a, r, rfl, h1, h⟩ := inv_ir h; exact ⟨h1, hk _ _ _ _ h⟩
  | laload => obtain ⟨x, a, r, rfl, h1, h⟩ := inv_ir h; exact ⟨h1, hk _ _ _ _ h⟩
  | aaload => obtain ⟨x, a, r, rfl, h1, h⟩ := inv_ir h; exact ⟨h1, hk _ _ _ _ h⟩
  | iastore => obtain ⟨v, x, a, r, rfl, h1, h⟩ := inv_iir h; exact ⟨h1, hk _ _ _ _ h⟩
  | lastore => obtain ⟨v, x, a, r, rfl, h1, h⟩ := inv_lir h; exact ⟨h1, hk _ _ _ _ h⟩
  | invokevirtual n =>
    have h : (match K.2.2.2.2.2 (n) with | some cs => (cs.1 ≤ st.length ∧ ((st.drop cs.1).map (fun v => v.category)).sum ≤ 8) ∧ cs.2.1 (st.take cs.1).reverse u ∧ k (pc + 3) L ((cs.2.2 (st.take cs.1).reverse u).1.toList ++ st.drop cs.1) (cs.2.2 (st.take cs.1).reverse u).2 | none => False) := h
    show (match K.2.2.2.2.2 (n) with | some cs => (cs.1 ≤ st.length ∧ ((st.drop cs.1).map (fun v => v.category)).sum ≤ 8) ∧ cs.2.1 (st.take cs.1).reverse u ∧ k' (pc + 3) L ((cs.2.2 (st.take cs.1).reverse u).1.toList ++ st.drop cs.1) (cs.2.2 (st.take cs.1).reverse u).2 | none => False)
    cases e : K.2.2.2.2.2 (n) with
    | some v => rw [e] at h; exact ⟨h.1, h.2.1, hk _ _ _ _ h.2.2⟩
    | none => rw [e] at h; exact False.elim h
  | invokestatic n =>
    have h : (match K.2.2.2.2.2 (n + 65536) with | some cs => (cs.1 ≤ st.length ∧ ((st.drop cs.1).map (fun v => v.category)).sum ≤ 8) ∧ cs.2.1 (st.take cs.1).reverse u ∧ k (pc + 3) L ((cs.2.2 (st.take cs.1).reverse u).1.toList ++ st.drop cs.1) (cs.2.2 (st.take cs.1).reverse u).2 | none => False) := h
    show (match K.2.2.2.2.2 (n + 65536) with | some cs => (cs.1 ≤ st.length ∧ ((st.drop cs.1).map (fun v => v.category)).sum ≤ 8) ∧ cs.2.1 (st.take cs.1).reverse u ∧ k' (pc + 3) L ((cs.2.2 (st.take cs.1).reverse u).1.toList ++ st.drop cs.1) (cs.2.2 (st.take cs.1).reverse u).2 | none => False)
    cases e : K.2.2.2.2.2 (n + 65536) with
    | some v => rw [e] at h; exact ⟨h.1, h.2.1, hk _ _ _ _ h.2.2⟩
    | none => rw [e] at h; exact False.elim h
  | ireturn => exact h
  | lreturn => exact h
  | areturn => exact h
  | return_ => exact h
  | _ => exact False.elim h
section RUN
variable {w : WW} {M : MI} {Q : Option Value → MM → Prop} {K : KT} {pc : Nat} {L : LL} {st : List Value} {u : MM} {tg : List Nat}
theorem rn_iconst {n : Int} (hd : decode M.1 pc = .ok (.iconst n, 1)) (h : stepP w M K Q (.iconst n) tg pc L st u (GG w M Q)) : GG w M Q pc L st u := by
  intro p l e s m args below meth c C H locs ls hP hS hl hL
  have C0 := C
  obtain ⟨hx, hb, hml, hown, hts, hr, hlk, hK, hRO⟩ := C
  exact lv_iconst hx hb hd rfl (h p l e s m args below meth c C0 H locs ls hP hS hl hL)
theorem rn_bipush {n : Int} (hd : decode M.1 pc = .ok (.bipush n, 2)) (h : stepP w M K Q (.bipush n) tg pc L st u (GG w M Q)) : GG w M Q pc L st u := by
  intro p l e s m args below meth c C H locs ls hP hS hl hL
  have C0 := C
  obtain ⟨hx, hb, hml, hown, hts, hr, hlk, hK, hRO⟩ := C
  exact lv_bipush hx hb hd rfl (h p l e s m args below meth c C0 H locs ls hP hS hl hL)
theorem rn_sipush {n : Int} (hd : decode M.1 pc = .ok (.sipush n, 3)) (h : stepP w M K Q (.sipush n) tg pc L st u (GG w M Q)) : GG w M Q pc L st u := by
  intro p l e s m args below meth c C H locs ls hP hS hl hL
  have C0 := C
  obtain ⟨hx, hb, hml, hown, hts, hr, hlk, hK, hRO⟩ := C
  exact lv_sipush hx hb hd rfl (h p l e s m args below meth c C0 H locs ls hP hS hl hL)
theorem rn_lconst {n : Fin 2} (hd : decode M.1 pc = .ok (.lconst n, 1)) (h : stepP w M K Q (.lconst n) tg pc L st u (GG w M Q)) : GG w M Q pc L st u := by
  intro p l e s m args below meth c C H locs ls hP hS hl hL
  have C0 := C
  obtain ⟨hx, hb, hml, hown, hts, hr, hlk, hK, hRO⟩ := C
  exact lv_lconst hx hb hd rfl (h p l e s m args below meth c C0 H locs ls hP hS hl hL)
theorem rn_iload_n {n : Fin 4} (hd : decode M.1 pc = .ok (.iload_n n, 1)) (h : stepP w M K Q (.iload_n n) tg pc L st u (GG w M Q)) : GG w M Q pc L st u := by
  intro p l e s m args below meth c C H locs ls hP hS hl hL
  have C0 := C
  obtain ⟨hx, hb, hml, hown, hts, hr, hlk, hK, hRO⟩ := C
  obtain ⟨x, e1, h⟩ := inv_lgi h
  exact lv_iload_n hx hb hd rfl (hl.2.2 _ _ e1) (h p l e s m args below meth c C0 H locs ls hP hS hl hL)
theorem rn_iload {n : Nat} (hd : decode M.1 pc = .ok (.iload n, 2)) (h : stepP w M K Q (.iload n) tg pc L st u (GG w M Q)) : GG w M Q pc L st u := by
  intro p l e s m args below meth c C H locs ls hP hS hl hL
  have C0 := C
  obtain ⟨hx, hb, hml, hown, hts, hr, hlk, hK, hRO⟩ := C
  obtain ⟨x, e1, h⟩ := inv_lgi h
  exact lv_iload hx hb hd (hl.2.2 _ _ e1) (h p l e s m args below meth c C0 H locs ls hP hS hl hL)
theorem rn_lload_n {n : Fin 4} (hd : decode M.1 pc = .ok (.lload_n n, 1)) (h : stepP w M K Q (.lload_n n) tg pc L st u (GG w M Q)) : GG w M Q pc L st u := by
  intro p l e s m args below meth c C H locs ls hP hS hl hL
  have C0 := C
  obtain ⟨hx, hb, hml, hown, hts, hr, hlk, hK, hRO⟩ := C
  obtain ⟨x, e1, h⟩ := inv_lgl h
  exact lv_lload_n hx hb hd rfl (hl.2.2 _ _ e1) (h p l e s m args below meth c C0 H locs ls hP hS hl hL)
theorem rn_lload {n : Nat} (hd : decode M.1 pc = .ok (.lload n, 2)) (h : stepP w M K Q (.lload n) tg pc L st u (GG w M Q)) : GG w M Q pc L st u := by
  intro p l e s m args below meth c C H locs ls hP hS hl hL
  have C0 := C
  obtain ⟨hx, hb, hml, hown, hts, hr, hlk, hK, hRO⟩ := C
  obtain ⟨x, e1, h⟩ := inv_lgl h
  exact lv_lload hx hb hd (hl.2.2 _ _ e1) (h p l e s m args below meth c C0 H locs ls hP hS hl hL)
theorem rn_aload_n {n : Fin 4} (hd : decode M.1 pc = .ok (.aload_n n, 1)) (h : stepP w M K Q (.aload_n n) tg pc L st u (GG w M Q)) : GG w M Q pc L st u := by
  intro p l e s m args below meth c C H locs ls hP hS hl hL
  have C0 := C
  obtain ⟨hx, hb, hml, hown, hts, hr, hlk, hK, hRO⟩ := C
  obtain ⟨x, e1, h⟩ := inv_lgr h
  exact lv_aload_n hx hb hd rfl (hl.2.2 _ _ e1) (h p l e s m args below meth c C0 H locs ls hP hS hl hL)
theorem rn_aload {n : Nat} (hd : decode M.1 pc = .ok (.aload n, 2)) (h : stepP w M K Q (.aload n) tg pc L st u (GG w M Q)) : GG w M Q pc L st u := by
  intro p l e s m args below meth c C H locs ls hP hS hl hL
  have C0 := C
  obtain ⟨hx, hb, hml, hown, hts, hr, hlk, hK, hRO⟩ := C
  obtain ⟨x, e1, h⟩ := inv_lgr h
  exact lv_aload hx hb hd (hl.2.2 _ _ e1) (h p l e s m args below meth c C0 H locs ls hP hS hl hL)
theorem rn_istore_n {n : Fin 4} (hd : decode M.1 pc = .ok (.istore_n n, 1)) (h : stepP w M K Q (.istore_n n) tg pc L st u (GG w M Q)) : GG w M Q pc L st u := by
  intro p l e s m args below meth c C H locs ls hP hS hl hL
  have C0 := C
  obtain ⟨hx, hb, hml, hown, hts, hr, hlk, hK, hRO⟩ := C
  obtain ⟨x, r, rfl, hn, h⟩ := inv_i h
  exact lv_istore_n hx hb hd rfl (lh_has hl) hn rfl (fun ls' hl' => h p l e s m args below meth c C0 H locs ls' hP hS (lh_st1 (ls := ls) hl') (by rw [ls1_len]; exact hL))
theorem rn_istore {n : Nat} (hd : decode M.1 pc = .ok (.istore n, 2)) (h : stepP w M K Q (.istore n) tg pc L st u (GG w M Q)) : GG w M Q pc L st u := by
  intro p l e s m args below meth c C H locs ls hP hS hl hL
  have C0 := C
  obtain ⟨hx, hb, hml, hown, hts, hr, hlk, hK, hRO⟩ := C
  obtain ⟨x, r, rfl, hn, h⟩ := inv_i h
  exact lv_istore hx hb hd (lh_has hl) hn rfl (fun ls' hl' => h p l e s m args below meth c C0 H locs ls' hP hS (lh_st1 (ls := ls) hl') (by rw [ls1_len]; exact hL))
theorem rn_astore_n {n : Fin 4} (hd : decode M.1 pc = .ok (.astore_n n, 1)) (h : stepP w M K Q (.astore_n n) tg pc L st u (GG w M Q)) : GG w M Q pc L st u := by
  intro p l e s m args below meth c C H locs ls hP hS hl hL
  have C0 := C
  obtain ⟨hx, hb, hml, hown, hts, hr, hlk, hK, hRO⟩ := C
  obtain ⟨x, r, rfl, hn, h⟩ := inv_r h
  exact lv_astore_n hx hb hd rfl (lh_has hl) hn rfl (fun ls' hl' => h p l e s m args below meth c C0 H locs ls' hP hS (lh_st1 (ls := ls) hl') (by rw [ls1_len]; exact hL))
theorem rn_astore {n : Nat} (hd : decode M.1 pc = .ok (.astore n, 2)) (h : stepP w M K Q (.astore n) tg pc L st u (GG w M Q)) : GG w M Q pc L st u := by
  intro p l e s m args below meth c C H locs ls hP hS hl hL
  have C0 := C
  obtain ⟨hx, hb, hml, hown, hts, hr, hlk, hK, hRO⟩ := C
  obtain ⟨x, r, rfl, hn, h⟩ := inv_r h
  exact lv_astore hx hb hd (lh_has hl) hn rfl (fun ls' hl' => h p l e s m args below meth c C0 H locs ls' hP hS (lh_st1 (ls := ls) hl') (by rw [ls1_len]; exact hL))
theorem rn_lstore_n {n : Fin 4} (hd : decode M.1 pc = .ok (.lstore_n n, 1)) (h : stepP w M K Q (.lstore_n n) tg pc L st u (GG w M Q)) : GG w M Q pc L st u := by
  intro p l e s m args below meth c C H locs ls hP hS hl hL
  have C0 := C
  obtain ⟨hx, hb, hml, hown, hts, hr, hlk, hK, hRO⟩ := C
  obtain ⟨x, r, rfl, hn, h⟩ := inv_l h
  exact lv_lstore_n hx hb hd rfl (lh_has hl) hn rfl (fun ls' hl' => h p l e s m args below meth c C0 H locs ls' hP hS (lh_st2 (ls := ls) hl') (by rw [ls2_len]; exact hL))
theorem rn_lstore {n : Nat} (hd : decode M.1 pc = .ok (.lstore n, 2)) (h : stepP w M K Q (.lstore n) tg pc L st u (GG w M Q)) : GG w M Q pc L st u := by
  intro p l e s m args below meth c C H locs ls hP hS hl hL
  have C0 := C
  obtain ⟨hx, hb, hml, hown, hts, hr, hlk, hK, hRO⟩ := C
  obtain ⟨x, r, rfl, hn, h⟩ := inv_l h
  exact lv_lstore hx hb hd (lh_has hl) hn rfl (fun ls' hl' => h p l e s m args below meth c C0 H locs ls' hP hS (lh_st2 (ls := ls) hl') (by rw [ls2_len]; exact hL))
theorem rn_iinc {n : Nat} {d : Int} (hd : decode M.1 pc = .ok (.iinc n d, 3)) (h : stepP w M K Q (.iinc n d) tg pc L st u (GG w M Q)) : GG w M Q pc L st u := by
  intro p l e s m args below meth c C H locs ls hP hS hl hL
  have C0 := C
  obtain ⟨hx, hb, hml, hown, hts, hr, hlk, hK, hRO⟩ := C
  obtain ⟨x, e1, h⟩ := inv_lgi h
  obtain ⟨k, hk⟩ := List.getElem?_of_mem ((prs_mem (q := (n, .int x))).mpr e1)
  exact lv_iinc hx hb hd (lh_has hl) hk rfl (lg_lt e1) rfl (fun ls' hl' => h p l e s m args below meth c C0 H locs ls' hP hS (lh_st1 (ls := ls) hl') (by rw [ls1_len]; exact hL))
theorem rn_iadd (hd : decode M.1 pc = .ok (.iadd, 1)) (h : stepP w M K Q (.iadd) tg pc L st u (GG w M Q)) : GG w M Q pc L st u := by
  intro p l e s m args below meth c C H locs ls hP hS hl hL
  have C0 := C
  obtain ⟨hx, hb, hml, hown, hts, hr, hlk, hK, hRO⟩ := C
  obtain ⟨x, y, r, rfl, h⟩ := inv_ii h
  exact lv_iadd hx hb hd (h p l e s m args below meth c C0 H locs ls hP hS hl hL)
theorem rn_isub (hd : decode M.1 pc = .ok (.isub, 1)) (h : stepP w M K Q (.isub) tg pc L st u (GG w M Q)) : GG w M Q pc L st u := by
  intro p l e s m args below meth c C H locs ls hP hS hl hL
  have C0 := C
  obtain ⟨hx, hb, hml, hown, hts, hr, hlk, hK, hRO⟩ := C
  obtain ⟨x, y, r, rfl, h⟩ := inv_ii h
  exact lv_isub hx hb hd (h p l e s m args below meth c C0 H locs ls hP hS hl hL)
theorem rn_imul (hd : decode M.1 pc = .ok (.imul, 1)) (h : stepP w M K Q (.imul) tg pc L st u (GG w M Q)) : GG w M Q pc L st u := by
  intro p l e s m args below meth c C H locs ls hP hS hl hL
  have C0 := C
  obtain ⟨hx, hb, hml, hown, hts, hr, hlk, hK, hRO⟩ := C
  obtain ⟨x, y, r, rfl, h⟩ := inv_ii h
  exact lv_imul hx hb hd (h p l e s m args below meth c C0 H locs ls hP hS hl hL)
theorem rn_iand (hd : decode M.1 pc = .ok (.iand, 1)) (h : stepP w M K Q (.iand) tg pc L st u (GG w M Q)) : GG w M Q pc L st u := by
  intro p l e s m args below meth c C H locs ls hP hS hl hL
  have C0 := C
  obtain ⟨hx, hb, hml, hown, hts, hr, hlk, hK, hRO⟩ := C
  obtain ⟨x, y, r, rfl, h⟩ := inv_ii h
  exact lv_iand hx hb hd (h p l e s m args below meth c C0 H locs ls hP hS hl hL)
theorem rn_ior (hd : decode M.1 pc = .ok (.ior, 1)) (h : stepP w M K Q (.ior) tg pc L st u (GG w M Q)) : GG w M Q pc L st u := by
  intro p l e s m args below meth c C H locs ls hP hS hl hL
  have C0 := C
  obtain ⟨hx, hb, hml, hown, hts, hr, hlk, hK, hRO⟩ := C
  obtain ⟨x, y, r, rfl, h⟩ := inv_ii h
  exact lv_ior hx hb hd (h p l e s m args below meth c C0 H locs ls hP hS hl hL)
theorem rn_ishl (hd : decode M.1 pc = .ok (.ishl, 1)) (h : stepP w M K Q (.ishl) tg pc L st u (GG w M Q)) : GG w M Q pc L st u := by
  intro p l e s m args below meth c C H locs ls hP hS hl hL
  have C0 := C
  obtain ⟨hx, hb, hml, hown, hts, hr, hlk, hK, hRO⟩ := C
  obtain ⟨x, y, r, rfl, h⟩ := inv_ii h
  exact lv_ishl hx hb hd (h p l e s m args below meth c C0 H locs ls hP hS hl hL)
theorem rn_ishr (hd : decode M.1 pc = .ok (.ishr, 1)) (h : stepP w M K Q (.ishr) tg pc L st u (GG w M Q)) : GG w M Q pc L st u := by
  intro p l e s m args below meth c C H locs ls hP hS hl hL
  have C0 := C
  obtain ⟨hx, hb, hml, hown, hts, hr, hlk, hK, hRO⟩ := C
  obtain ⟨x, y, r, rfl, h⟩ := inv_ii h
  exact lv_ishr hx hb hd (h p l e s m args below meth c C0 H locs ls hP hS hl hL)
theorem rn_idiv (hd : decode M.1 pc = .ok (.idiv, 1)) (h : stepP w M K Q (.idiv) tg pc L st u (GG w M Q)) : GG w M Q pc L st u := by
  intro p l e s m args below meth c C H locs ls hP hS hl hL
  have C0 := C
  obtain ⟨hx, hb, hml, hown, hts, hr, hlk, hK, hRO⟩ := C
  obtain ⟨x, y, r, rfl, hn, h⟩ := inv_ii h
  exact lv_idiv hx hb hd hn (h p l e s m args below meth c C0 H locs ls hP hS hl hL)
theorem rn_irem (hd : decode M.1 pc = .ok (.irem, 1)) (h : stepP w M K Q (.irem) tg pc L st u (GG w M Q)) : GG w M Q pc L st u := by
  intro p l e s m args below meth c C H locs ls hP hS hl hL
  have C0 := C
  obtain ⟨hx, hb, hml, hown, hts, hr, hlk, hK, hRO⟩ := C
  obtain ⟨x, y, r, rfl, hn, h⟩ := inv_ii h
  exact lv_irem hx hb hd hn (h p l e s m args below meth c C0 H locs ls hP hS hl hL)
theorem rn_iushr (hd : decode M.1 pc = .ok (.iushr, 1)) (h : stepP w M K Q (.iushr) tg pc L st u (GG w M Q)) : GG w M Q pc L st u := by
  intro p l e s m args below meth c C H locs ls hP hS hl hL
  have C0 := C
  obtain ⟨hx, hb, hml, hown, hts, hr, hlk, hK, hRO⟩ := C
  obtain ⟨x, y, r, rfl, h⟩ := inv_ii h
  exact lv_iushr hx hb hd rfl (h p l e s m args below meth c C0 H locs ls hP hS hl hL)
theorem rn_ineg (hd : decode M.1 pc = .ok (.ineg, 1)) (h : stepP w M K Q (.ineg) tg pc L st u (GG w M Q)) : GG w M Q pc L st u := by
  intro p l e s m args below meth c C H locs ls hP hS hl hL
  have C0 := C
  obtain ⟨hx, hb, hml, hown, hts, hr, hlk, hK, hRO⟩ := C
  obtain ⟨x, r, rfl, h⟩ := inv_i h
  exact lv_ineg hx hb hd (h p l e s m args below meth c C0 H locs ls hP hS hl hL)
theorem rn_ladd (hd : decode M.1 pc = .ok (.ladd, 1)) (h : stepP w M K Q (.ladd) tg pc L st u (GG w M Q)) : GG w M Q pc L st u := by
  intro p l e s m args below meth c C H locs ls hP hS hl hL
  have C0 := C
  obtain ⟨hx, hb, hml, hown, hts, hr, hlk, hK, hRO⟩ := C
  obtain ⟨x, y, r, rfl, h⟩ := inv_ll h
  exact lv_ladd hx hb hd (h p l e s m args below meth c C0 H locs ls hP hS hl hL)
theorem rn_lsub (hd : decode M.1 pc = .ok (.lsub, 1)) (h : stepP w M K Q (.lsub) tg pc L st u (GG w M Q)) : GG w M Q pc L st u := by
  intro p l e s m args below meth c C H locs ls hP hS hl hL
  have C0 := C
  obtain ⟨hx, hb, hml, hown, hts, hr, hlk, hK, hRO⟩ := C
  obtain ⟨x, y, r, rfl, h⟩ := inv_ll h
  exact lv_lsub hx hb hd (h p l e s m args below meth c C0 H locs ls hP hS hl hL)
theorem rn_lmul (hd : decode M.1 pc = .ok (.lmul, 1)) (h : stepP w M K Q (.lmul) tg pc L st u (GG w M Q)) : GG w M Q pc L st u := by
  intro p l e s m args below meth c C H locs ls hP hS hl hL
  have C0 := C
  obtain ⟨hx, hb, hml, hown, hts, hr, hlk, hK, hRO⟩ := C
  obtain ⟨x, y, r, rfl, h⟩ := inv_ll h
  exact lv_lmul hx hb hd (h p l e s m args below meth c C0 H locs ls hP hS hl hL)
theorem rn_lshl (hd : decode M.1 pc = .ok (.lshl, 1)) (h : stepP w M K Q (.lshl) tg pc L st u (GG w M Q)) : GG w M Q pc L st u := by
  intro p l e s m args below meth c C H locs ls hP hS hl hL
  have C0 := C
  obtain ⟨hx, hb, hml, hown, hts, hr, hlk, hK, hRO⟩ := C
  obtain ⟨x, y, r, rfl, h⟩ := inv_il h
  exact lv_lshl hx hb hd rfl (h p l e s m args below meth c C0 H locs ls hP hS hl hL)
theorem rn_lshr (hd : decode M.1 pc = .ok (.lshr, 1)) (h : stepP w M K Q (.lshr) tg pc L st u (GG w M Q)) : GG w M Q pc L st u := by
  intro p l e s m args below meth c C H locs ls hP hS hl hL
  have C0 := C
  obtain ⟨hx, hb, hml, hown, hts, hr, hlk, hK, hRO⟩ := C
  obtain ⟨x, y, r, rfl, h⟩ := inv_il h
  exact lv_lshr hx hb hd rfl (h p l e s m args below meth c C0 H locs ls hP hS hl hL)
theorem rn_lcmp (hd : decode M.1 pc = .ok (.lcmp, 1)) (h : stepP w M K Q (.lcmp) tg pc L st u (GG w M Q)) : GG w M Q pc L st u := by
  intro p l e s m args below meth c C H locs ls hP hS hl hL
  have C0 := C
  obtain ⟨hx, hb, hml, hown, hts, hr, hlk, hK, hRO⟩ := C
  obtain ⟨x, y, r, rfl, h⟩ := inv_ll h
  exact W.lcmp hx hb hd (h p l e s m args below meth c C0 H locs ls hP hS hl hL)
theorem rn_i2l (hd : decode M.1 pc = .ok (.i2l, 1)) (h : stepP w M K Q (.i2l) tg pc L st u (GG w M Q)) : GG w M Q pc L st u := by
  intro p l e s m args below meth c C H locs ls hP hS hl hL
  have C0 := C
  obtain ⟨hx, hb, hml, hown, hts, hr, hlk, hK, hRO⟩ := C
  obtain ⟨x, r, rfl, h⟩ := inv_i h
  exact lv_i2l hx hb hd rfl (h p l e s m args below meth c C0 H locs ls hP hS hl hL)
theorem rn_l2i (hd : decode M.1 pc = .ok (.l2i, 1)) (h : stepP w M K Q (.l2i) tg pc L st u (GG w M Q)) : GG w M Q pc L st u := by
  intro p l e s m args below meth c C H locs ls hP hS hl hL
  have C0 := C
  obtain ⟨hx, hb, hml, hown, hts, hr, hlk, hK, hRO⟩ := C
  obtain ⟨x, r, rfl, h⟩ := inv_l h
  exact lv_l2i hx hb hd rfl (h p l e s m args below meth c C0 H locs ls hP hS hl hL)
theorem rn_i2b (hd : decode M.1 pc = .ok (.i2b, 1)) (h : stepP w M K Q (.i2b) tg pc L st u (GG w M Q)) : GG w M Q pc L st u := by
  intro p l e s m args below meth c C H locs ls hP hS hl hL
  have C0 := C
  obtain ⟨hx, hb, hml, hown, hts, hr, hlk, hK, hRO⟩ := C
  obtain ⟨x, r, rfl, h⟩ := inv_i h
  exact lv_i2b hx hb hd rfl (h p l e s m args below meth c C0 H locs ls hP hS hl hL)
theorem rn_i2s (hd : decode M.1 pc = .ok (.i2s, 1)) (h : stepP w M K Q (.i2s) tg pc L st u (GG w M Q)) : GG w M Q pc L st u := by
  intro p l e s m args below meth c C H locs ls hP hS hl hL
  have C0 := C
  obtain ⟨hx, hb, hml, hown, hts, hr, hlk, hK, hRO⟩ := C
  obtain ⟨x, r, rfl, h⟩ := inv_i h
  exact lv_i2s hx hb hd rfl (h p l e s m args below meth c C0 H locs ls hP hS hl hL)
theorem rn_dup (hd : decode M.1 pc = .ok (.dup, 1)) (h : stepP w M K Q (.dup) tg pc L st u (GG w M Q)) : GG w M Q pc L st u := by
  intro p l e s m args below meth c C H locs ls hP hS hl hL
  have C0 := C
  obtain ⟨hx, hb, hml, hown, hts, hr, hlk, hK, hRO⟩ := C
  obtain ⟨x, r, rfl, h1, h⟩ := inv_v h
  exact lv_dup hx hb hd h1 (h p l e s m args below meth c C0 H locs ls hP hS hl hL)
theorem rn_pop (hd : decode M.1 pc = .ok (.pop, 1)) (h : stepP w M K Q (.pop) tg pc L st u (GG w M Q)) : GG w M Q pc L st u := by
  intro p l e s m args below meth c C H locs ls hP hS hl hL
  have C0 := C
  obtain ⟨hx, hb, hml, hown, hts, hr, hlk, hK, hRO⟩ := C
  obtain ⟨x, r, rfl, h1, h⟩ := inv_v h
  exact lv_pop hx hb hd h1 (h p l e s m args below meth c C0 H locs ls hP hS hl hL)
theorem rn_dup_x1 (hd : decode M.1 pc = .ok (.dup_x1, 1)) (h : stepP w M K Q (.dup_x1) tg pc L st u (GG w M Q)) : GG w M Q pc L st u := by
  intro p l e s m args below meth c C H locs ls hP hS hl hL
  have C0 := C
  obtain ⟨hx, hb, hml, hown, hts, hr, hlk, hK, hRO⟩ := C
  obtain ⟨x, y, r, rfl, ⟨h1, h2⟩, h⟩ := inv_vv h
  exact lv_dup_x1 hx hb hd h1 h2 (h p l e s m args below meth c C0 H locs ls hP hS hl hL)
theorem rn_dup2 (hd : decode M.1 pc = .ok (.dup2, 1)) (h : stepP w M K Q (.dup2) tg pc L st u (GG w M Q)) : GG w M Q pc L st u := by
  intro p l e s m args below meth c C H locs ls hP hS hl hL
  have C0 := C
  obtain ⟨hx, hb, hml, hown, hts, hr, hlk, hK, hRO⟩ := C
  obtain ⟨x, y, r, rfl, ⟨h1, h2⟩, h⟩ := inv_vv h
  exact lv_dup2_11 hx hb hd h1 h2 (h p l e s m args below meth c C0 H locs ls hP hS hl hL)
theorem rn_if_eq {o : Int} (hg : tgOk pc (.ifCond .eq o) tg = true) (hd : decode M.1 pc = .ok (.ifCond .eq o, 3)) (h : stepP w M K Q (.ifCond .eq o) tg pc L st u (GG w M Q)) : GG w M Q pc L st u := by
  intro p l e s m args below meth c C H locs ls hP hS hl hL
  have C0 := C
  obtain ⟨hx, hb, hml, hown, hts, hr, hlk, hK, hRO⟩ := C
  obtain ⟨x, r, t, rfl, rfl, h1, h2⟩ := inv_it h
  exact lv_if_eq hx hb hd (tg1 hg) (fun z => h1 z p l e s m args below meth c C0 H locs ls hP hS hl hL) (fun z => h2 z p l e s m args below meth c C0 H locs ls hP hS hl hL)
theorem rn_icmp_eq {o : Int} (hg : tgOk pc (.if_icmp .eq o) tg = true) (hd : decode M.1 pc = .ok (.if_icmp .eq o, 3)) (h : stepP w M K Q (.if_icmp .eq o) tg pc L st u (GG w M Q)) : GG w M Q pc L st u := by
  intro p l e s m args below meth c C H locs ls hP hS hl hL
  have C0 := C
  obtain ⟨hx, hb, hml, hown, hts, hr, hlk, hK, hRO⟩ := C
  obtain ⟨x, y, r, t, rfl, rfl, h1, h2⟩ := inv_iit h
  exact lv_icmp_eq hx hb hd (tg1 hg) (fun z => h1 z p l e s m args below meth c C0 H locs ls hP hS hl hL) (fun z => h2 z p l e s m args below meth c C0 H locs ls hP hS hl hL)
theorem rn_if_ne {o : Int} (hg : tgOk pc (.ifCond .ne o) tg = true) (hd : decode M.1 pc = .ok (.ifCond .ne o, 3)) (h : stepP w M K Q (.ifCond .ne o) tg pc L st u (GG w M Q)) : GG w M Q pc L st u := by
  intro p l e s m args below meth c C H locs ls hP hS hl hL
  have C0 := C
  obtain ⟨hx, hb, hml, hown, hts, hr, hlk, hK, hRO⟩ := C
  obtain ⟨x, r, t, rfl, rfl, h1, h2⟩ := inv_it h
  exact lv_if_ne hx hb hd (tg1 hg) (fun z => h1 z p l e s m args below meth c C0 H locs ls hP hS hl hL) (fun z => h2 (fun q => q z) p l e s m args below meth c C0 H locs ls hP hS hl hL)
theorem rn_icmp_ne {o : Int} (hg : tgOk pc (.if_icmp .ne o) tg = true) (hd : decode M.1 pc = .ok (.if_icmp .ne o, 3)) (h : stepP w M K Q (.if_icmp .ne o) tg pc L st u (GG w M Q)) : GG w M Q pc L st u := by
  intro p l e s m args below meth c C H locs ls hP hS hl hL
  have C0 := C
  obtain ⟨hx, hb, hml, hown, hts, hr, hlk, hK, hRO⟩ := C
  obtain ⟨x, y, r, t, rfl, rfl, h1, h2⟩ := inv_iit h
  exact lv_icmp_ne hx hb hd (tg1 hg) (fun z => h1 z p l e s m args below meth c C0 H locs ls hP hS hl hL) (fun z => h2 (fun q => q z) p l e s m args below meth c C0 H locs ls hP hS hl hL)
theorem rn_if_lt {o : Int} (hg : tgOk pc (.ifCond .lt o) tg = true) (hd : decode M.1 pc = .ok (.ifCond .lt o, 3)) (h : stepP w M K Q (.ifCond .lt o) tg pc L st u (GG w M Q)) : GG w M Q pc L st u := by
  intro p l e s m args below meth c C H locs ls hP hS hl hL
  have C0 := C
  obtain ⟨hx, hb, hml, hown, hts, hr, hlk, hK, hRO⟩ := C
  obtain ⟨x, r, t, rfl, rfl, h1, h2⟩ := inv_it h
  exact lv_if_lt hx hb hd (tg1 hg) (fun z => h1 z p l e s m args below meth c C0 H locs ls hP hS hl hL) (fun z => h2 z p l e s m args below meth c C0 H locs ls hP hS hl hL)
theorem rn_icmp_lt {o : Int} (hg : tgOk pc (.if_icmp .lt o) tg = true) (hd : decode M.1 pc = .ok (.if_icmp .lt o, 3)) (h : stepP w M K Q (.if_icmp .lt o) tg pc L st u (GG w M Q)) : GG w M Q pc L st u := by
  intro p l e s m args below meth c C H locs ls hP hS hl hL
  have C0 := C
  obtain ⟨hx, hb, hml, hown, hts, hr, hlk, hK, hRO⟩ := C
  obtain ⟨x, y, r, t, rfl, rfl, h1, h2⟩ := inv_iit h
  exact lv_icmp_lt hx hb hd (tg1 hg) (fun z => h1 z p l e s m args below meth c C0 H locs ls hP hS hl hL) (fun z => h2 z p l e s m args below meth c C0 H locs ls hP hS hl hL)
theorem rn_if_ge {o : Int} (hg : tgOk pc (.ifCond .ge o) tg = true) (hd : decode M.1 pc = .ok (.ifCond .ge o, 3)) (h : stepP w M K Q (.ifCond .ge o) tg pc L st u (GG w M Q)) : GG w M Q pc L st u := by
  intro p l e s m args below meth c C H locs ls hP hS hl hL
  have C0 := C
  obtain ⟨hx, hb, hml, hown, hts, hr, hlk, hK, hRO⟩ := C
  obtain ⟨x, r, t, rfl, rfl, h1, h2⟩ := inv_it h
  exact lv_if_ge hx hb hd (tg1 hg) (fun z => h1 z p l e s m args below meth c C0 H locs ls hP hS hl hL) (fun z => h2 z p l e s m args below meth c C0 H locs ls hP hS hl hL)
theorem rn_icmp_ge {o : Int} (hg : tgOk pc (.if_icmp .ge o) tg = true) (hd : decode M.1 pc = .ok (.if_icmp .ge o, 3)) (h : stepP w M K Q (.if_icmp .ge o) tg pc L st u (GG w M Q)) : GG w M Q pc L st u := by
  intro p l e s m args below meth c C H locs ls hP hS hl hL
  have C0 := C
  obtain ⟨hx, hb, hml, hown, hts, hr, hlk, hK, hRO⟩ := C
  obtain ⟨x, y, r, t, rfl, rfl, h1, h2⟩ := inv_iit h
  exact lv_icmp_ge hx hb hd (tg1 hg) (fun z => h1 z p l e s m args below meth c C0 H locs ls hP hS hl hL) (fun z => h2 z p l e s m args below meth c C0 H locs ls hP hS hl hL)
theorem rn_if_gt {o : Int} (hg : tgOk pc (.ifCond .gt o) tg = true) (hd : decode M.1 pc = .ok (.ifCond .gt o, 3)) (h : stepP w M K Q (.ifCond .gt o) tg pc L st u (GG w M Q)) : GG w M Q pc L st u := by
  intro p l e s m args below meth c C H locs ls hP hS hl hL
  have C0 := C
  obtain ⟨hx, hb, hml, hown, hts, hr, hlk, hK, hRO⟩ := C
  obtain ⟨x, r, t, rfl, rfl, h1, h2⟩ := inv_it h
  exact lv_if_gt hx hb hd (tg1 hg) (fun z => h1 z p l e s m args below meth c C0 H locs ls hP hS hl hL) (fun z => h2 z p l e s m args below meth c C0 H locs ls hP hS hl hL)
theorem rn_icmp_gt {o : Int} (hg : tgOk pc (.if_icmp .gt o) tg = true) (hd : decode M.1 pc = .ok (.if_icmp .gt o, 3)) (h : stepP w M K Q (.if_icmp .gt o) tg pc L st u (GG w M Q)) : GG w M Q pc L st u := by
  intro p l e s m args below meth c C H locs ls hP hS hl hL
  have C0 := C
  obtain ⟨hx, hb, hml, hown, hts, hr, hlk, hK, hRO⟩ := C
  obtain ⟨x, y, r, t, rfl, rfl, h1, h2⟩ := inv_iit h
  exact lv_icmp_gt hx hb hd (tg1 hg) (fun z => h1 z p l e s m args below meth c C0 H locs ls hP hS hl hL) (fun z => h2 z p l e s m args below meth c C0 H locs ls hP hS hl hL)
theorem rn_if_le {o : Int} (hg : tgOk pc (.ifCond .le o) tg = true) (hd : decode M.1 pc = .ok (.ifCond .le o, 3)) (h : stepP w M K Q (.ifCond .le o) tg pc L st u (GG w M Q)) : GG w M Q pc L st u := by
  intro p l e s m args below meth c C H locs ls hP hS hl hL
  have C0 := C
  obtain ⟨hx, hb, hml, hown, hts, hr, hlk, hK, hRO⟩ := C
  obtain ⟨x, r, t, rfl, rfl, h1, h2⟩ := inv_it h
  exact lv_if_le hx hb hd (tg1 hg) (fun z => h1 z p l e s m args below meth c C0 H locs ls hP hS hl hL) (fun z => h2 z p l e s m args below meth c C0 H locs ls hP hS hl hL)
theorem rn_icmp_le {o : Int} (hg : tgOk pc (.if_icmp .le o) tg = true) (hd : decode M.1 pc = .ok (.if_icmp .le o, 3)) (h : stepP w M K Q (.if_icmp .le o) tg pc L st u (GG w M Q)) : GG w M Q pc L st u := by
  intro p l e s m args below meth c C H locs ls hP hS hl hL
  have C0 := C
  obtain ⟨hx, hb, hml, hown, hts, hr, hlk, hK, hRO⟩ := C
  obtain ⟨x, y, r, t, rfl, rfl, h1, h2⟩ := inv_iit h
  exact lv_icmp_le hx hb hd (tg1 hg) (fun z => h1 z p l e s m args below meth c C0 H locs ls hP hS hl hL) (fun z => h2 z p l e s m args below meth c C0 H locs ls hP hS hl hL)
theorem rn_goto {o : Int} (hg : tgOk pc (.goto o) tg = true) (hd : decode M.1 pc = .ok (.goto o, 3)) (h : stepP w M K Q (.goto o) tg pc L st u (GG w M Q)) : GG w M Q pc L st u := by
  intro p l e s m args below meth c C H locs ls hP hS hl hL
  have C0 := C
  obtain ⟨hx, hb, hml, hown, hts, hr, hlk, hK, hRO⟩ := C
  obtain ⟨t, rfl, h⟩ := inv_t h
  exact lv_goto hx hb hd (tg1 hg) (h p l e s m args below meth c C0 H locs ls hP hS hl hL)
theorem rn_tsw {d lo hi : Int} {offs : Array Int} {len : Nat} (hg : tgOk pc (.tableswitch d lo hi offs) tg = true) (hd : decode M.1 pc = .ok (.tableswitch d lo hi offs, len)) (h : stepP w M K Q (.tableswitch d lo hi offs) tg pc L st u (GG w M Q)) : GG w M Q pc L st u := by
  intro p l e s m args below meth c C H locs ls hP hS hl hL
  have C0 := C
  obtain ⟨hx, hb, hml, hown, hts, hr, hlk, hK, hRO⟩ := C
  obtain ⟨x, r, td, ts, rfl, rfl, h⟩ := inv_its h
  simp only [tgOk, Bool.and_eq_true, decide_eq_true_eq] at hg
  obtain ⟨⟨⟨g1, g2⟩, g3⟩, g4⟩ := hg
  have hlen := tgs_len g1
  simp only [List.length_cons, Array.length_toList] at hlen
  obtain ⟨k1, k2⟩ := swc_out ts lo g2 (by omega) h
  obtain ⟨o0, e0, e1⟩ := tgs_at g1 (j := 0) (t := td) rfl
  simp only [List.getElem?_cons_zero, Option.some.injEq] at e0
  subst e0
  by_cases q : x.toInt < lo ∨ hi < x.toInt
  · exact lv_tableOut hx hb hd q e1 (k2 (by omega) p l e s m args below meth c C0 H locs ls hP hS hl hL)
  · have q1 : ¬ x.toInt < lo := fun z => q (Or.inl z)
    have q2 : ¬ hi < x.toInt := fun z => q (Or.inr z)
    have hj : (x.toInt - lo).toNat < ts.length := by omega
    have ht : ts[(x.toInt - lo).toNat]? = some ts[(x.toInt - lo).toNat] := List.getElem?_eq_getElem hj
    obtain ⟨o1, e2, e3⟩ := tgs_at g1 (j := (x.toInt - lo).toNat + 1) (by rw [List.getElem?_cons_succ]; exact ht)
    rw [List.getElem?_cons_succ] at e2
    exact lv_tableIn hx hb hd q1 q2 (by simpa using e2) e3 (k1 _ _ ht (by omega) p l e s m args below meth c C0 H locs ls hP hS hl hL)
theorem rn_lsw {d : Int} {ps : Array (Int × Int)} {len : Nat} (hg : tgOk pc (.lookupswitch d ps) tg = true) (hd : decode M.1 pc = .ok (.lookupswitch d ps, len)) (h : stepP w M K Q (.lookupswitch d ps) tg pc L st u (GG w M Q)) : GG w M Q pc L st u := by
  intro p l e s m args below meth c C H locs ls hP hS hl hL
  have C0 := C
  obtain ⟨hx, hb, hml, hown, hts, hr, hlk, hK, hRO⟩ := C
  obtain ⟨x, r, td, ts, rfl, rfl, h⟩ := inv_its h
  simp only [tgOk, Bool.and_eq_true] at hg
  obtain ⟨⟨g1, g2⟩, g3⟩ := hg
  simp only [tgOs, Bool.and_eq_true, tgO, decide_eq_true_eq] at g1
  rcases swk_off g1.1 ps.toList ts g3 g1.2 h with ⟨t, e1, k1⟩ | ⟨e1, k1⟩
  · exact lv_lookup hx hb hd g2 rfl e1 (k1 p l e s m args below meth c C0 H locs ls hP hS hl hL)
  · exact lv_lookup hx hb hd g2 rfl e1 (k1 p l e s m args below meth c C0 H locs ls hP hS hl hL)
theorem rn_ldc {n : Nat} (hK0 : KOk w M K) (hd : decode M.1 pc = .ok (.ldc n, 2)) (h : stepP w M K Q (.ldc n) tg pc L st u (GG w M Q)) : GG w M Q pc L st u := by
  intro p l e s m args below meth c C H locs ls hP hS hl hL
  have C0 := C
  obtain ⟨hx, hb, hml, hown, hts, hr, hlk, hK, hRO⟩ := C
  have h : (match K.2.1 n with | some v => GG w M Q (pc + 2) L (.int v :: st) u | none => (match K.2.2.2.2.1 n with | some t => GG w M Q (pc + 2) L (.ref (wK w t) :: st) u | none => False)) := h
  cases e1 : K.2.1 n with
  | some v =>
    rw [e1] at h
    exact lv_ldc hx hb hown (hts _ (hK0.2.1 n v e1)) hd (h p l e s m args below meth c C0 H locs ls hP hS hl hL)
  | none =>
    rw [e1] at h
    have h : (match K.2.2.2.2.1 n with | some t => GG w M Q (pc + 2) L (.ref (wK w t) :: st) u | none => False) := h
    cases e2 : K.2.2.2.2.1 n with
    | none => rw [e2] at h; exact False.elim h
    | some t =>
      rw [e2] at h
      obtain ⟨t1, t2, t3⟩ := hK0.2.2.2.2.1 n t e2
      have hz := hRO.2.1 t t1
      rw [t3, ← t2] at hz
      exact va_ldcS hx hb hown hz hd (h p l e s m args below meth c C0 H locs ls hP hS hl hL)
theorem rn_ldcw {n : Nat} (hK0 : KOk w M K) (hd : decode M.1 pc = .ok (.ldc_w n, 3)) (h : stepP w M K Q (.ldc_w n) tg pc L st u (GG w M Q)) : GG w M Q pc L st u := by
  intro p l e s m args below meth c C H locs ls hP hS hl hL
  have C0 := C
  obtain ⟨hx, hb, hml, hown, hts, hr, hlk, hK, hRO⟩ := C
  have h : (match K.2.1 n with | some v => GG w M Q (pc + 3) L (.int v :: st) u | none => False) := h
  cases e1 : K.2.1 n with
  | none => rw [e1] at h; exact False.elim h
  | some v =>
    rw [e1] at h
    exact lv_ldcw hx hb hown (hts _ (hK0.2.1 n v e1)) hd (h p l e s m args below meth c C0 H locs ls hP hS hl hL)
theorem rn_ldc2 {n : Nat} (hK0 : KOk w M K) (hd : decode M.1 pc = .ok (.ldc2_w n, 3)) (h : stepP w M K Q (.ldc2_w n) tg pc L st u (GG w M Q)) : GG w M Q pc L st u := by
  intro p l e s m args below meth c C H locs ls hP hS hl hL
  have C0 := C
  obtain ⟨hx, hb, hml, hown, hts, hr, hlk, hK, hRO⟩ := C
  have h : (match K.2.2.1 n with | some v => GG w M Q (pc + 3) L (.long v :: st) u | none => False) := h
  cases e1 : K.2.2.1 n with
  | none => rw [e1] at h; exact False.elim h
  | some v =>
    rw [e1] at h
    exact lv_ldc2 hx hb hown (hts _ (hK0.2.2.1 n v e1)) hd (h p l e s m args below meth c C0 H locs ls hP hS hl hL)
theorem rn_gets {n : Nat} (hK0 : KOk w M K) (hd : decode M.1 pc = .ok (.getstatic n, 3)) (h : stepP w M K Q (.getstatic n) tg pc L st u (GG w M Q)) : GG w M Q pc L st u := by
  intro p l e s m args below meth c C H locs ls hP hS hl hL
  have C0 := C
  obtain ⟨hx, hb, hml, hown, hts, hr, hlk, hK, hRO⟩ := C
  have h : (match K.2.2.2.1 n with | some t => GG w M Q (pc + 3) L (.ref (wA w t) :: st) u | none => False) := h
  cases e1 : K.2.2.2.1 n with
  | none => rw [e1] at h; exact False.elim h
  | some t =>
    rw [e1] at h
    obtain ⟨t1, t2, t3⟩ := hK0.2.2.2.1 n t e1
    obtain ⟨z1, -, z2, -⟩ := hRO.1 t t1
    rw [t3] at z2
    exact va_getsN hx hb z1 hS (own := M.2.2.2.1) hown (by rw [t2]; exact va_Nw.use rfl z2) (fun _ z => z) hd (h p l e s m args below meth c C0 H locs ls hP hS hl hL)
theorem rn_invv {n : Nat} (hn : n < 65536) (hK0 : KOk w M K) (hd : decode M.1 pc = .ok (.invokevirtual n, 3)) (h : stepP w M K Q (.invokevirtual n) tg pc L st u (GG w M Q)) : GG w M Q pc L st u := by
  intro p l e s m args below meth c C H locs ls hP hS hl hL
  have C0 := C
  obtain ⟨hx, hb, hml, hown, hts, hr, hlk, hK, hRO⟩ := C
  have h : (match K.2.2.2.2.2 (n) with | some cs => (cs.1 ≤ st.length ∧ ((st.drop cs.1).map (fun v => v.category)).sum ≤ 8) ∧ cs.2.1 (st.take cs.1).reverse u ∧ GG w M Q (pc + 3) L ((cs.2.2 (st.take cs.1).reverse u).1.toList ++ st.drop cs.1) (cs.2.2 (st.take cs.1).reverse u).2 | none => False) := h
  cases e1 : K.2.2.2.2.2 (n) with
  | none => rw [e1] at h; exact False.elim h
  | some cs =>
    rw [e1] at h
    obtain ⟨⟨h0, h1⟩, h2, h3⟩ := h
    exact (hK0.2.2.2.2.2 n cs e1).1 hn p l e s m args below meth c C0 H locs ls pc st u _ hP hS (hl.1.trans hL) hd h0 h1 h2 (fun H1 locs1 hP1 hS1 => h3 p l e s m args below meth c C0 H1 locs1 ls hP1 hS1 hl hL)
theorem rn_invs {n : Nat} (hK0 : KOk w M K) (hd : decode M.1 pc = .ok (.invokestatic n, 3)) (h : stepP w M K Q (.invokestatic n) tg pc L st u (GG w M Q)) : GG w M Q pc L st u := by
  intro p l e s m args below meth c C H locs ls hP hS hl hL
  have C0 := C
  obtain ⟨hx, hb, hml, hown, hts, hr, hlk, hK, hRO⟩ := C
  have h : (match K.2.2.2.2.2 (n + 65536) with | some cs => (cs.1 ≤ st.length ∧ ((st.drop cs.1).map (fun v => v.category)).sum ≤ 8) ∧ cs.2.1 (st.take cs.1).reverse u ∧ GG w M Q (pc + 3) L ((cs.2.2 (st.take cs.1).reverse u).1.toList ++ st.drop cs.1) (cs.2.2 (st.take cs.1).reverse u).2 | none => False) := h
  cases e1 : K.2.2.2.2.2 (n + 65536) with
  | none => rw [e1] at h; exact False.elim h
  | some cs =>
    rw [e1] at h
    obtain ⟨⟨h0, h1⟩, h2, h3⟩ := h
    have hc := (hK0.2.2.2.2.2 (n + 65536) cs e1).2 (Nat.le_add_left _ _)
    rw [Nat.add_sub_cancel] at hc
    exact hc p l e s m args below meth c C0 H locs ls pc st u _ hP hS (hl.1.trans hL) hd h0 h1 h2 (fun H1 locs1 hP1 hS1 => h3 p l e s m args below meth c C0 H1 locs1 ls hP1 hS1 hl hL)
theorem rn_iret (hd : decode M.1 pc = .ok (.ireturn, 1)) (h : stepP w M K Q .ireturn tg pc L st u (GG w M Q)) : GG w M Q pc L st u := by
  intro p l e s m args below meth c C H locs ls hP hS hl hL
  have C0 := C
  obtain ⟨hx, hb, hml, hown, hts, hr, hlk, hK, hRO⟩ := C
  have h2 : (match (generalizing := false) M.2.2.1, st with | some ty, [.int v] => narrow ty (.int v) = .int v ∧ Q (some (.int v)) u | _, _ => False) := h
  clear h
  split at h2
  · rename_i ty v e1
    rw [e1] at hr
    exact W.zret hx hb hr h2.1 (fun t ht _ => ⟨_, u, rfl, h2.2, by rw [ht]; exact hP, hS.F ht⟩) hS.2.2 hd hlk
  · exact False.elim h2
theorem rn_lret (hd : decode M.1 pc = .ok (.lreturn, 1)) (h : stepP w M K Q .lreturn tg pc L st u (GG w M Q)) : GG w M Q pc L st u := by
  intro p l e s m args below meth c C H locs ls hP hS hl hL
  have C0 := C
  obtain ⟨hx, hb, hml, hown, hts, hr, hlk, hK, hRO⟩ := C
  have h2 : (match (generalizing := false) M.2.2.1, st with | some .long, [.long v] => Q (some (.long v)) u | _, _ => False) := h
  clear h
  split at h2
  · rename_i v e1
    rw [e1] at hr
    exact W.lret hx hb hr (fun t ht _ => ⟨_, u, rfl, h2, by rw [ht]; exact hP, hS.F ht⟩) hS.2.2 hd hlk
  · exact False.elim h2
theorem rn_aret (hd : decode M.1 pc = .ok (.areturn, 1)) (h : stepP w M K Q .areturn tg pc L st u (GG w M Q)) : GG w M Q pc L st u := by
  intro p l e s m args below meth c C H locs ls hP hS hl hL
  have C0 := C
  obtain ⟨hx, hb, hml, hown, hts, hr, hlk, hK, hRO⟩ := C
  have h2 : (match (generalizing := false) M.2.2.1, st with | some (.object _), [.ref v] => Q (some (.ref v)) u | _, _ => False) := h
  clear h
  split at h2
  · rename_i nm v e1
    rw [e1] at hr
    exact W.aret hx hb hr (Or.inl ⟨_, rfl⟩) (Or.inr ⟨_, rfl⟩) (fun t ht _ => ⟨_, u, rfl, h2, by rw [ht]; exact hP, hS.F ht⟩) hS.2.2 hd hlk
  · exact False.elim h2
theorem rn_vret (hd : decode M.1 pc = .ok (.return_, 1)) (h : stepP w M K Q .return_ tg pc L st u (GG w M Q)) : GG w M Q pc L st u := by
  intro p l e s m args below meth c C H locs ls hP hS hl hL
  have C0 := C
  obtain ⟨hx, hb, hml, hown, hts, hr, hlk, hK, hRO⟩ := C
  have h2 : (match (generalizing := false) M.2.2.1, st with | none, [] => Q none u | _, _ => False) := h
  clear h
  split at h2
  · rename_i e1
    rw [e1] at hr
    exact W.vret hx hb hr (fun t ht _ => ⟨_, u, rfl, h2, by rw [ht]; exact hP, hS.F ht⟩) hS.2.2 hd hlk
  · exact False.elim h2
/-- one step -/
theorem rn_step {i : Instr} {len : Nat} (hK0 : KOk w M K) (hv : ∀ n, i = .invokevirtual n → n < 65536) (hd : decode M.1 pc = .ok (i, len)) (hln : lenOk i len = true) (hg : tgOk pc i tg = true) (h : stepP w M K Q i tg pc L st u (GG w M Q)) : GG w M Q pc L st u := by
  cases i with
  | iconst n => cases len1 (m := 1) hln rfl; exact rn_iconst hd h
  | lconst n => cases len1 (m := 1) hln rfl; exact rn_lconst hd h
  | iload_n n => cases len1 (m := 1) hln rfl; exact rn_iload_n hd h
  | lload_n n => cases len1 (m := 1) hln rfl; exact rn_lload_n hd h
  | aload_n n => cases len1 (m := 1) hln rfl; exact rn_aload_n hd h
  | istore_n n => cases len1 (m := 1) hln rfl; exact rn_istore_n hd h
  | astore_n n => cases len1 (m := 1) hln rfl; exact rn_astore_n hd h
  | lstore_n n => cases len1 (m := 1) hln rfl; exact rn_lstore_n hd h
  | iadd => cases len1 (m := 1) hln rfl; exact rn_iadd hd h
  | isub => cases len1 (m := 1) hln rfl; exact rn_isub hd h
  | imul => cases len1 (m := 1) hln rfl; exact rn_imul hd h
  | iand => cases len1 (m := 1) hln rfl; exact rn_iand hd h
  | ior => cases len1 (m := 1) hln rfl; exact rn_ior hd h
  | ishl => cases len1 (m := 1) hln rfl; exact rn_ishl hd h
  | ishr => cases len1 (m := 1) hln rfl; exact rn_ishr hd h
  | idiv => cases len1 (m := 1) hln rfl; exact rn_idiv hd h
  | irem => cases len1 (m := 1) hln rfl; exact rn_irem hd h
  | iushr => cases len1 (m := 1) hln rfl; exact rn_iushr hd h
  | ineg => cases len1 (m := 1) hln rfl; exact rn_ineg hd h
  | ladd => cases len1 (m := 1) hln rfl; exact rn_ladd hd h
  | lsub => cases len1 (m := 1) hln rfl; exact rn_lsub hd h
  | lmul => cases len1 (m := 1) hln rfl; exact rn_lmul hd h
  | lshl => cases len1 (m := 1) hln rfl; exact rn_lshl hd h
  | lshr => cases len1 (m := 1) hln rfl; exact rn_lshr hd h
  | lcmp => cases len1 (m := 1) hln rfl; exact rn_lcmp hd h
  | i2l => cases len1 (m := 1) hln rfl; exact rn_i2l hd h
  | l2i => cases len1 (m := 1) hln rfl; exact rn_l2i hd h
  | i2b => cases len1 (m := 1) hln rfl; exact rn_i2b hd h
  | i2s => cases len1 (m := 1) hln rfl; exact rn_i2s hd h
  | dup => cases len1 (m := 1) hln rfl; exact rn_dup hd h
  | pop => cases len1 (m := 1) hln rfl; exact rn_pop hd h
  | dup_x1 => cases len1 (m := 1) hln rfl; exact rn_dup_x1 hd h
  | dup2 => cases len1 (m := 1) hln rfl; exact rn_dup2 hd h
  | bipush n => cases len1 (m := 2) hln rfl; exact rn_bipush hd h
  | iload n => cases len1 (m := 2) hln rfl; exact rn_iload hd h
  | lload n => cases len1 (m := 2) hln rfl; exact rn_lload hd h
  | aload n => cases len1 (m := 2) hln rfl; exact rn_aload hd h
  | istore n => cases len1 (m := 2) hln rfl; exact rn_istore hd h
  | astore n => cases len1 (m := 2) hln rfl; exact rn_astore hd h
  | lstore n => cases len1 (m := 2) hln rfl; exact rn_lstore hd h
  | sipush n => cases len1 (m := 3) hln rfl; exact rn_sipush hd h
  | iinc n d => cases len1 (m := 3) hln rfl; exact rn_iinc hd h
  | ifCond c o => cases len1 (m := 3) hln rfl; cases c with
    | eq => exact rn_if_eq hg hd h
    | ne => exact rn_if_ne hg hd h
    | lt => exact rn_if_lt hg hd h
    | ge => exact rn_if_ge hg hd h
    | gt => exact rn_if_gt hg hd h
    | le => exact rn_if_le hg hd h
  | if_icmp c o => cases len1 (m := 3) hln rfl; cases c with
    | eq => exact rn_icmp_eq hg hd h
    | ne => exact rn_icmp_ne hg hd h
    | lt => exact rn_icmp_lt hg hd h
    | ge => exact rn_icmp_ge hg hd h
    | gt => exact rn_icmp_gt hg hd h
    | le => exact rn_icmp_le hg hd h
  | goto o => cases len1 (m := 3) hln rfl; exact rn_goto hg hd h
  | tableswitch d lo hi offs => exact rn_tsw hg hd h
  | lookupswitch d ps => exact rn_lsw hg hd h
  | ldc n => cases len1 (m := 2) hln rfl; exact rn_ldc hK0 hd h
  | ldc_w n => cases len1 (m := 3) hln rfl; exact rn_ldcw hK0 hd h
  | ldc2_w n => cases len1 (m := 3) hln rfl; exact rn_ldc2 hK0 hd h
  | getstatic n => cases len1 (m := 3) hln rfl; exact rn_gets hK0 hd h
  | getfield n => cases len1 (m := 3) hln rfl; exact st_get hK0.1 hd h
  | putfield n => cases len1 (m := 3) hln rfl; exact st_put hK0.1 hd h
  | iaload => cases len1 (m := 1) hln rfl; exact st_iald (K := K) hd h
  | iastore => cases len1 (m := 1) hln rfl; exact st_iast (K := K) hd h
  | laload => cases len1 (m := 1) hln rfl; exact st_lald (K := K) hd h
  | lastore => cases len1 (m := 1) hln rfl; exact st_last (K := K) hd h
  | aaload => cases len1 (m := 1) hln rfl; exact st_aald (K := K) hd h
  | invokevirtual n => cases len1 (m := 3) hln rfl; exact rn_invv (hv n rfl) hK0 hd h
  | invokestatic n => cases len1 (m := 3) hln rfl; exact rn_invs hK0 hd h
  | ireturn => cases len1 (m := 1) hln rfl; exact rn_iret hd h
  | lreturn => cases len1 (m := 1) hln rfl; exact rn_lret hd h
  | areturn => cases len1 (m := 1) hln rfl; exact rn_aret hd h
  | return_ => cases len1 (m := 1) hln rfl; exact rn_vret hd h
  | _ => exact False.elim h
end RUN
/-- no pool place is above 16 bits -/
def vOk (q : Nat × Instr × Nat × List Nat) : Bool := match q.2.1 with | .invokevirtual n => Nat.blt n 65536 | _ => true
theorem lk_v : ∀ {T : TB}, T.all vOk = true → ∀ {pc : Nat} {i : Instr} {tg : List Nat}, lk T pc = some (i, tg) → ∀ n, i = .invokevirtual n → n < 65536
  | [], _, _, _, _, h => by cases h
  | (a, i0, n0, t0) :: T, hT, pc, i, tg, h => by
    simp only [List.all_cons, Bool.and_eq_true] at hT
    simp only [lk] at h
    by_cases e : Nat.beq a pc = true
    · rw [if_pos e] at h
      cases h
      intro n hn
      subst hn
      have := hT.1
      simp [vOk, Nat.blt] at this
      omega
    · rw [if_neg e] at h
      exact lk_v hT.2 h
theorem wp_run {w : WW} {M : MI} {T : TB} {K : KT} {Q : Option Value → MM → Prop} (hT : T.all (chk M.1) = true) (hV : T.all vOk = true) (hK : KOk w M K) : ∀ (n pc : Nat) (L : LL) (st : List Value) (u : MM), wp w M T K Q n pc L st u → GG w M Q pc L st u := by
  intro n
  induction n with
  | zero => intro pc L st u h; exact False.elim h
  | succ n ih =>
    intro pc L st u h
    unfold wp at h
    split at h
    · rename_i i tg e
      obtain ⟨len, h1, h2, h3⟩ := lk_chk hT e
      have mono : stepP w M K Q i tg pc L st u (GG w M Q) := stepP_mono ih h
      exact rn_step hK (lk_v hV e) h1 h2 h3 mono
    · exact False.elim h
