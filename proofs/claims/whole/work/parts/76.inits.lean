/-! ===== constructors by contract ===== -/
def QI (w : WW) (n : Nat) (E : Nat → va_E) : Array Value → State → Outcome → State → Prop := fun _ st o t => o = .returned none ∧ MW w n E t.heap ∧ va_F (wA' w) st t
def PI (w : WW) (n : Nat) (E : Nat → va_E) (U : State) : Prop := MW w n E U.heap ∧ va_K (wD w) vwCl (tysO w) U ∧ AO3 U
/-- the constructor of the cell k0, the last that was made: there are n cells then -/
def CI (w : WW) (y : MethodName) (M : MI) (k0 n : Nat) (o : va_E) (F : (Nat → va_E) → Nat → va_E) : Prop :=
  ∀ (l : Launch) (E : Nat → va_E), E k0 = o → Met l y (wsy y M) M.2.2.2.2 (va_Pc [.ref (wl w + k0)] (PI w (k0 + 1) E)) (QI w n (F E)) M.2.2.2.2.cells M.2.2.2.2.slots (wA' w)
def XI : XT := fun _ _ meth => meth.name = "<init>" ∧ meth.sig.returnType = none ∧ meth.locks = false
def ZI (w : WW) (M : MI) (n : Nat) (E : Nat → va_E) : ZT := fun s args below => MQ below (QI w n E) args s M.2.2.2.2.cells M.2.2.2.2.slots (wA' w)
theorem PI_blind {w : WW} {n : Nat} {E : Nat → va_E} {as : List Value} : FrameBlind (va_Pc as (PI w n E)) := by
  intro a U g mk q
  obtain ⟨q0, qP, qK, qA⟩ := q
  exact ⟨q0, qP, va_K.moved (u := U) (U := U.calling g mk a) (Vm.Alike.refl U.vm) qK, AO3.same (u := U) (U := U.calling g mk a) rfl qA⟩
theorem CI_of {w : WW} {y : MethodName} {M : MI} {k0 n : Nat} {o : va_E} {F : (Nat → va_E) → Nat → va_E} (hy : plainName y.cls = true) (hnm : y.name = "<init>") (hown : y.cls = M.2.2.2.1) (hret : M.2.2.1 = none) (hl : 1 ≤ M.2.1)
    (h : ∀ E : Nat → va_E, E k0 = o → GZ w M XI (ZI w M n (F E)) (MW w (k0 + 1) E) 0 0 0 (L0 M.2.1 [.ref (wl w + k0)]) []) : CI w y M k0 n o F := by
  intro l E hE
  refine Met.ofW (cc := M.1) (maxL := M.2.1) (ret := M.2.2.1) hy rfl ?_
  intro p e s m args below meth c s₁ B hml hv
  obtain ⟨rfl, hP, hK1, hA⟩ := hv
  have hts := atoms_spec (ws := wsy y M) B.pre
  have hfc : s.vm.findClass y.cls = some m.cls := findClass_of_methodNamed B.named
  rw [hown] at hfc
  have hn : meth.name = "<init>" := (name_of_methodNamed B.named B.method).1.trans hnm
  rw [lg_entry_eq]
  have hlen : (sl [Value.ref (wl w + k0)]).length ≤ M.2.1 := hl
  exact h E hE p l e s m _ below meth c ⟨B.exec, B.bytes, hml, hfc, fun x hx => hts x (List.mem_cons_of_mem _ hx), hK1, hA⟩ ⟨hn, B.returns.trans hret, B.notSynchronized⟩ s.heap [] _ hP va_S.rf (L0_lh hlen) (L0_len hlen)
section MKU
variable {w : WW} {M : MI} {X : XT} {Z : ZT} {P : Heap → Prop} {cells slots pc : Nat} {L : LL} {st : List Value} {n : Nat} {E : Nat → va_E}
theorem z_ret (hd : decode M.1 pc = .ok (.return_, 1)) : GZ w M XI (ZI w M n E) (MW w n E) M.2.2.2.2.cells M.2.2.2.2.slots pc L [] := by
  intro p l e s m args below meth c C x H locs ls hP hS hl2 hL
  exact W.vret C.1 C.2.1 x.2.1 (fun t ht hW => ⟨rfl, by rw [ht]; exact hP, hS.F ht⟩) hS.2.2 hd x.2.2
theorem z_init {y : MethodName} {My : MI} {idx k0 n' : Nat} {o : va_E} {F : (Nat → va_E) → Nat → va_E} (hC : CI w y My k0 n' o F) (hE : E k0 = o) (hnm : y.name = "<init>") (hret : My.2.2.1 = none) (hw : ∀ x ∈ [Cond.methodLink M.2.2.2.1 idx y, .instanceMethod y, .initialized y.cls, .code y My.1 My.2.1 My.2.2.1], x ∈ Gt) (hn : nmOk y 0 = true) (hf : My.2.2.2.2.frames + 1 ≤ M.2.2.2.2.frames) (hlo : 8 + (My.2.1 + 11) + My.2.2.2.2.locals ≤ M.2.2.2.2.locals) (hcs : cells + My.2.2.2.2.cells ≤ M.2.2.2.2.cells) (hss : slots + My.2.2.2.2.slots ≤ M.2.2.2.2.slots) (hst : (st.map (fun v => v.category)).sum ≤ 8) (hd : decode M.1 pc = .ok (.invokespecial idx, 3))
    (h : GZ w M X Z (MW w n' (F E)) (cells + My.2.2.2.2.cells) (slots + My.2.2.2.2.slots) (pc + 3) L st) : GZ w M X Z (MW w (k0 + 1) E) cells slots pc L (.ref (wl w + k0) :: st) := by
  intro p l e s m args below meth c C x H locs ls hP hS hl2 hL
  have C0 := C
  obtain ⟨hx, hb, hml, hown, hts, hK, hao⟩ := C
  have hcode : .code y My.1 My.2.1 My.2.2.1 ∈ Gt := hw _ (by simp)
  simp only [nmOk, Bool.and_eq_true, decide_eq_true_eq] at hn
  have hG : GoodIn Gt (wsy y My) := Gt_goodIn (wsy_in (own := M.2.2.2.1) (idx := idx) hcode)
  have hws : wsy y My = Cond.code y My.1 My.2.1 none :: Gt := by unfold wsy; rw [hret]
  have hr := va_runI (R := M.2.2.2.2) (cells := cells) (slots := slots) (locs := locs) (g := F0 m pc ls (.ref (wl w + k0) :: st)) (below := below) (meth := meth) (e := e) (As := []) (b := wl w + k0) (rest := st) ⟨hx, hb, hml, hown, hts⟩ (hC l E hE) (cwI 0 hts hG hws rfl rfl (hts _ (hw _ (by simp))) (hts _ (hw _ (by simp))) (hts _ (hw _ (by simp))) hnm ⟨hn.1.1, hn.1.2, hn.2⟩ ⟨hf, hlo⟩) (H := H) ⟨PI_blind, fun U hU hW => ⟨rfl, by rw [hU]; exact hP, va_K.moved hW.alike hK, hao.warm hW⟩⟩ rfl rfl (hl2.1.trans hL) rfl (lv_room hst) hd ⟨hcs, hss⟩
  intro T hT X'
  obtain ⟨v, st₀, t, T', Lc, h0, X2, hLc, e1, e2, ⟨hv, hM, hz, hk⟩, stp⟩ := hr T hT X'
  cases hv
  rw [h0] at hz hk
  obtain ⟨t2, a1, b1⟩ := h p l e s m args below meth c C0 x T'.heap (locs ++ Lc) ls (by rw [e1]; exact hM)
    ⟨Nat.le_trans hS.1 (by rw [e1]; exact hz), fun q h1 h2 => by rw [e1, hk q (Nat.lt_of_lt_of_le h1 hS.1) h2]; exact hS.2.1 q h1 h2, fun q hq => by
      rcases List.mem_append.mp hq with h | h
      · exact hS.2.2 q h
      · exact hLc q h⟩ hl2 hL T' rfl X2
  exact ⟨t2, stp t2 a1, b1⟩
theorem z_initN {y : MethodName} {My : MI} {idx k0 n' : Nat} {o : va_E} {F : (Nat → va_E) → Nat → va_E} (hC : CI w y My k0 n' o F) (hE : E k0 = o) (hnm : y.name = "<init>") (hret : My.2.2.1 = none) {host : String} (hnw : ∀ U, AO3 U → va_Nw (.methodLinkNest M.2.2.2.1 idx y host) U) (hw : ∀ x ∈ [Cond.instanceMethod y, .initialized y.cls, .code y My.1 My.2.1 My.2.2.1], x ∈ Gt) (hn : nmOk y 0 = true) (hf : My.2.2.2.2.frames + 1 ≤ M.2.2.2.2.frames) (hlo : 8 + (My.2.1 + 11) + My.2.2.2.2.locals ≤ M.2.2.2.2.locals) (hcs : cells + My.2.2.2.2.cells ≤ M.2.2.2.2.cells) (hss : slots + My.2.2.2.2.slots ≤ M.2.2.2.2.slots) (hst : (st.map (fun v => v.category)).sum ≤ 8) (hd : decode M.1 pc = .ok (.invokespecial idx, 3))
    (h : GZ w M X Z (MW w n' (F E)) (cells + My.2.2.2.2.cells) (slots + My.2.2.2.2.slots) (pc + 3) L st) : GZ w M X Z (MW w (k0 + 1) E) cells slots pc L (.ref (wl w + k0) :: st) := by
  intro p l e s m args below meth c C x H locs ls hP hS hl2 hL
  have C0 := C
  obtain ⟨hx, hb, hml, hown, hts, hK, hao⟩ := C
  have hcode : .code y My.1 My.2.1 My.2.2.1 ∈ Gt := hw _ (by simp)
  simp only [nmOk, Bool.and_eq_true, decide_eq_true_eq] at hn
  have hG : GoodIn Gt (wsy y My) := Gt_goodIn (wsy_in (own := M.2.2.2.1) (idx := idx) hcode)
  have hws : wsy y My = Cond.code y My.1 My.2.1 none :: Gt := by unfold wsy; rw [hret]
  have hr := va_runIN (host := host) (R := M.2.2.2.2) (cells := cells) (slots := slots) (locs := locs) (g := F0 m pc ls (.ref (wl w + k0) :: st)) (below := below) (meth := meth) (e := e) (As := []) (b := wl w + k0) (rest := st) ⟨hx, hb, hml, hown, hts⟩ (hC l E hE) ⟨va_cnB 0 hts hG hws rfl rfl (hnw s hao) (hts _ (hw _ (by simp))) ⟨hn.1.1, hn.1.2, hn.2⟩ ⟨hf, hlo⟩, hnm, hts _ (hw _ (by simp))⟩ (H := H) ⟨PI_blind, fun U hU hW => ⟨rfl, by rw [hU]; exact hP, va_K.moved hW.alike hK, hao.warm hW⟩⟩ rfl rfl (hl2.1.trans hL) rfl (lv_room hst) hd ⟨hcs, hss⟩
  intro T hT X'
  obtain ⟨v, st₀, t, T', Lc, h0, X2, hLc, e1, e2, ⟨hv, hM, hz, hk⟩, stp⟩ := hr T hT X'
  cases hv
  rw [h0] at hz hk
  obtain ⟨t2, a1, b1⟩ := h p l e s m args below meth c C0 x T'.heap (locs ++ Lc) ls (by rw [e1]; exact hM)
    ⟨Nat.le_trans hS.1 (by rw [e1]; exact hz), fun q h1 h2 => by rw [e1, hk q (Nat.lt_of_lt_of_le h1 hS.1) h2]; exact hS.2.1 q h1 h2, fun q hq => by
      rcases List.mem_append.mp hq with h | h
      · exact hS.2.2 q h
      · exact hLc q h⟩ hl2 hL T' rfl X2
  exact ⟨t2, stp t2 a1, b1⟩
end MKU
