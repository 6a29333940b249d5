/-! ===== making the cells ===== -/
def wsN (w : WW) (n : Nat) (E : Nat → va_E) : va_W := (List.range n).map (fun k => (wl w + k, E k))
def upE (E : Nat → va_E) (k : Nat) (v : va_E) : Nat → va_E := fun j => if j = k then v else E j
theorem wsN_get {w : WW} {n k : Nat} {E : Nat → va_E} (h : k < n) : (wsN w n E)[k]? = some (wl w + k, E k) := by
  simp [wsN, h]
theorem wsN_inv {w : WW} {n k : Nat} {E : Nat → va_E} {q : Nat × va_E} (h : (wsN w n E)[k]? = some q) : k < n ∧ q = (wl w + k, E k) := by
  by_cases hk : k < n
  · rw [wsN_get hk] at h; exact ⟨hk, (Option.some.inj h).symm⟩
  · have : (wsN w n E)[k]? = none := by simp [wsN]; omega
    rw [this] at h; cases h
theorem wsN_len (w : WW) (n : Nat) (E : Nat → va_E) : (wsN w n E).length = n := by simp [wsN]
theorem wsN_set {w : WW} {n k : Nat} {E : Nat → va_E} {v : va_E} : (wsN w n E).set k (wl w + k, v) = wsN w n (upE E k v) := by
  apply List.ext_getElem?
  intro i
  by_cases hi : i < n
  · rw [wsN_get hi, List.getElem?_set, wsN_len]
    by_cases e : k = i
    · subst e; rw [if_pos rfl, if_pos hi]; simp [upE]
    · rw [if_neg e, wsN_get hi]; simp only [upE]; rw [if_neg (fun z => e z.symm)]
  · rw [List.getElem?_eq_none (by rw [List.length_set, wsN_len]; omega), List.getElem?_eq_none (by rw [wsN_len]; omega)]
theorem wsN_D (w : WW) (n : Nat) (E : Nat → va_E) : va_D (wA' w) (wsN w n E) := by
  refine ⟨fun i j p q hi hj he => ?_, fun k q hk => ?_⟩
  · obtain ⟨_, rfl⟩ := wsN_inv hi
    obtain ⟨_, rfl⟩ := wsN_inv hj
    simp only at he
    omega
  · obtain ⟨_, rfl⟩ := wsN_inv hk
    exact Nat.le_add_right _ _
/-- n cells are made, with these contents -/
def MW (w : WW) (n : Nat) (E : Nat → va_E) (H : Heap) : Prop := H.size = wl w + n ∧ va_P (wD w) vwCl (wsN w n E) H
theorem MW.put {w : WW} {n k : Nat} {E : Nat → va_E} {v : va_E} {H : Heap} (hz : H.size = wl w + n) (h : va_P (wD w) vwCl ((wsN w n E).set k (wl w + k, v)) H) : MW w n (upE E k v) H := ⟨hz, by rw [← wsN_set]; exact h⟩
theorem MW.add {w : WW} {n : Nat} {E : Nat → va_E} {v : va_E} {H H1 : Heap} (h : MW w n E H) (hz : H1.size = wl w + n + 1) (ho : ∀ q : Nat, q < wl w + n → H1[q]? = H[q]?) (hv : va_at (wD w) vwCl (wl w + n, v) H1) : MW w (n + 1) (upE E n v) H1 := by
  refine ⟨by rw [hz]; omega, fun k q hk => ?_⟩
  obtain ⟨h1, rfl⟩ := wsN_inv hk
  by_cases e : k = n
  · subst e
    have : upE E k v k = v := if_pos rfl
    rw [this]; exact hv
  · simp only [upE]; rw [if_neg e]
    exact (h.2 k _ (wsN_get (by omega))).kept (ho _ (by show wl w + k < _; omega))
/-- the classes of the arrays of seats, ones, sheets; the private constructors that are called -/
def AO3 (U : State) : Prop := (va_AO "ChairDance$Seat" U ∧ va_AO "ChairDance$One" U ∧ va_AO "ChairDance$Sheet" U) ∧ va_Nw (.methodLinkNest "ChairDance$Hall" 17 yX2_init "ChairDance") U ∧ va_Nw (.methodLinkNest "ChairDance$Hall" 24 yX1_init "ChairDance") U ∧ va_Nw (.methodLinkNest "ChairDance" 28 yX4_init "ChairDance") U ∧ va_Nw (.methodLinkNest "ChairDance" 39 yX3_init "ChairDance") U
theorem AO3.warm {u U : State} (hW : u.WarmedH U.vm) (h : AO3 u) : AO3 U := ⟨⟨h.1.1.moved hW.alike, h.1.2.1.moved hW.alike, h.1.2.2.moved hW.alike⟩, h.2.1.warmM hW, h.2.2.1.warmM hW, h.2.2.2.1.warmM hW, h.2.2.2.2.warmM hW⟩
theorem AO3.same {u U : State} (hv : u.vm = U.vm) (h : AO3 u) : AO3 U := by
  have al : u.vm.Alike U.vm := by rw [hv]; exact Vm.Alike.refl U.vm
  exact ⟨⟨h.1.1.moved al, h.1.2.1.moved al, h.1.2.2.moved al⟩, va_Nw.same rfl hv h.2.1, va_Nw.same rfl hv h.2.2.1, va_Nw.same rfl hv h.2.2.2.1, va_Nw.same rfl hv h.2.2.2.2⟩
/-- what holds wherever the walk is -/
def Cb (w : WW) (M : MI) (p : Program) (s : State) (m : MethodId) (args : Array Value) (c : Code) : Prop :=
  p.tables.exec = Jvm.exec ∧ c.code = M.1 ∧ c.maxLocals = M.2.1 ∧ s.vm.findClass M.2.2.2.1 = some m.cls ∧ (∀ x ∈ Gt, x.before args s = true) ∧ va_K (wD w) vwCl (tysO w) s ∧ AO3 s
abbrev XT : Type := State → Array Value → Method → Prop
abbrev ZT : Type := State → Array Value → List Frame → State → Prop
/-- from here, where the heap is as P says, the method comes to its end Z -/
def GZ (w : WW) (M : MI) (X : XT) (Z : ZT) (P : Heap → Prop) (cells slots pc : Nat) (L : LL) (st : List Value) : Prop :=
  ∀ (p : Program) (l : Launch) (e : Env) (s : State) (m : MethodId) (args : Array Value) (below : List Frame) (meth : Method) (c : Code), Cb w M p s m args c → X s args meth → ∀ (H : Heap) (locs : List Loc) (ls : Array Slot), P H → va_S (wA' w) s.heap H locs → lh ls L → L.length = M.2.1 →
    W p l e M.2.2.2.2 s m args below meth c H locs cells slots (Z s args below) (F0 m pc ls st)
section MKS
variable {w : WW} {M : MI} {X : XT} {Z : ZT} {P : Heap → Prop} {cells slots pc : Nat} {L : LL} {st : List Value}
theorem z_aload {i : Fin 4} {a : Nat} (hd : decode M.1 pc = .ok (.aload_n i, 1)) (e1 : lg L i.val = some (.ref a)) (h : GZ w M X Z P cells slots (pc + 1) L (.ref a :: st)) : GZ w M X Z P cells slots pc L st := by
  intro p l e s m args below meth c C x H locs ls hP hS hl hL
  exact lv_aload_n C.1 C.2.1 hd rfl (hl.2.2 _ _ e1) (h p l e s m args below meth c C x H locs ls hP hS hl hL)
theorem z_iload {i : Fin 4} {v : Int32} (hd : decode M.1 pc = .ok (.iload_n i, 1)) (e1 : lg L i.val = some (.int v)) (h : GZ w M X Z P cells slots (pc + 1) L (.int v :: st)) : GZ w M X Z P cells slots pc L st := by
  intro p l e s m args below meth c C x H locs ls hP hS hl hL
  exact lv_iload_n C.1 C.2.1 hd rfl (hl.2.2 _ _ e1) (h p l e s m args below meth c C x H locs ls hP hS hl hL)
theorem z_iconst {k : Int} (hd : decode M.1 pc = .ok (.iconst k, 1)) (h : GZ w M X Z P cells slots (pc + 1) L (.int (Int32.ofInt k) :: st)) : GZ w M X Z P cells slots pc L st := by
  intro p l e s m args below meth c C x H locs ls hP hS hl hL
  exact lv_iconst C.1 C.2.1 hd rfl (h p l e s m args below meth c C x H locs ls hP hS hl hL)
theorem z_bipush {k : Int} (hd : decode M.1 pc = .ok (.bipush k, 2)) (h : GZ w M X Z P cells slots (pc + 2) L (.int (Int8.ofInt k).toInt32 :: st)) : GZ w M X Z P cells slots pc L st := by
  intro p l e s m args below meth c C x H locs ls hP hS hl hL
  exact lv_bipush C.1 C.2.1 hd rfl (h p l e s m args below meth c C x H locs ls hP hS hl hL)
theorem z_sipush {k : Int} (hd : decode M.1 pc = .ok (.sipush k, 3)) (h : GZ w M X Z P cells slots (pc + 3) L (.int (Int16.ofInt k).toInt32 :: st)) : GZ w M X Z P cells slots pc L st := by
  intro p l e s m args below meth c C x H locs ls hP hS hl hL
  exact lv_sipush C.1 C.2.1 hd rfl (h p l e s m args below meth c C x H locs ls hP hS hl hL)
theorem z_dup {v : Value} (hv : v.category = 1) (hd : decode M.1 pc = .ok (.dup, 1)) (h : GZ w M X Z P cells slots (pc + 1) L (v :: v :: st)) : GZ w M X Z P cells slots pc L (v :: st) := by
  intro p l e s m args below meth c C x H locs ls hP hS hl hL
  exact lv_dup C.1 C.2.1 hd hv (h p l e s m args below meth c C x H locs ls hP hS hl hL)
theorem z_istore {i : Fin 4} {v : Int32} (hd : decode M.1 pc = .ok (.istore_n i, 1)) (hn : i.val < L.length) (h : GZ w M X Z P cells slots (pc + 1) (ls1 L i.val (.int v)) st) : GZ w M X Z P cells slots pc L (.int v :: st) := by
  intro p l e s m args below meth c C x H locs ls hP hS hl hL
  exact lv_istore_n C.1 C.2.1 hd rfl (lh_has hl) hn rfl (fun ls' hl' => h p l e s m args below meth c C x H locs ls' hP hS (lh_st1 (ls := ls) hl') (by rw [ls1_len]; exact hL))
theorem z_iinc {i : Nat} {d : Int} {v : Int32} (hd : decode M.1 pc = .ok (.iinc i d, 3)) (e1 : lg L i = some (.int v)) (h : GZ w M X Z P cells slots (pc + 3) (ls1 L i (.int (v + Int32.ofInt d))) st) : GZ w M X Z P cells slots pc L st := by
  intro p l e s m args below meth c C x H locs ls hP hS hl hL
  obtain ⟨j, hj⟩ := List.getElem?_of_mem (show (i, Value.int v) ∈ prs L from prs_mem.mpr e1)
  exact lv_iinc C.1 C.2.1 hd (lh_has hl) hj rfl (lg_lt e1) rfl (fun ls' hl' => h p l e s m args below meth c C x H locs ls' hP hS (lh_st1 (ls := ls) hl') (by rw [ls1_len]; exact hL))
theorem z_goto {d : Int} {t : Nat} (hd : decode M.1 pc = .ok (.goto d, 3)) (hg : (pc : Int) + d = (t : Int)) (h : GZ w M X Z P cells slots t L st) : GZ w M X Z P cells slots pc L st := by
  intro p l e s m args below meth c C x H locs ls hP hS hl hL
  exact lv_goto C.1 C.2.1 hd hg (h p l e s m args below meth c C x H locs ls hP hS hl hL)
theorem z_icmp_ge {d : Int} {t : Nat} {x y : Int32} (hd : decode M.1 pc = .ok (.if_icmp .ge d, 3)) (hg : (pc : Int) + d = (t : Int)) (h1 : x ≥ y → GZ w M X Z P cells slots t L st) (h2 : ¬ x ≥ y → GZ w M X Z P cells slots (pc + 3) L st) : GZ w M X Z P cells slots pc L (.int y :: .int x :: st) := by
  intro p l e s m args below meth c C x H locs ls hP hS hl hL
  exact lv_icmp_ge C.1 C.2.1 hd hg (fun z => h1 z p l e s m args below meth c C x H locs ls hP hS hl hL) (fun z => h2 z p l e s m args below meth c C x H locs ls hP hS hl hL)
theorem z_widen {k n : Nat} (h1 : cells ≤ k) (h2 : slots ≤ n) (h : GZ w M X Z P k n pc L st) : GZ w M X Z P cells slots pc L st := by
  intro p l e s m args below meth c C x H locs ls hP hS hl hL
  exact W.widen h1 h2 (h p l e s m args below meth c C x H locs ls hP hS hl hL)
theorem z_oinit {idx a : Nat} (hl : Cond.methodLink M.2.2.2.1 idx objectInit ∈ Gt) (hi : Cond.instanceMethod objectInit ∈ Gt) (hc : Cond.code objectInit ⟨#[0xb1]⟩ 1 none ∈ Gt) (hd : decode M.1 pc = .ok (.invokespecial idx, 3)) (hf : 1 ≤ M.2.2.2.2.frames) (hr : (st.map (fun v => v.category)).sum ≤ 8 ∧ 20 ≤ M.2.2.2.2.locals) (h : GZ w M X Z P cells slots (pc + 3) L st) : GZ w M X Z P cells slots pc L (.ref a :: st) := by
  intro p l e s m args below meth c C x H locs ls hP hS hl2 hL
  exact W.objInit C.1 C.2.1 C.2.2.2.1 (C.2.2.2.2.1 _ hl) (C.2.2.2.2.1 _ hi) (C.2.2.2.2.1 _ hc) rfl (by rw [C.2.2.1]; exact hl2.1.trans hL) rfl hd hf (by have : 2 * (F0 m pc ls (.ref a :: st)).monitorRoom + (st.map fun v => v.category).sum ≤ 8 := lv_room hr.1; have := hr.2; omega) (h p l e s m args below meth c C x H locs ls hP hS hl2 hL)
variable {n : Nat} {E : Nat → va_E}
theorem z_new {idx ci : Nat} {fs : List Value} (hci : ci < 7) (hd : decode M.1 pc = .ok (.new idx, 3)) (hl : Cond.classLink M.2.2.2.1 idx (cQ ci).1 ∈ Gt) (hi : Cond.instantiable (cQ ci).1 (cQ ci).2.2 ∈ Gt) (hn : Cond.initialized (cQ ci).1 ∈ Gt) (hfs : ∀ j, j < (cQ ci).2.2 → defaultValue (cTy ci j) = vp_V fs j) (hcs : cells + 1 ≤ M.2.2.2.2.cells) (hss : slots + (cQ ci).2.2 ≤ M.2.2.2.2.slots)
    (h : GZ w M X Z (MW w (n + 1) (upE E n (.inr (ci, fs)))) (cells + 1) (slots + (cQ ci).2.2) (pc + 3) L (.ref (wl w + n) :: st)) : GZ w M X Z (MW w n E) cells slots pc L st := by
  intro p l e s m args below meth c C x H locs ls hP hS hl2 hL
  obtain ⟨hx, hb, hml, hown, hts, hK, hao⟩ := C
  obtain ⟨k1, k2, k3, k4⟩ := cl_ok hci
  have hKn := hK.1 ci _ k1
  refine W.newcK hx hb hown (hts _ hl) (hts _ hi) (hts _ hn) rfl hd hcs hss hKn.2.1 hP.1 fun H1 kC hkC e1 z1 o1 => ?_
  refine h p l e s m args below meth c ⟨hx, hb, hml, hown, hts, hK, hao⟩ x H1 locs ls (hP.add z1 o1 ⟨_, k1, (u_born (cTy ci) hts k2 hKn hkC e1 k3).to hfs⟩) ⟨Nat.le_trans hS.1 (by have := hP.1; omega), fun q h1 h2 => (o1 q (by have := hP.1; have := hS.1; omega)).trans (hS.2.1 q h1 h2), hS.2.2⟩ hl2 hL
theorem z_newa {at_ : ArrayType} {t N : Nat} {i : Int32} {a0 : vp_A} (hd : decode M.1 pc = .ok (.newarray at_, 2)) (ht : (tysO w)[t]? = some (wC w t, newarray.typeOf at_)) (hra : ∀ U cA, va_RA U cA (newarray.typeOf at_) → U.vm.findClass ("[" ++ (newarray.typeOf at_).toString) = some cA) (har : Cond.arrayClass (newarray.typeOf at_) ∈ Gt) (hi : ¬ i < 0) (hN : i.toNatClampNeg = N) (hby : N * componentBytes (newarray.typeOf at_) ≤ 536870912) (ha : vp_cell (wC w t) a0 = arrV (wC w t) N (fun _ => defaultValue (newarray.typeOf at_))) (hcs : cells + 1 ≤ M.2.2.2.2.cells) (hss : slots + N ≤ M.2.2.2.2.slots)
    (h : GZ w M X Z (MW w (n + 1) (upE E n (.inl (wC w t, a0)))) (cells + 1) (slots + N) (pc + 2) L (.ref (wl w + n) :: st)) : GZ w M X Z (MW w n E) cells slots pc L (.int i :: st) := by
  intro p l e s m args below meth c C x H locs ls hP hS hl2 hL
  obtain ⟨hx, hb, hml, hown, hts, hK, hao⟩ := C
  refine va_newaK hx hb (hts _ har) rfl hd rfl hi hN hby hcs hss hP.1 fun H1 cA e1 z1 o1 _ hNm => ?_
  have ec : cA = wC w t := Option.some.inj (hNm.symm.trans (hra s _ (hK.2 t _ ht).2))
  subst ec
  refine h p l e s m args below meth c ⟨hx, hb, hml, hown, hts, hK, hao⟩ x H1 locs ls (hP.add z1 o1 ?_) ⟨Nat.le_trans hS.1 (by have := hP.1; omega), fun q h1 h2 => (o1 q (by have := hP.1; have := hS.1; omega)).trans (hS.2.1 q h1 h2), hS.2.2⟩ hl2 hL
  show H1[wl w + n]? = some (vp_cell _ _)
  rw [ha]; exact e1
theorem z_anew {C0 : String} {idx t N : Nat} {i : Int32} (hd : decode M.1 pc = .ok (.anewarray idx, 3)) (hl : Cond.classLink M.2.2.2.1 idx C0 ∈ Gt) (hov : ∀ U, AO3 U → va_AO C0 U) (ht : (tysO w)[t]? = some (wC w t, .object C0)) (hi : ¬ i < 0) (hN : i.toNatClampNeg = N) (hby : N * 4 ≤ 536870912) (hcs : cells + 1 ≤ M.2.2.2.2.cells) (hss : slots + N ≤ M.2.2.2.2.slots)
    (h : GZ w M X Z (MW w (n + 1) (upE E n (.inl (wC w t, N, .inr (.inr (.inr (.inr (fun _ => none)))))))) (cells + 1) (slots + N) (pc + 3) L (.ref (wl w + n) :: st)) : GZ w M X Z (MW w n E) cells slots pc L (.int i :: st) := by
  intro p l e s m args below meth c C x H locs ls hP hS hl2 hL
  obtain ⟨hx, hb, hml, hown, hts, hK, hao⟩ := C
  subst hN
  refine W.anew hx hb hown (hts _ hl) (va_AO.use (hov s hao)) rfl hd rfl hi hby hcs hss fun cA kA comp f1 f2 f3 f4 => ?_
  obtain ⟨kA', comp', g1, g2, g3, g4⟩ := (hK.2 t _ ht).2
  have ec : cA = wC w t := Option.some.inj (f1.symm.trans g4)
  subst ec
  generalize hH1 : H.push ({ cls := wC w t, slots := Array.replicate i.toNatClampNeg .null, vm := .none } : Cell) = H1
  have z1 : H1.size = H.size + 1 := by rw [← hH1, Array.size_push]
  have e1 : H1[H.size]? = some (arrV (wC w t) i.toNatClampNeg (fun _ => .null)) := by rw [← hH1, Array.getElem?_push_size, ← arrV_new]
  have o1 : ∀ q : Nat, q < H.size → H1[q]? = H[q]? := fun q hq => by rw [← hH1, Array.getElem?_push, if_neg (Nat.ne_of_lt hq)]
  rw [hP.1] at z1 e1 o1
  rw [hP.1]
  refine h p l e s m args below meth c ⟨hx, hb, hml, hown, hts, hK, hao⟩ x H1 locs ls (hP.add z1 o1 e1) ⟨Nat.le_trans hS.1 (by have := hP.1; omega), fun q h1 h2 => (o1 q (by have := hP.1; have := hS.1; omega)).trans (hS.2.1 q h1 h2), hS.2.2⟩ hl2 hL
end MKS
