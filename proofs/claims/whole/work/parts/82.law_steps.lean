/-! ===== the law's walk: its steps ===== -/
def ML : MI := (code, 4, ret, "ChairDanceLaw", room_1)
def WO (w : WW) (u : MM) : Heap → Prop := va_P (wD w) vwCl (wsO w u)
/-- the script, and what the law's frame is -/
def XL (w : WW) (b n : Nat) (xs : Nat → Int32) : XT := fun s args meth => args = #[Value.ref b] ∧ meth.sig.returnType = ret ∧ meth.locks = false ∧ va_X b n xs s s.heap ∧ b < s.heap.size ∧ s.heap.size = wl w ∧ RO w s
def ZL (b : Nat) : ZT := fun s _ below => lw_Z below #[Value.ref b] s
section LWS
variable {w : WW} {X : XT} {Z : ZT} {P : Heap → Prop} {M : MI} {cells slots pc : Nat} {L : LL} {st : List Value} {b n : Nat} {xs : Nat → Int32}
theorem z_astore {i : Fin 4} {a : Nat} (hd : decode M.1 pc = .ok (.astore_n i, 1)) (hn : i.val < L.length) (h : GZ w M X Z P cells slots (pc + 1) (ls1 L i.val (.ref a)) st) : GZ w M X Z P cells slots pc L (.ref a :: st) := by
  intro p l e s m args below meth c C x H locs ls hP hS hl hL
  exact lv_astore_n C.1 C.2.1 hd rfl (lh_has hl) hn rfl (fun ls' hl' => h p l e s m args below meth c C x H locs ls' hP hS (lh_st1 (ls := ls) hl') (by rw [ls1_len]; exact hL))
theorem z_iadd {x y : Int32} (hd : decode M.1 pc = .ok (.iadd, 1)) (h : GZ w M X Z P cells slots (pc + 1) L (.int (x + y) :: st)) : GZ w M X Z P cells slots pc L (.int y :: .int x :: st) := by
  intro p l e s m args below meth c C x H locs ls hP hS hl hL
  exact lv_iadd C.1 C.2.1 hd (h p l e s m args below meth c C x H locs ls hP hS hl hL)
theorem z_isub {x y : Int32} (hd : decode M.1 pc = .ok (.isub, 1)) (h : GZ w M X Z P cells slots (pc + 1) L (.int (x - y) :: st)) : GZ w M X Z P cells slots pc L (.int y :: .int x :: st) := by
  intro p l e s m args below meth c C x H locs ls hP hS hl hL
  exact lv_isub C.1 C.2.1 hd (h p l e s m args below meth c C x H locs ls hP hS hl hL)
theorem z_iand {x y : Int32} (hd : decode M.1 pc = .ok (.iand, 1)) (h : GZ w M X Z P cells slots (pc + 1) L (.int (x &&& y) :: st)) : GZ w M X Z P cells slots pc L (.int y :: .int x :: st) := by
  intro p l e s m args below meth c C x H locs ls hP hS hl hL
  exact lv_iand C.1 C.2.1 hd (h p l e s m args below meth c C x H locs ls hP hS hl hL)
theorem z_icmp_gt {d : Int} {t : Nat} {x y : Int32} (hd : decode M.1 pc = .ok (.if_icmp .gt d, 3)) (hg : (pc : Int) + d = (t : Int)) (h1 : x > y → GZ w M X Z P cells slots t L st) (h2 : ¬ x > y → GZ w M X Z P cells slots (pc + 3) L st) : GZ w M X Z P cells slots pc L (.int y :: .int x :: st) := by
  intro p l e s m args below meth c C x H locs ls hP hS hl hL
  exact lv_icmp_gt C.1 C.2.1 hd hg (fun z => h1 z p l e s m args below meth c C x H locs ls hP hS hl hL) (fun z => h2 z p l e s m args below meth c C x H locs ls hP hS hl hL)
theorem z_icmp_eq {d : Int} {t : Nat} {x y : Int32} (hd : decode M.1 pc = .ok (.if_icmp .eq d, 3)) (hg : (pc : Int) + d = (t : Int)) (he : x = y) (h1 : GZ w M X Z P cells slots t L st) : GZ w M X Z P cells slots pc L (.int y :: .int x :: st) := by
  intro p l e s m args below meth c C x H locs ls hP hS hl hL
  exact lv_icmp_eq C.1 C.2.1 hd hg (fun z => h1 p l e s m args below meth c C x H locs ls hP hS hl hL) (fun z => absurd he z)
theorem z_slen (hd : decode M.1 pc = .ok (.arraylength, 1)) (h : GZ w M (XL w b n xs) Z P cells slots (pc + 1) L (.int (Int32.ofNat n) :: st)) : GZ w M (XL w b n xs) Z P cells slots pc L (.ref b :: st) := by
  intro p l e s m args below meth c C x H locs ls hP hS hl hL
  exact va_slen C.1 C.2.1 x.2.2.2.1 x.2.2.2.2.1 (by have := x.2.2.2.2.1; have := x.2.2.2.2.2.1; show ¬ wl w ≤ b; omega) hS hd (h p l e s m args below meth c C x H locs ls hP hS hl hL)
theorem z_sld {i : Int32} (hi : vp_in i n) (hd : decode M.1 pc = .ok (.iaload, 1)) (h : GZ w M (XL w b n xs) Z P cells slots (pc + 1) L (.int (xs i.toNatClampNeg) :: st)) : GZ w M (XL w b n xs) Z P cells slots pc L (.int i :: .ref b :: st) := by
  intro p l e s m args below meth c C x H locs ls hP hS hl hL
  exact va_sld C.1 C.2.1 x.2.2.2.1 x.2.2.2.2.1 (by have := x.2.2.2.2.1; have := x.2.2.2.2.2.1; show ¬ wl w ≤ b; omega) hS hi hd (h p l e s m args below meth c C x H locs ls hP hS hl hL)
theorem z_lret (hd : decode code pc = .ok (.ireturn, 1)) (h1 : cells ≤ 600000) (h2 : slots ≤ 7302250) : GZ w ML (XL w b n xs) (ZL b) P cells slots pc L [.int 1] := by
  intro p l e s m args below meth c C x H locs ls hP hS hl hL
  obtain ⟨rfl, hr, hlk, -, -, hz, -⟩ := x
  refine va_forget (fun q hq => by rw [hz]; exact hS.2.2 q hq) (W.widen h1 h2 ?_)
  exact lw_ret C.1 C.2.1 hr hlk hd
theorem z_call {y : MethodName} {My : MI} {pre : List Value → MM → Prop} {res : List Value → MM → Option Value × MM} {k idx ci : Nat} {u : MM} (hC : CT w y My pre res) (hw : ∀ x ∈ wV1 M.2.2.2.1 idx y My, x ∈ Gt) (hn : nmOk y k = true) (hr : rmOk M My = true) (hci : ci < 7) (hcl : (cQ ci).1 = y.cls)
    (hp : ∀ as u, pre as u → ∃ a r, as = .ref a :: r ∧ r.length = k ∧ okO w a ci) (hX : ∀ s args meth, X s args meth → RO w s) (hcs : cells ≤ M.2.2.2.2.cells) (hss : slots ≤ M.2.2.2.2.slots) (hd : decode M.1 pc = .ok (.invokevirtual idx, 3)) {as : List Value} (h1 : (st.map (fun v => v.category)).sum ≤ 8) (h2 : pre as u)
    (h : GZ w M X Z (WO w (res as u).2) cells slots (pc + 3) L ((res as u).1.toList ++ st)) : GZ w M X Z (WO w u) cells slots pc L (as.reverse ++ st) := by
  intro p l e s m args below meth c C x H locs ls hP hS hl hL
  have C0 := C
  obtain ⟨hx, hb, hml, hown, hts, hK, hao⟩ := C
  have hRO := hX _ _ _ x
  obtain ⟨a, r, rfl, hrl, bb, nn, fs, ho⟩ := hp _ _ h2
  obtain ⟨k', -, -, hws⟩ := ob_ws (u := u) ho
  simp only [nmOk, Bool.and_eq_true, decide_eq_true_eq] at hn
  simp only [rmOk, Bool.and_eq_true, Nat.beq_eq, Nat.ble_eq] at hr
  have hcode : .code y My.1 My.2.1 My.2.2.1 ∈ Gt := hw _ (by simp [wV1])
  have hG : GoodIn Gt (wsV M.2.2.2.1 idx y.cls y (wsy y My)) := Gt_goodIn (fun x hx => by
    simp only [wsV, List.mem_append] at hx
    rcases hx with hx | hx
    · exact hw x (by simp only [wV1]; simp only [List.mem_cons, List.not_mem_nil, or_false] at hx ⊢; rcases hx with h | h | h | h <;> simp [h])
    · exact wsy_in (own := M.2.2.2.1) (idx := idx) hcode x hx)
  have hrec : ∃ cell : Cell, H[a]? = some cell ∧ cell.vm.isStatics = false ∧ s.vm.findClass y.cls = some cell.cls := by
    have := va_recv hK hP (cl_ok hci).1 hws
    rw [hcl] at this
    exact this
  have hrun := va_runV (R := M.2.2.2.2) (cells := cells) (slots := slots) (locs := locs) (below := below) (meth := meth) (e := e) (H := H) (g := F0 m pc ls ((Value.ref a :: r).reverse ++ st)) (As := r) (C := y.cls) (b := a) (rest := st) ⟨hx, hb, hml, hown, hts⟩ (hC l _ u h2) (cwV k hts hG rfl hr.1.1.1 hr.1.1.2 ⟨rfl, hn.1.1, hn.1.2, hn.2⟩ ⟨hr.1.2, hr.2⟩) ⟨Wd_blind, hrec, fun U hU hW => ⟨rfl, Wd_at hK hRO hP hS hU hW⟩⟩ rfl hrl (hl.1.trans hL) (by simp) (lv_room h1) hd (mc := 0) (ms := 0) ⟨hcs, hss⟩
  intro T hT X'
  obtain ⟨v, st₀, t, T', Lc, h0, X2, hLc, e1, e2, ⟨x1, y1, hv, ⟨rfl, rfl⟩, hM, hz, hk⟩, stp⟩ := hrun T hT X'
  cases hv
  rw [h0] at hz hk
  obtain ⟨t2, a1, b1⟩ := h p l e s m args below meth c C0 x T'.heap (locs ++ Lc) ls (by rw [e1]; exact hM)
    ⟨Nat.le_trans hS.1 (by rw [e1]; exact hz), fun q h1 h2 => by rw [e1, hk q (Nat.lt_of_lt_of_le h1 hS.1) h2]; exact hS.2.1 q h1 h2, fun q hq => by
      rcases List.mem_append.mp hq with h | h
      · exact hS.2.2 q h
      · exact hLc q h⟩ hl hL T' rfl X2
  exact ⟨t2, stp t2 a1, b1⟩
end LWS
