/-! ===== fields and arrays of the cells that are made; constructors by contract ===== -/
section MKT
variable {w : WW} {M : MI} {X : XT} {Z : ZT} {P : Heap → Prop} {cells slots pc : Nat} {L : LL} {st : List Value} {n : Nat} {E : Nat → va_E}
theorem z_getf {idx ci j k0 : Nat} {fs : List Value} {v : Value} (hci : ci < 7) (hk0 : k0 < n) (he : E k0 = .inr (ci, fs)) (hj : j < (cQ ci).2.2) (hd : decode M.1 pc = .ok (.getfield idx, 3)) (hl : Cond.fieldLink M.2.2.2.1 idx ((cQ ci).2.1 j).1 ((cQ ci).2.1 j).2.1 ((cQ ci).2.1 j).2.2.1 ∈ Gt) (hv : fs[j]? = some v)
    (h : GZ w M X Z (MW w n E) cells slots (pc + 3) L (v :: st)) : GZ w M X Z (MW w n E) cells slots pc L (.ref (wl w + k0) :: st) := by
  intro p l e s m args below meth c C x H locs ls hP hS hl2 hL
  have C0 := C
  obtain ⟨hx, hb, hml, hown, hts, hK, hao⟩ := C
  obtain ⟨k1, k2, k3, k4⟩ := cl_ok hci
  exact va_get hx hb hts k2 hown hK hP.2 k0 (by rw [wsN_get hk0, he]) k1 j hj (hts _ hl) (fun _ z => z) hv hd (h p l e s m args below meth c C0 x H locs ls hP hS hl2 hL)
theorem sz_kept {A : Nat → Prop} {H0 H H1 : Heap} {locs : List Loc} (h : H1.size = H.size) {n : Nat} (e : H.size = n) : H1.size = n := h.trans e
theorem z_putF {idx ci j k0 : Nat} {fs : List Value} {v : Value} {ty : FieldType} (hci : ci < 7) (hk0 : k0 < n) (he : E k0 = .inr (ci, fs)) (hj : j < (cQ ci).2.2) (hd : decode M.1 pc = .ok (.putfield idx, 3)) (hl : Cond.fieldLink M.2.2.2.1 idx ((cQ ci).2.1 j).1 ((cQ ci).2.1 j).2.1 ((cQ ci).2.1 j).2.2.1 ∈ Gt) (hfin : ((cQ ci).2.1 j).2.2.2 = true) (hown' : ((cQ ci).2.1 j).1 = M.2.2.2.1) (hty : cTy ci j = ty) (hn : narrow ty v = v) (hf : fits ty v = true) (hlen : j < fs.length) (hX : ∀ s args meth, X s args meth → meth.name = "<init>")
    (h : GZ w M X Z (MW w n (upE E k0 (.inr (ci, fs.set j v)))) cells slots (pc + 3) L st) : GZ w M X Z (MW w n E) cells slots pc L (v :: .ref (wl w + k0) :: st) := by
  intro p l e s m args below meth c C x H locs ls hP hS hl2 hL
  have C0 := C
  obtain ⟨hx, hb, hml, hown, hts, hK, hao⟩ := C
  obtain ⟨k1, k2, k3, k4⟩ := cl_ok hci
  have hz := hP.1
  obtain ⟨r, h1, cell, q1, q2, q3, q4⟩ := hP.2 k0 _ (by rw [wsN_get hk0, he])
  have hr : r = cQ ci := Option.some.inj (h1.symm.trans k1)
  subst hr
  have hap := va_apart (own := M.2.2.2.1) hts k2 (cTy ci) k3 k4 hK k1
  obtain ⟨hS', hfc, kC, hkC, hkind⟩ := hK.1 ci _ k1
  obtain ⟨cf, kf, fi, f, hi, hsl⟩ := hS' j hj
  have hlay := hts _ (k2 _ (u_in_lay hj))
  unfold u_lay at hlay
  rw [if_pos hfin] at hlay
  have hst := (u_facts hfc hkC (u_lays hts k2 hj) hi).1
  have hcf : m.cls = cf := by
    obtain ⟨_, _, c', _, _, _, -, -, hf', -, -, -, hown2, -⟩ := Cond.laysFinal_spec hlay
    have e1 : c' = cf := by have := hi.symm.trans hf'; simp at this; exact this.1.symm
    rw [hown'] at hown2
    rw [← e1]; exact Option.some.inj (hown.symm.trans hown2)
  have h6 := u_fits hfc hkC hkind (Or.inr hlay) hi (by rw [k3 j hj, hty]) hn hf
  refine W.putFinK hx hb hown (hts _ hl) hi hst hcf (hX _ _ _ x) (by rw [q2]; exact h6) q1 q3 (by rw [hsl]; exact k2_hasslot (q4 j hj)) rfl rfl hd fun H' e1 e2 e3 => ?_
  rw [hsl] at e1 ⊢
  have hP' := hP.2.set (wsN_D w n E) (by rw [wsN_get hk0, he]) (v := .inr (ci, fs.set j v)) ⟨_, k1, t_OB.to (V := updV (vp_V fs) j v) ⟨_, e1, q2, q3, t_set q4 hap hj v⟩ (fun i _ => vp_updV_set hlen v i)⟩ e3
  exact h p l e s m args below meth c C0 x H' _ ls (MW.put (e2.trans hz) hP') (hS.put e2 e3 (Nat.le_add_right _ _)) hl2 hL
end MKT
