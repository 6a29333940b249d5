/-! ===== fields and arrays of the cells that are made; constructors by contract ===== -/
section MKT
variable {w : WW} {M : MI} {X : XT} {Z : ZT} {P : Heap → Prop} {cells slots pc : Nat} {L : LL} {st : List Value} {n : Nat} {E : Nat → va_E}
theorem z_getf {idx ci j k0 : Nat} {fs : List Value} {v : Value} (hci : ci < 7) (hk0 : k0 < n) (he : E k0 = .inr (ci, fs)) (hj : j < (cQ ci).2.2) (hd : decode M.1 pc = .ok (.getfield idx, 3)) (hl : Cond.fieldLink M.2.2.2.1 idx ((cQ ci).2.1 j).1 ((cQ ci).2.1 j).2.1 ((cQ ci).2.1 j).2.2.1 ∈ Gt) (hv : fs[j]? = some v)
    (h : GZ w M X Z (MW w n E) cells slots (pc + 3) L (v :: st)) : GZ w M X Z (MW w n E) cells slots pc L (.ref (wl w + k0) :: st) := by
  intro p l e s m args below meth c C x H locs ls hP hS hl2 hL
  have C0 := C
  obtain ⟨hx, hb, hml, hown, hts, hK, hao⟩ := C
  obtain ⟨k1, k2, k3, k4⟩ := cl_ok hci
  exact va_get hx hb hts k2 hown hK hP.2 k0 (by rw [wsN_get hk0, he]) k1 j hj (hts _ hl) (fun _ z => z) hv hd (h p l e s m args below meth c C0 x H locs ls hP hS hl2 hL)
theorem z_putF {idx ci j k0 : Nat} {fs : List Value} {v : Value} {ty : FieldType} (hci : ci < 7) (hk0 : k0 < n) (he : E k0 = .inr (ci, fs)) (hj : j < (cQ ci).2.2) (hd : decode M.1 pc = .ok (.putfield idx, 3)) (hl : Cond.fieldLink M.2.2.2.1 idx ((cQ ci).2.1 j).1 ((cQ ci).2.1 j).2.1 ((cQ ci).2.1 j).2.2.1 ∈ Gt) (hfin : ((cQ ci).2.1 j).2.2.2 = true) (hown' : ((cQ ci).2.1 j).1 = M.2.2.2.1) (hty : cTy ci j = ty) (hn : narrow ty v = v) (hf : fits ty v = true) (hlen : j < fs.length) (hX : ∀ s args meth, X s args meth → meth.name = "<init>")
    (h : GZ w M X Z (MW w n (upE E k0 (.inr (ci, fs.set j v)))) cells slots (pc + 3) L st) : GZ w M X Z (MW w n E) cells slots pc L (v :: .ref (wl w + k0) :: st) := by
  intro p l e s m args below meth c C x H locs ls hP hS hl2 hL
  have C0 := C
  obtain ⟨hx, hb, hml, hown, hts, hK, hao⟩ := C
  obtain ⟨k1, k2, k3, k4⟩ := cl_ok hci
  have hz := hP.1
  obtain ⟨r, h1, cell, q1, q2, q3, q4⟩ := hP.2 k0 _ (by rw [wsN_get hk0, he])
  have hr : r = cQ ci := Option.some.inj (h1.symm.trans k1)
  subst hr
  have hap := va_apart (own := M.2.2.2.1) hts k2 (cTy ci) k3 k4 hK k1
  obtain ⟨hS', hfc, kC, hkC, hkind⟩ := hK.1 ci _ k1
  obtain ⟨cf, kf, fi, f, hi, hsl⟩ := hS' j hj
  have hlay := hts _ (k2 _ (u_in_lay hj))
  unfold u_lay at hlay
  rw [if_pos hfin] at hlay
  have hst := (u_facts hfc hkC (u_lays hts k2 hj) hi).1
  have hcf : m.cls = cf := by
    obtain ⟨_, _, c', _, _, _, -, -, hf', -, -, -, hown2, -⟩ := Cond.laysFinal_spec hlay
    have e1 : c' = cf := by have := hi.symm.trans hf'; simp at this; exact this.1.symm
    rw [hown'] at hown2
    rw [← e1]; exact Option.some.inj (hown.symm.trans hown2)
  have h6 := u_fits hfc hkC hkind (Or.inr hlay) hi (by rw [k3 j hj, hty]) hn hf
  refine W.putFinK hx hb hown (hts _ hl) hi hst hcf (hX _ _ _ x) (by rw [q2]; exact h6) q1 q3 (by rw [hsl]; exact k2_hasslot (q4 j hj)) rfl rfl hd fun H' e1 e2 e3 => ?_
  rw [hsl] at e1 ⊢
  have hg : (wsN w n E)[k0]? = some (wl w + k0, .inr (ci, fs)) := by rw [wsN_get hk0, he]
  have hv : va_at (wD w) vwCl (wl w + k0, .inr (ci, fs.set j v)) H' := ⟨_, k1, t_OB.to (V := updV (vp_V fs) j v) ⟨_, e1, q2, q3, t_set q4 hap hj v⟩ (fun i _ => vp_updV_set hlen v i)⟩
  exact h p l e s m args below meth c C0 x H' _ ls (MW.put (e2.trans hz) (hP.2.set (wsN_D w n E) hg hv e3)) (hS.put e2 e3 (Nat.le_add_right _ _)) hl2 hL
theorem z_put {idx ci j k0 : Nat} {fs : List Value} {v : Value} {ty : FieldType} (hci : ci < 7) (hk0 : k0 < n) (he : E k0 = .inr (ci, fs)) (hj : j < (cQ ci).2.2) (hd : decode M.1 pc = .ok (.putfield idx, 3)) (hl : Cond.fieldLink M.2.2.2.1 idx ((cQ ci).2.1 j).1 ((cQ ci).2.1 j).2.1 ((cQ ci).2.1 j).2.2.1 ∈ Gt) (hfin : ((cQ ci).2.1 j).2.2.2 = false) (hty : cTy ci j = ty) (hn : narrow ty v = v) (hf : fits ty v = true) (hlen : j < fs.length)
    (h : GZ w M X Z (MW w n (upE E k0 (.inr (ci, fs.set j v)))) cells slots (pc + 3) L st) : GZ w M X Z (MW w n E) cells slots pc L (v :: .ref (wl w + k0) :: st) := by
  intro p l e s m args below meth c C x H locs ls hP hS hl2 hL
  have C0 := C
  obtain ⟨hx, hb, hml, hown, hts, hK, hao⟩ := C
  obtain ⟨k1, k2, k3, k4⟩ := cl_ok hci
  have hz := hP.1
  obtain ⟨r, h1, cell, q1, q2, q3, q4⟩ := hP.2 k0 _ (by rw [wsN_get hk0, he])
  have hr : r = cQ ci := Option.some.inj (h1.symm.trans k1)
  subst hr
  have hap := va_apart (own := M.2.2.2.1) hts k2 (cTy ci) k3 k4 hK k1
  obtain ⟨hS', hfc, kC, hkC, hkind⟩ := hK.1 ci _ k1
  obtain ⟨cf, kf, fi, f, hi, hsl⟩ := hS' j hj
  have hlay := hts _ (k2 _ (u_in_lay hj))
  unfold u_lay at hlay
  rw [if_neg (by rw [hfin]; decide)] at hlay
  have hst := (u_facts hfc hkC (u_lays hts k2 hj) hi).1
  have h6 := u_store hfc hkC hkind hlay hi (by rw [k3 j hj, hty]) hn hf
  refine W.putK hx hb (f := f) ⟨hown, hts _ hl, ⟨_, _, _, hi⟩, hst⟩ (by rw [q2]; exact h6) q1 q3 (by rw [hsl]; exact k2_hasslot (q4 j hj)) rfl rfl hd fun H' e1 e2 e3 => ?_
  rw [hsl] at e1 ⊢
  have hg : (wsN w n E)[k0]? = some (wl w + k0, .inr (ci, fs)) := by rw [wsN_get hk0, he]
  have hv : va_at (wD w) vwCl (wl w + k0, .inr (ci, fs.set j v)) H' := ⟨_, k1, t_OB.to (V := updV (vp_V fs) j v) ⟨_, e1, q2, q3, t_set q4 hap hj v⟩ (fun i _ => vp_updV_set hlen v i)⟩
  exact h p l e s m args below meth c C0 x H' _ ls (MW.put (e2.trans hz) (hP.2.set (wsN_D w n E) hg hv e3)) (hS.put e2 e3 (Nat.le_add_right _ _)) hl2 hL
theorem z_ast {ci t k0 k1 N : Nat} {i : Int32} {f : Nat → Option Nat} {vs : List Value} (hci : ci < 7) (hk0 : k0 < n) (hk1 : k1 < n) (ha : E k0 = .inl (wC w t, N, .inr (.inr (.inr (.inr f))))) (hv : E k1 = .inr (ci, vs)) (ht : (tysO w)[t]? = some (wC w t, .object (cQ ci).1)) (hin : vp_in i N) (hd : decode M.1 pc = .ok (.aastore, 1))
    (h : GZ w M X Z (MW w n (upE E k0 (.inl (wC w t, N, .inr (.inr (.inr (.inr (va_up f i.toNatClampNeg (some (wl w + k1)))))))))) cells slots (pc + 1) L st) : GZ w M X Z (MW w n E) cells slots pc L (.ref (wl w + k1) :: .int i :: .ref (wl w + k0) :: st) := by
  intro p l e s m args below meth c C x H locs ls hP hS hl2 hL
  have C0 := C
  obtain ⟨hx, hb, hml, hown, hts, hK, hao⟩ := C
  obtain ⟨c1, -, -, -⟩ := cl_ok hci
  have hz := hP.1
  have hg : (wsN w n E)[k0]? = some (wl w + k0, .inl (wC w t, N, .inr (.inr (.inr (.inr f))))) := by rw [wsN_get hk0, ha]
  have hlt : i.toNatClampNeg < N := Nat.not_le.mp fun q => hin (Or.inr q)
  have h0 : ¬ i < 0 := fun q => hin (Or.inl q)
  obtain ⟨r', hr', cellV, g1, g2, g3, -⟩ := hP.2 k1 _ (by rw [wsN_get hk1, hv])
  have hcls := (hK.1 ci _ c1).2
  obtain ⟨kA, comp, a1, a2, a3, -⟩ := (hK.2 t _ ht).2
  have hcomp : comp = (wD w).1 ci := Option.some.inj (a3.symm.trans hcls.1)
  subst hcomp
  obtain ⟨kC, hkC, -⟩ := hcls.2
  refine W.aast hx hb (hP.2 k0 _ hg) (fun q h => by cases h) (fun h => by cases h) a1 a2 rfl hkC ⟨h0, by show _ < (arrV _ _ _).slots.size; rw [arrV_size]; exact hlt⟩ g1 (fun q h => by rw [g3] at h; cases h) (by rw [g2]; exact hkC) (by rw [g2]; exact va_assign hcls) rfl rfl hd fun H1 e z oq => ?_
  have hv : va_at (wD w) vwCl (wl w + k0, .inl (wC w t, N, .inr (.inr (.inr (.inr (va_up f i.toNatClampNeg (some (wl w + k1)))))))) H1 := by
    show H1[wl w + k0]? = some (vp_cell _ _)
    rw [e, vp_cell_q, vp_cell_q, arrV_store]
    congr 2
    funext q
    by_cases hq : q = i.toNatClampNeg
    · subst hq
      simp [updV, va_up, va_rf]
    · simp [updV, va_up, hq]
  exact h p l _ s m args below meth c C0 x H1 _ ls (MW.put (z.trans hz) (hP.2.set (wsN_D w n E) hg hv oq)) (hS.put z oq (Nat.le_add_right _ _)) hl2 hL
end MKT
