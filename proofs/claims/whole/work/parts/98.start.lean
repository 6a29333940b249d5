/-! ===== the law's start: what the premises give ===== -/
def FL : List Cond := flatC (Jvm.Cond.and given_1 narrow_1)
def stTm (t : Nat) : Term := .static "ChairDance" (stNm t) "[I"
def kTm (i : Nat) : Term := .string "ChairDance$Tape" (kIx i)
def kVm (i : Nat) : Term := .field (kTm i) "java/lang/String" "value" "[B"
theorem fl_arr : ∀ t, t < 4 → Cond.arrayOf (stTm t) .int ∈ FL := by decide +kernel
theorem fl_len : ∀ t, t < 4 → Cond.eq (.length (stTm t)) (.int (Int32.ofNat 6)) ∈ FL := by decide +kernel
theorem fl_el : ∀ t, t < 4 → ∀ j, j < 6 → Cond.eq (.elem (stTm t) (.int (Int32.ofNat j))) (.int ((stTb t).getD j 0)) ∈ FL := by decide +kernel
theorem fl_kex : ∀ i, i < 11 → Cond.exactly (kTm i) "java/lang/String" ∈ FL := by decide +kernel
theorem fl_kco : ∀ i, i < 11 → Cond.eq (.field (kTm i) "java/lang/String" "coder" "B") (.int 0) ∈ FL := by decide +kernel
theorem fl_kar : ∀ i, i < 11 → Cond.arrayOf (kVm i) .byte ∈ FL := by decide +kernel
theorem fl_kle : ∀ i, i < 11 → Cond.eq (.length (kVm i)) (.int (Int32.ofNat (kLen.getD i 0))) ∈ FL := by decide +kernel
theorem fl_kel : ∀ i, i < 11 → ∀ j, j < kLen.getD i 0 → Cond.eq (.elem (kVm i) (.int (Int32.ofNat j))) (.int ((kByt.getD i []).getD j 0)) ∈ FL := by decide +kernel
theorem fl_kne : ∀ i, i < 11 → ∀ j, j < 11 → i ≠ j → Cond.not (Cond.eq (kTm i) (kTm j)) ∈ FL ∨ Cond.not (Cond.eq (kTm j) (kTm i)) ∈ FL := by decide +kernel
theorem fl_kN : ∀ i, i < 11 → kLen.getD i 0 < 2 ^ 31 := by decide +kernel
theorem fl_cs : Cond.eq (.static "java/lang/String" "COMPACT_STRINGS" "Z") (.int 1) ∈ FL := by decide +kernel
theorem fl_sf : Cond.isRef (.static "jdk/internal/util/Preconditions" "SIOOBE_FORMATTER" "Ljava/util/function/BiFunction;") ∈ FL := by decide +kernel
theorem tb_inst : ∀ ci, ci < 7 → Cond.instantiable (cQ ci).1 (cQ ci).2.2 ∈ Gt := by decide +kernel
theorem tb_lay : ∀ t, t < 4 → Cond.laysStatic "ChairDance" (stNm t) "[I" ∈ lw_tbl := by decide +kernel
theorem tb_nst : ∀ t, t < 4 → Cond.fieldLinkNest "ChairDance$One" (stIx t) "ChairDance" (stNm t) "[I" "ChairDance" ∈ lw_tbl := by decide +kernel
theorem tb_sr : ∀ i, i < 11 → Cond.stringRef "ChairDance$Tape" (kIx i) (kTx i) ∈ lw_tbl := by decide +kernel
theorem tb_tbl : ∀ t, t < 4 → ∀ i, i < 6 → (stTb t).getD i 0 = tbl t i := by decide +kernel
theorem Gt_lw {x : Cond} (h : x ∈ Gt) : x ∈ lw_tbl := (List.mem_filter.mp h).1
/-- what an int array of the heap holds -/
def hpI (H : Heap) (q j : Nat) : Int32 := match H[q]? with
  | some qc => (match qc.slots[j]? with | some (.int v) => v | _ => 0)
  | none => 0
theorem arr_c {args : Array Value} {s : State} {ty : FieldType} (h : (Cond.arrayClass ty).before args s = true) : ∃ cA : ClassId, ArrOfT s cA ty ∧ s.vm.findClass ("[" ++ ty.toString) = some cA := by
  obtain ⟨c, k, comp, e1, e2, e3⟩ := Cond.arrayClass_spec h
  exact ⟨c, fun n z => ⟨fun k h => (by cases h), k, e2, comp, e3⟩, e1⟩
theorem arr_o {args : Array Value} {s : State} {C : String} (h : (Cond.arrayOver (.object C)).before args s = true) : ∃ cA : ClassId, ArrOfT s cA (.object C) ∧ va_RA s cA (.object C) := by
  obtain ⟨comp, c, k, e1, -, e3, e4, e5⟩ := Cond.arrayOver_spec h
  exact ⟨c, fun n z => ⟨fun k h => (by cases h), k, e3, comp, e4⟩, k, comp, e3, e4, e1, e5⟩
theorem world_at {p : Program} {s : State} {m : MethodId} {meth : Method} {c : Code} {b L : Nat} {xs : Nat → Int32} (C0 : lw_At p s m meth c b L xs) : ∃ w : WW, wl w = s.heap.size ∧ wOk w ∧ va_K (wD w) vwCl (tysO w) s ∧ AO3 s ∧ RO w s := by
  obtain ⟨-, -, -, -, -, hts, -, -, -, hgv⟩ := C0
  have hs : ∀ x ∈ FL, x.before #[Value.ref b] s = true := flat_of_before _ hgv
  have hA : ∀ a : Nat, a < s.heap.size → ¬ (fun q : Nat => s.heap.size ≤ q) a := fun a h => Nat.not_le.mpr h
  -- the classes
  have hk : ∀ ci : Nat, ∃ q : ClassId × (Nat → Nat), ci < 7 → u_Kn s (cQ ci).1 (cQ ci).2.1 (cQ ci).2.2 q.1 q.2 := by
    intro ci
    by_cases h : ci < 7
    · obtain ⟨cC, iS, hk⟩ := u_known (n := (cQ ci).2.2) (fun x hx => hts x (Gt_lw hx)) (cl_ok h).2.1 (hts _ (Gt_lw (tb_inst ci h)))
      exact ⟨(cC, iS), fun _ => hk⟩
    · exact ⟨(m.cls, fun _ => 0), fun h' => absurd h' h⟩
  obtain ⟨kf, hkf⟩ := Classical.axiomOfChoice hk
  -- the arrays' classes
  obtain ⟨c0, a0, r0⟩ := arr_c (hts (.arrayClass .int) (by decide +kernel))
  obtain ⟨c1, a1, r1⟩ := arr_c (hts (.arrayClass .long) (by decide +kernel))
  obtain ⟨c2, a2, r2⟩ := arr_o (hts (.arrayOver (.object "ChairDance$Seat")) (by decide +kernel))
  obtain ⟨c3, a3, r3⟩ := arr_o (hts (.arrayOver (.object "ChairDance$One")) (by decide +kernel))
  obtain ⟨c4, a4, r4⟩ := arr_o (hts (.arrayOver (.object "ChairDance$Sheet")) (by decide +kernel))
  -- the static arrays
  have hst : ∀ t : Nat, ∃ a : Nat, t < 4 → va_Z "ChairDance" (stNm t) "[I" (.ref a) (fun q : Nat => s.heap.size ≤ q) s s.heap ∧ va_T .int a 6 (fun j => .int ((stTb t).getD j 0)) (fun q : Nat => s.heap.size ≤ q) s s.heap := by
    intro t
    by_cases h : t < 4
    · obtain ⟨a, e1, e2⟩ := va_Tof (tm := stTm t) (ty := .int) (N := 6) (f := fun j => .int ((stTb t).getD j 0)) (by decide) (hs _ (fl_arr t h)) (va_eqt (hs _ (fl_len t h))) (fun j hj => va_eqt (hs _ (fl_el t h j hj))) hA
      exact ⟨a, fun _ => ⟨va_Zof (hts _ (tb_lay t h)) (hts (.initialized "ChairDance") (by decide +kernel)) e1 hA, e2⟩⟩
    · exact ⟨0, fun h' => absurd h' h⟩
  obtain ⟨ad, had⟩ := Classical.axiomOfChoice hst
  -- the texts
  obtain ⟨adK, adV, hS, hev⟩ := vk_Sof (args := #[Value.ref b]) (s := s) (N := 11) (tm := kTm) (len := kLen) (byt := kByt) (A := fun q : Nat => s.heap.size ≤ q) fl_kN (fun i hi => hs _ (fl_kex i hi)) (fun i hi => hs _ (fl_kco i hi)) (fun i hi => hs _ (fl_kar i hi)) (fun i hi => hs _ (fl_kle i hi)) (fun i hi j hj => hs _ (fl_kel i hi j hj)) (fun i j hi hj hne => (fl_kne i hi j hj hne).imp (fun z => hs _ z) (fun z => hs _ z)) hA
  have hv : ∀ t, t < 4 → ∀ j, j < 6 → hpI s.heap (ad t) j = (stTb t).getD j 0 := by
    intro t ht j hj
    obtain ⟨cell, e1, -, -, -, -, e6, -⟩ := (had t ht).2
    unfold hpI
    rw [e1]
    show (match cell.slots[j]? with | some (.int v) => v | _ => 0) = _
    rw [e6 j hj]
  refine ⟨(s.heap.size, (fun k => (kf k).1, fun k => (kf k).2), (fun t => match t with | 0 => c0 | 1 => c1 | 2 => c2 | 3 => c3 | _ => c4), ad, hpI s.heap, adK, adV), rfl, ⟨fun t ht => ⟨?_, fun i hi => (hv t ht i hi).trans (tb_tbl t ht i hi)⟩, hS.2⟩, ⟨?_, ?_⟩, ?_, ⟨fun t ht => ⟨(had t ht).1, ?_, ?_, hv t ht⟩, fun t ht => vk_R.of (hts _ (tb_sr t ht)) (hev t ht), hS, ?_, ?_⟩⟩
  · obtain ⟨cell, -, -, -, -, -, -, e7⟩ := (had t ht).2
    exact if_neg e7
  · intro k q hq
    have hk7 : k < 7 := (List.getElem?_eq_some_iff.mp hq).1
    have e := (cl_ok hk7).1
    rw [hq] at e
    cases e
    exact hkf k hk7
  · intro k q hq
    match k, hq with
    | 0, hq => cases hq; exact ⟨a0, r0⟩
    | 1, hq => cases hq; exact ⟨a1, r1⟩
    | 2, hq => cases hq; exact ⟨a2, r2⟩
    | 3, hq => cases hq; exact ⟨a3, r3⟩
    | 4, hq => cases hq; exact ⟨a4, r4⟩
    | k + 5, hq => cases hq
  · exact ⟨⟨va_AO.of (hts (.arrayOver (.object "ChairDance$Seat")) (by decide +kernel)), va_AO.of (hts (.arrayOver (.object "ChairDance$One")) (by decide +kernel)), va_AO.of (hts (.arrayOver (.object "ChairDance$Sheet")) (by decide +kernel))⟩, va_Nw.of rfl (hts (.methodLinkNest "ChairDance$Hall" 17 yX2_init "ChairDance") (by decide +kernel)), va_Nw.of rfl (hts (.methodLinkNest "ChairDance$Hall" 24 yX1_init "ChairDance") (by decide +kernel)), va_Nw.of rfl (hts (.methodLinkNest "ChairDance" 28 yX4_init "ChairDance") (by decide +kernel)), va_Nw.of rfl (hts (.methodLinkNest "ChairDance" 39 yX3_init "ChairDance") (by decide +kernel))⟩
  · obtain ⟨cell, e1, e2, e3, e4, e5, e6, e7⟩ := (had t ht).2
    refine ⟨cell, e1, e2, e3, e4, e5, fun j hj => ?_, e7⟩
    rw [e6 j hj]
    exact congrArg (fun z => some (Value.int z)) (hv t ht j hj).symm
  · exact va_Nw.of rfl (hts _ (tb_nst t ht))
  · exact va_Zof (hts (.laysStatic "java/lang/String" "COMPACT_STRINGS" "Z") (by decide +kernel)) (hts (.initialized "java/lang/String") (by decide +kernel)) (va_eqt (hs _ fl_cs)) hA
  · exact va_Zqof (hts (.laysStatic "jdk/internal/util/Preconditions" "SIOOBE_FORMATTER" "Ljava/util/function/BiFunction;") (by decide +kernel)) (hts (.initialized "jdk/internal/util/Preconditions") (by decide +kernel)) (hs _ fl_sf) hA
/-- from the entry, for every script of at most 3072 ints, the law comes to its end with true -/
theorem whole_start {p : Program} {e : Env} {s : State} {m : MethodId} {below : List Frame} {meth : Method} {c : Code} (l : Launch) {b L : Nat} {xs : Nat → Int32} (hL : L ≤ 3072) (C0 : lw_At p s m meth c b L xs) : W p l e room_1 s m #[Value.ref b] below meth c s.heap [] 0 0 (lw_Z below #[Value.ref b] s) (entryFrame m ([Value.ref b] : List Value).toArray 4) := by
  obtain ⟨w, hwl, hw, hK, hAO, hRO⟩ := world_at C0
  obtain ⟨hx, hb, hr, hml, hown, hts, hX, hbl, hlocks, hgv⟩ := C0
  have hlen : (sl [Value.ref b]).length ≤ 4 := Nat.le_of_ble_eq_true rfl
  have hl := L0_lh (n := 4) (vs := [Value.ref b]) hlen
  rw [lg_entry_eq]
  exact law_head (o := .inr (0, [])) hw hL p l e s m #[Value.ref b] below meth c ⟨hx, hb, hml, hown, fun x hx => hts x (Gt_lw hx), hK, hAO⟩ ⟨rfl, hr, hlocks, hX, hbl, hwl.symm, hRO⟩ s.heap [] _ ⟨hwl.symm, fun k q h => by simp [wsN] at h⟩ va_S.rf hl rfl
