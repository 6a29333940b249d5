/-! ===== texts: how long they are, their letters ===== -/
def kOk (w : WW) (a : Nat) : Prop := ∃ t, t < 11 ∧ a = wK w t
def ktF (w : WW) (a : Nat) : Nat → Nat
  | 0 => 0
  | n + 1 => if a = wK w n then n else ktF w a n
def kt (w : WW) (a : Nat) : Nat := ktF w a 11
theorem ktF_wK {w : WW} (h : wOk w) {t : Nat} (ht : t < 11) : ∀ n, t < n → n ≤ 11 → ktF w (wK w t) n = t
  | 0, h0, _ => absurd h0 (Nat.not_lt_zero t)
  | n + 1, h0, h1 => by
    simp only [ktF]
    by_cases e : wK w t = wK w n
    · rw [if_pos e]; exact (h.2 t n ht (by omega) e).symm
    · rw [if_neg e]; exact ktF_wK h ht n (by have : t ≠ n := fun z => e (by rw [z]); omega) (by omega)
theorem kt_wK {w : WW} (h : wOk w) {t : Nat} (ht : t < 11) : kt w (wK w t) = t := ktF_wK h ht 11 ht (Nat.le_refl _)
def kb (t : Nat) : List Int32 := kByt.getD t []
theorem kb_all : ∀ t, t < 11 → kLen.getD t 0 = (kb t).length ∧ (kb t).length ≤ 8 ∧ ∀ i, i < (kb t).length → (((kb t).getD i 0 &&& 255).toUInt32 % 65536).toInt32 = (kb t).getD i 0 := by decide +kernel
def K0 : KT := (fun _ => none, fun _ => none, fun _ => none, fun _ => none, fun _ => none, fun _ => none)
section TXT
variable {w : WW} {M : MI} {Q : Option Value → MM → Prop} {pc : Nat} {L : LL} {st : List Value} {u : MM}
theorem gs_val {t idx : Nat} (ht : t < 11) (hd : decode M.1 pc = .ok (.getfield idx, 3)) (hl : Cond.fieldLink M.2.2.2.1 idx "java/lang/String" "value" "[B" ∈ Gt) (h : GG w M Q (pc + 3) L (.ref (wKV w t) :: st) u) : GG w M Q pc L (.ref (wK w t) :: st) u := by
  intro p l e s m args below meth c C H locs ls hP hS hl2 hL
  have C0 := C
  obtain ⟨hx, hb, hml, hown, hts, hr, hlk, hK, hRO⟩ := C
  exact vk_getf hx hb (hRO.2.2.1.1 t ht).2.2.1 hS hown (hts _ hl) (fun _ z => z) hd (h p l e s m args below meth c C0 H locs ls hP hS hl2 hL)
theorem gs_cod {t idx : Nat} (ht : t < 11) (hd : decode M.1 pc = .ok (.getfield idx, 3)) (hl : Cond.fieldLink M.2.2.2.1 idx "java/lang/String" "coder" "B" ∈ Gt) (h : GG w M Q (pc + 3) L (.int 0 :: st) u) : GG w M Q pc L (.ref (wK w t) :: st) u := by
  intro p l e s m args below meth c C H locs ls hP hS hl2 hL
  have C0 := C
  obtain ⟨hx, hb, hml, hown, hts, hr, hlk, hK, hRO⟩ := C
  exact vk_getf hx hb (hRO.2.2.1.1 t ht).2.1 hS hown (hts _ hl) (fun _ z => z) hd (h p l e s m args below meth c C0 H locs ls hP hS hl2 hL)
theorem gs_cs {idx : Nat} (hd : decode M.1 pc = .ok (.getstatic idx, 3)) (hl : Cond.fieldLink M.2.2.2.1 idx "java/lang/String" "COMPACT_STRINGS" "Z" ∈ Gt) (h : GG w M Q (pc + 3) L (.int 1 :: st) u) : GG w M Q pc L st u := by
  intro p l e s m args below meth c C H locs ls hP hS hl2 hL
  have C0 := C
  obtain ⟨hx, hb, hml, hown, hts, hr, hlk, hK, hRO⟩ := C
  exact va_gets hx hb hRO.2.2.2.1 hS hown (hts _ hl) (fun _ z => z) hd (h p l e s m args below meth c C0 H locs ls hP hS hl2 hL)
theorem gs_fm {idx : Nat} (hd : decode M.1 pc = .ok (.getstatic idx, 3)) (hl : Cond.fieldLink M.2.2.2.1 idx "jdk/internal/util/Preconditions" "SIOOBE_FORMATTER" "Ljava/util/function/BiFunction;" ∈ Gt) (h : ∀ v : Value, (v = .null ∨ ∃ t, v = .ref t) → GG w M Q (pc + 3) L (v :: st) u) : GG w M Q pc L st u := by
  intro p l e s m args below meth c C H locs ls hP hS hl2 hL
  have C0 := C
  obtain ⟨hx, hb, hml, hown, hts, hr, hlk, hK, hRO⟩ := C
  rcases hRO.2.2.2.2 with z | ⟨t, z⟩
  · exact va_gets hx hb z hS hown (hts _ hl) (fun _ z => z) hd (h .null (Or.inl rfl) p l e s m args below meth c C0 H locs ls hP hS hl2 hL)
  · exact va_gets hx hb z hS hown (hts _ hl) (fun _ z => z) hd (h (.ref t) (Or.inr ⟨t, rfl⟩) p l e s m args below meth c C0 H locs ls hP hS hl2 hL)
theorem gs_len {t : Nat} (ht : t < 11) (hd : decode M.1 pc = .ok (.arraylength, 1)) (h : GG w M Q (pc + 1) L (.int (nI (kb t).length) :: st) u) : GG w M Q pc L (.ref (wKV w t) :: st) u := by
  intro p l e s m args below meth c C H locs ls hP hS hl2 hL
  have C0 := C
  obtain ⟨hx, hb, hml, hown, hts, hr, hlk, hK, hRO⟩ := C
  exact va_tlen hx hb (hRO.2.2.1.1 t ht).2.2.2 hS (v := nI (kb t).length) (by rw [(kb_all t ht).1]; rfl) hd (h p l e s m args below meth c C0 H locs ls hP hS hl2 hL)
theorem gs_ba {t : Nat} {i : Int32} (ht : t < 11) (hi : vp_in i (kb t).length) (hd : decode M.1 pc = .ok (.baload, 1)) (h : GG w M Q (pc + 1) L (.int ((kb t).getD (NN i) 0) :: st) u) : GG w M Q pc L (.int i :: .ref (wKV w t) :: st) u := by
  intro p l e s m args below meth c C H locs ls hP hS hl2 hL
  have C0 := C
  obtain ⟨hx, hb, hml, hown, hts, hr, hlk, hK, hRO⟩ := C
  exact va_tb hx hb (hRO.2.2.1.1 t ht).2.2.2 hS (i := i) (by rw [(kb_all t ht).1]; exact hi) (v := .int ((kb t).getD (NN i) 0)) rfl hd (h p l e s m args below meth c C0 H locs ls hP hS hl2 hL)
theorem gs_i2c {x : Int32} (hd : decode M.1 pc = .ok (.i2c, 1)) (h : GG w M Q (pc + 1) L (.int (x.toUInt32 % 65536).toInt32 :: st) u) : GG w M Q pc L (.int x :: st) u := by
  intro p l e s m args below meth c C H locs ls hP hS hl2 hL
  have C0 := C
  obtain ⟨hx, hb, hml, hown, hts, hr, hlk, hK, hRO⟩ := C
  exact lv_i2c hx hb hd rfl (h p l e s m args below meth c C0 H locs ls hP hS hl2 hL)
theorem gs_call {ins : Instr} {cs : CS} (hC : COk w M ins cs) (hd : decode M.1 pc = .ok (ins, 3)) (h0 : cs.1 ≤ st.length) (h1 : ((st.drop cs.1).map (fun v => v.category)).sum ≤ 8) (h2 : cs.2.1 (st.take cs.1).reverse u) (h : GG w M Q (pc + 3) L ((cs.2.2 (st.take cs.1).reverse u).1.toList ++ st.drop cs.1) (cs.2.2 (st.take cs.1).reverse u).2) : GG w M Q pc L st u := by
  intro p l e s m args below meth c C H locs ls hP hS hl2 hL
  exact hC p l e s m args below meth c C H locs ls pc st u _ hP hS (hl2.1.trans hL) hd h0 h1 h2 (fun H1 locs1 hP1 hS1 => h p l e s m args below meth c C H1 locs1 ls hP1 hS1 hl2 hL)
end TXT
theorem CT_ofG {w : WW} {y : MethodName} {M : MI} {pre : List Value → MM → Prop} {res : List Value → MM → Option Value × MM} (hy : plainFor y = true) (hown : y.cls = M.2.2.2.1)
    (h : ∀ as u, pre as u → (sl as).length ≤ M.2.1 ∧ GG w M (fun r u' => r = (res as u).1 ∧ u' = (res as u).2) 0 (L0 M.2.1 as) [] u) : CT w y M pre res := by
  intro l as u hp
  obtain ⟨hlen, hn⟩ := h as u hp
  refine va_MetF (cc := M.1) (maxL := M.2.1) (ret := M.2.2.1) hy rfl ?_
  intro p e s m args below meth c s₁ B hml hv
  obtain ⟨rfl, hP, hK1, hRO⟩ := hv
  have hts := atoms_spec (ws := wsy y M) B.pre
  have hfc : s.vm.findClass y.cls = some m.cls := findClass_of_methodNamed B.named
  rw [hown] at hfc
  rw [lg_entry_eq]
  exact hn p l e s m as.toArray below meth c ⟨B.exec, B.bytes, hml, hfc, fun x hx => hts x (List.mem_cons_of_mem _ hx), B.returns, B.notSynchronized, hK1, hRO⟩ s.heap [] _ hP va_S.rf (L0_lh hlen) (L0_len hlen)
theorem COk_VK {w : WW} {M My : MI} {y : MethodName} {pre : List Value → MM → Prop} {res : List Value → MM → Option Value × MM} {n idx : Nat} (hC : CT w y My pre res) (hw : ∀ x ∈ wV1 M.2.2.2.1 idx y My, x ∈ Gt) (hn : nmOk y n = true) (hr : rmOk M My = true) (hcl : y.cls = "java/lang/String")
    (hp : ∀ as u, pre as u → ∃ t r, t < 11 ∧ as = .ref (wK w t) :: r ∧ r.length = n) : COk w M (.invokevirtual idx) (n + 1, pre, res) := by
  intro p l e s m args below meth c C H locs ls pc st u Qf hP hS hls hd h0 h1 h2 kk
  obtain ⟨hx, hb, hml, hown, hts, hret, hlk, hK, hRO⟩ := C
  obtain ⟨t, r, ht, ha, hrl⟩ := hp _ _ h2
  simp only [nmOk, Bool.and_eq_true, decide_eq_true_eq] at hn
  simp only [rmOk, Bool.and_eq_true, Nat.beq_eq, Nat.ble_eq] at hr
  have hcode : .code y My.1 My.2.1 My.2.2.1 ∈ Gt := hw _ (by simp [wV1])
  have hG : GoodIn Gt (wsV M.2.2.2.1 idx y.cls y (wsy y My)) := Gt_goodIn (fun x hx => by
    simp only [wsV, List.mem_append] at hx
    rcases hx with hx | hx
    · exact hw x (by simp only [wV1]; simp only [List.mem_cons, List.not_mem_nil, or_false] at hx ⊢; rcases hx with h | h | h | h <;> simp [h])
    · exact wsy_in (own := M.2.2.2.1) (idx := idx) hcode x hx)
  have hst := take_split ha
  simp only [List.reverse_cons, List.append_assoc, List.singleton_append] at hst
  refine run_back (rest := st.drop (n + 1)) (va_runV (As := r) (C := y.cls) (b := wK w t) (rest := st.drop (n + 1)) ⟨hx, hb, hml, hown, hts⟩ (hC l _ u h2) (cwV n hts hG rfl hr.1.1.1 hr.1.1.2 ⟨rfl, hn.1.1, hn.1.2, hn.2⟩ ⟨hr.1.2, hr.2⟩) ⟨Wd_blind, ?_, fun U hU hW => ⟨by rw [← ha], Wd_at hK hRO hP hS hU hW⟩⟩ rfl hrl (by rw [hls]) hst (lv_room h1) hd ⟨Nat.zero_le _, Nat.zero_le _⟩) hS kk
  have := vk_recv hRO.2.2.1 ht hS
  rw [hcl]
  exact this
def MJ3_checkIndex_8e157 : MI := (cJ3_checkIndex_8e157, 3, some .int, RJ3, { frames := 1, cells := 0, slots := 0, locals := 20 })
def MJ0_checkIndex_df160 : MI := (cJ0_checkIndex_df160, 2, none, RJ0, { frames := 2, cells := 0, slots := 0, locals := 42 })
def MJ1_charAt_3b067 : MI := (cJ1_charAt_3b067, 2, some .char, RJ1, { frames := 3, cells := 0, slots := 0, locals := 63 })
def MJ0_coder_7d493 : MI := (cJ0_coder_7d493, 1, some .byte, RJ0, { frames := 0, cells := 0, slots := 0, locals := 0 })
def MJ0_isLatin1_aae02 : MI := (cJ0_isLatin1_aae02, 1, some .boolean, RJ0, { frames := 0, cells := 0, slots := 0, locals := 0 })
def MJ0_length_8abf5 : MI := (cJ0_length_8abf5, 1, some .int, RJ0, { frames := 1, cells := 0, slots := 0, locals := 20 })
def MJ0_charAt_5068e : MI := (cJ0_charAt_5068e, 2, some .char, RJ0, { frames := 5, cells := 0, slots := 0, locals := 105 })
-- Preconditions.checkIndex
def c3P : List Value → MM → Prop := fun as _ => ∃ i n v, as = [.int i, .int n, v] ∧ (v = .null ∨ ∃ t, v = .ref t) ∧ ¬ i < 0 ∧ i < n
def c3R : List Value → MM → Option Value × MM := fun as u => match as with | [.int i, _, _] => (some (.int i), u) | _ => (none, u)
theorem ct3 (w : WW) : CT w yJ3_checkIndex_8e157 MJ3_checkIndex_8e157 c3P c3R := by
  refine CT_ofG (by decide +kernel) rfl (fun as u h => ?_)
  obtain ⟨i, n, v, rfl, hv, h0, hn⟩ := h
  have hL : L0 MJ3_checkIndex_8e157.2.1 [.int i, .int n, v] = [some (.int i), some (.int n), some v] ∧ (sl [.int i, .int n, v]).length ≤ MJ3_checkIndex_8e157.2.1 := by
    rcases hv with rfl | ⟨t, rfl⟩
    · exact ⟨rfl, Nat.le_of_ble_eq_true rfl⟩
    · exact ⟨rfl, Nat.le_of_ble_eq_true rfl⟩
  refine ⟨hL.2, ?_⟩
  rw [hL.1]
  refine rn_iload_n (K := K0) (tg := []) (n := 0) (by decide +kernel) ?_
  refine rn_if_lt (K := K0) (tg := [9]) (o := 8) (by decide +kernel) (by decide +kernel) ⟨fun z => absurd z h0, fun _ => ?_⟩
  refine rn_iload_n (K := K0) (tg := []) (n := 0) (by decide +kernel) ?_
  refine rn_iload_n (K := K0) (tg := []) (n := 1) (by decide +kernel) ?_
  refine rn_icmp_lt (K := K0) (tg := [16]) (o := 10) (by decide +kernel) (by decide +kernel) ⟨fun _ => ?_, fun z => absurd hn z⟩
  refine rn_iload_n (K := K0) (tg := []) (n := 0) (by decide +kernel) ?_
  exact rn_iret (K := K0) (tg := []) (by decide +kernel) ⟨rfl, rfl, rfl⟩
-- String.checkIndex
def c0P : List Value → MM → Prop := fun as _ => ∃ i n, as = [.int i, .int n] ∧ ¬ i < 0 ∧ i < n
def c0R : List Value → MM → Option Value × MM := fun _ u => (none, u)
theorem ct0 (w : WW) : CT w yJ0_checkIndex_df160 MJ0_checkIndex_df160 c0P c0R := by
  refine CT_ofG (by decide +kernel) rfl (fun as u h => ?_)
  obtain ⟨i, n, rfl, h0, hn⟩ := h
  refine ⟨Nat.le_of_ble_eq_true rfl, ?_⟩
  show GG w MJ0_checkIndex_df160 _ 0 [some (.int i), some (.int n)] [] u
  refine rn_iload_n (K := K0) (tg := []) (n := 0) (by decide +kernel) ?_
  refine rn_iload_n (K := K0) (tg := []) (n := 1) (by decide +kernel) ?_
  refine gs_fm (idx := 1053) (by decide +kernel) (by decide +kernel) (fun v hv => ?_)
  refine gs_call (COk_S (n := 3) (idx := 1059) (ct3 w) (by decide +kernel) (by decide +kernel) (by decide)) (by decide +kernel) (Nat.le_of_ble_eq_true rfl) (Nat.le_of_ble_eq_true rfl) ⟨i, n, v, rfl, hv, h0, hn⟩ ?_
  refine rn_pop (K := K0) (tg := []) (by decide +kernel) ⟨rfl, ?_⟩
  exact rn_vret (K := K0) (tg := []) (by decide +kernel) ⟨rfl, rfl⟩
-- StringLatin1.charAt, of the text t
def c1P (w : WW) (t : Nat) : List Value → MM → Prop := fun as _ => ∃ i, as = [.ref (wKV w t), .int i] ∧ vp_in i (kb t).length
def c1R (t : Nat) : List Value → MM → Option Value × MM := fun as u => match as with | [_, .int i] => (some (.int ((kb t).getD (NN i) 0)), u) | _ => (none, u)
theorem i16_255 : (Int16.ofInt 255).toInt32 = 255 := by decide
theorem vi_ltn {i : Int32} {n : Nat} (h : vp_in i n) (hn : n < 2 ^ 31) : i < nI n := by
  obtain ⟨j, hj, rfl⟩ := vi_of h hn
  exact nI_lt hj hn
theorem ct1 (w : WW) (t : Nat) (ht : t < 11) : CT w yJ1_charAt_3b067 MJ1_charAt_3b067 (c1P w t) (c1R t) := by
  refine CT_ofG (by decide +kernel) rfl (fun as u h => ?_)
  obtain ⟨i, rfl, hi⟩ := h
  obtain ⟨k1, k2, k3⟩ := kb_all t ht
  have hlt := vi_ltn hi (by omega)
  refine ⟨Nat.le_of_ble_eq_true rfl, ?_⟩
  show GG w MJ1_charAt_3b067 _ 0 [some (.ref (wKV w t)), some (.int i)] [] u
  refine rn_iload_n (K := K0) (tg := []) (n := 1) (by decide +kernel) ?_
  refine rn_aload_n (K := K0) (tg := []) (n := 0) (by decide +kernel) ?_
  refine gs_len ht (by decide +kernel) ?_
  refine gs_call (COk_S (n := 2) (idx := 9) (ct0 w) (by decide +kernel) (by decide +kernel) (by decide)) (by decide +kernel) (Nat.le_of_ble_eq_true rfl) (Nat.le_of_ble_eq_true rfl) ⟨i, nI (kb t).length, rfl, vi_pos hi, hlt⟩ ?_
  refine rn_aload_n (K := K0) (tg := []) (n := 0) (by decide +kernel) ?_
  refine rn_iload_n (K := K0) (tg := []) (n := 1) (by decide +kernel) ?_
  refine gs_ba ht hi (by decide +kernel) ?_
  refine rn_sipush (K := K0) (tg := []) (n := 255) (by decide +kernel) ?_
  refine rn_iand (K := K0) (tg := []) (by decide +kernel) ?_
  refine gs_i2c (by decide +kernel) ?_
  rw [i16_255, k3 _ (vi_lt hi)]
  refine rn_iret (K := K0) (tg := []) (by decide +kernel) ⟨?_, rfl, rfl⟩
  rw [← k3 _ (vi_lt hi)]; exact pk_nc _
-- String.coder, String.isLatin1, of the text t
def cTP (w : WW) (t : Nat) : List Value → MM → Prop := fun as _ => as = [.ref (wK w t)]
def cTR (v : Int32) : List Value → MM → Option Value × MM := fun _ u => (some (.int v), u)
theorem ctC (w : WW) (t : Nat) (ht : t < 11) : CT w yJ0_coder_7d493 MJ0_coder_7d493 (cTP w t) (cTR 0) := by
  refine CT_ofG (by decide +kernel) rfl (fun as u h => ?_)
  cases h
  refine ⟨Nat.le_of_ble_eq_true rfl, ?_⟩
  show GG w MJ0_coder_7d493 _ 0 [some (.ref (wK w t))] [] u
  refine gs_cs (idx := 38) (by decide +kernel) (by decide +kernel) ?_
  refine rn_if_eq (K := K0) (tg := [13]) (o := 10) (by decide +kernel) (by decide +kernel) ⟨fun z => absurd (show (1 : Int32) = 0 from z) (by decide), fun _ => ?_⟩
  refine rn_aload_n (K := K0) (tg := []) (n := 0) (by decide +kernel) ?_
  refine gs_cod (idx := 15) ht (by decide +kernel) (by decide +kernel) ?_
  refine rn_goto (K := K0) (tg := [14]) (o := 4) (by decide +kernel) (by decide +kernel) ?_
  exact rn_iret (K := K0) (tg := []) (by decide +kernel) ⟨by decide, rfl, rfl⟩
theorem ctL (w : WW) (t : Nat) (ht : t < 11) : CT w yJ0_isLatin1_aae02 MJ0_isLatin1_aae02 (cTP w t) (cTR 1) := by
  refine CT_ofG (by decide +kernel) rfl (fun as u h => ?_)
  cases h
  refine ⟨Nat.le_of_ble_eq_true rfl, ?_⟩
  show GG w MJ0_isLatin1_aae02 _ 0 [some (.ref (wK w t))] [] u
  refine gs_cs (idx := 38) (by decide +kernel) (by decide +kernel) ?_
  refine rn_if_eq (K := K0) (tg := [17]) (o := 14) (by decide +kernel) (by decide +kernel) ⟨fun z => absurd (show (1 : Int32) = 0 from z) (by decide), fun _ => ?_⟩
  refine rn_aload_n (K := K0) (tg := []) (n := 0) (by decide +kernel) ?_
  refine gs_cod (idx := 15) ht (by decide +kernel) (by decide +kernel) ?_
  refine rn_if_ne (K := K0) (tg := [17]) (o := 7) (by decide +kernel) (by decide +kernel) ⟨fun z => absurd rfl z, fun _ => ?_⟩
  refine rn_iconst (K := K0) (tg := []) (n := 1) (by decide +kernel) ?_
  refine rn_goto (K := K0) (tg := [18]) (o := 4) (by decide +kernel) (by decide +kernel) ?_
  exact rn_iret (K := K0) (tg := []) (by decide +kernel) ⟨by decide, rfl, rfl⟩
-- String.length, String.charAt
def pJ0_length_8abf5 (_ : Nat) (_ : MM) : Prop := True
def rJ0_length_8abf5 (t : Nat) (_ : MM) : Int32 := nI (kb t).length
def pJ0_charAt_5068e (t : Nat) (i : Int32) (_ : MM) : Prop := vp_in i (kb t).length
def rJ0_charAt_5068e (t : Nat) (i : Int32) (_ : MM) : Int32 := (kb t).getD (NN i) 0
def csJ0_length_8abf5 (w : WW) : CS := (1, fun as u => match as with | [.ref a0] => kOk w a0 ∧ wOk w ∧ pJ0_length_8abf5 (kt w a0) u | _ => False, fun as u => match as with | [.ref a0] => (some (.int (rJ0_length_8abf5 (kt w a0) u)), u) | _ => (none, u))
def csJ0_charAt_5068e (w : WW) : CS := (2, fun as u => match as with | [.ref a0, .int a1] => kOk w a0 ∧ wOk w ∧ pJ0_charAt_5068e (kt w a0) a1 u | _ => False, fun as u => match as with | [.ref a0, .int a1] => (some (.int (rJ0_charAt_5068e (kt w a0) a1 u)), u) | _ => (none, u))
theorem ctJ0_length_8abf5 (w : WW) : CT w yJ0_length_8abf5 MJ0_length_8abf5 (csJ0_length_8abf5 w).2.1 (csJ0_length_8abf5 w).2.2 := by
  refine CT_ofG (by decide +kernel) rfl (fun as u h => ?_)
  obtain ⟨a, rfl, h⟩ := sgR h
  obtain ⟨⟨t, ht, rfl⟩, hw, -⟩ := h
  refine ⟨Nat.le_of_ble_eq_true rfl, ?_⟩
  simp only [csJ0_length_8abf5, kt_wK hw ht]
  show GG w MJ0_length_8abf5 _ 0 [some (.ref (wK w t))] [] u
  refine rn_aload_n (K := K0) (tg := []) (n := 0) (by decide +kernel) ?_
  refine gs_val (idx := 9) ht (by decide +kernel) (by decide +kernel) ?_
  refine gs_len ht (by decide +kernel) ?_
  refine rn_aload_n (K := K0) (tg := []) (n := 0) (by decide +kernel) ?_
  refine gs_call (COk_VK (n := 0) (idx := 335) (ctC w t ht) (by decide +kernel) (by decide +kernel) (by decide) rfl (fun as u h => ⟨t, [], ht, h, rfl⟩)) (by decide +kernel) (Nat.le_of_ble_eq_true rfl) (Nat.le_of_ble_eq_true rfl) rfl ?_
  refine rn_ishr (K := K0) (tg := []) (by decide +kernel) ?_
  have e : nI (kb t).length >>> ((0 : Int32) &&& 31) = nI (kb t).length := by
    rw [show ((0 : Int32) &&& 31) = 0 by decide, Int32.shiftRight_zero]
  exact rn_iret (K := K0) (tg := []) (by decide +kernel) ⟨rfl, by rw [e]; rfl, rfl⟩
theorem prJ0_length_8abf5 (w : WW) : ∀ as u, (csJ0_length_8abf5 w).2.1 as u → ∃ t r, t < 11 ∧ as = .ref (wK w t) :: r ∧ r.length = 0 := by
  intro as u h
  obtain ⟨a, rfl, h⟩ := sgR h
  obtain ⟨⟨t, ht, rfl⟩, -⟩ := h
  exact ⟨t, _, ht, rfl, rfl⟩
theorem ctJ0_charAt_5068e (w : WW) : CT w yJ0_charAt_5068e MJ0_charAt_5068e (csJ0_charAt_5068e w).2.1 (csJ0_charAt_5068e w).2.2 := by
  refine CT_ofG (by decide +kernel) rfl (fun as u h => ?_)
  obtain ⟨a, i, rfl, h⟩ := sgRI h
  obtain ⟨⟨t, ht, rfl⟩, hw, hi⟩ := h
  rw [kt_wK hw ht] at hi
  obtain ⟨k1, k2, k3⟩ := kb_all t ht
  refine ⟨Nat.le_of_ble_eq_true rfl, ?_⟩
  simp only [csJ0_charAt_5068e, kt_wK hw ht]
  show GG w MJ0_charAt_5068e _ 0 [some (.ref (wK w t)), some (.int i)] [] u
  refine rn_aload_n (K := K0) (tg := []) (n := 0) (by decide +kernel) ?_
  refine gs_call (COk_VK (n := 0) (idx := 492) (ctL w t ht) (by decide +kernel) (by decide +kernel) (by decide) rfl (fun as u h => ⟨t, [], ht, h, rfl⟩)) (by decide +kernel) (Nat.le_of_ble_eq_true rfl) (Nat.le_of_ble_eq_true rfl) rfl ?_
  refine rn_if_eq (K := K0) (tg := [16]) (o := 12) (by decide +kernel) (by decide +kernel) ⟨fun z => absurd (show (1 : Int32) = 0 from z) (by decide), fun _ => ?_⟩
  refine rn_aload_n (K := K0) (tg := []) (n := 0) (by decide +kernel) ?_
  refine gs_val (idx := 9) ht (by decide +kernel) (by decide +kernel) ?_
  refine rn_iload_n (K := K0) (tg := []) (n := 1) (by decide +kernel) ?_
  refine gs_call (COk_S (n := 2) (idx := 495) (ct1 w t ht) (by decide +kernel) (by decide +kernel) (by decide)) (by decide +kernel) (Nat.le_of_ble_eq_true rfl) (Nat.le_of_ble_eq_true rfl) ⟨i, rfl, hi⟩ ?_
  refine rn_iret (K := K0) (tg := []) (by decide +kernel) ⟨?_, rfl, rfl⟩
  show narrow .char (.int ((kb t).getD (NN i) 0)) = _
  rw [← k3 _ (vi_lt hi)]; exact pk_nc _
theorem prJ0_charAt_5068e (w : WW) : ∀ as u, (csJ0_charAt_5068e w).2.1 as u → ∃ t r, t < 11 ∧ as = .ref (wK w t) :: r ∧ r.length = 1 := by
  intro as u h
  obtain ⟨a, i, rfl, h⟩ := sgRI h
  obtain ⟨⟨t, ht, rfl⟩, -⟩ := h
  exact ⟨t, _, ht, rfl, rfl⟩
