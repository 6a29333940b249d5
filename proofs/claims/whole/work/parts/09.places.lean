/-! ===== places, and rows for the rows ===== -/
def NN (x : Int32) : Nat := x.toNatClampNeg
theorem ex_drop {a : Prop} {P : Nat → Prop} (h : a) : (∃ n, a ∧ P n) ↔ ∃ n, P n := ⟨fun ⟨n, z⟩ => ⟨n, z.2⟩, fun ⟨n, z⟩ => ⟨n, h, z⟩⟩
theorem ex_call {a b : Prop} {P : Nat → Prop} (h : a) : (∃ n, a ∧ b ∧ P n) ↔ b ∧ ∃ n, P n := ⟨fun ⟨n, z⟩ => ⟨z.2.1, n, z.2.2⟩, fun ⟨z, n, y⟩ => ⟨n, h, z, y⟩⟩
theorem ex_ret {a b : Prop} (h : a) : (∃ _n : Nat, a ∧ b) ↔ b := ⟨fun ⟨_, z⟩ => z.2, fun z => ⟨0, h, z⟩⟩
theorem WP_u {w : WW} {M : MI} {T : TB} {K : KT} {Q : Option Value → MM → Prop} {pc : Nat} {L : LL} {st : List Value} {u : MM} (i : Instr) (tg : List Nat) (h : lk T pc = some (i, tg)) : WP w M T K Q pc L st u ↔ ∃ n, stepP w M K Q i tg pc L st u (wp w M T K Q n) := WP_unf h
section EX
variable {w : WW} {M : MI} {T : TB} {K : KT} {Q : Option Value → MM → Prop} {pc : Nat} {L : LL} {st : List Value} {u : MM}
theorem WP_iconst {n : Int} {v : Int32} (h : lk T pc = some (.iconst n, [])) (hv : Int32.ofInt n = v) : WP w M T K Q pc L st u ↔ WP w M T K Q (pc + 1) L (.int v :: st) u := by subst hv; exact WP_unf h
theorem WP_bipush {n : Int} {v : Int32} (h : lk T pc = some (.bipush n, [])) (hv : (Int8.ofInt n).toInt32 = v) : WP w M T K Q pc L st u ↔ WP w M T K Q (pc + 2) L (.int v :: st) u := by subst hv; exact WP_unf h
theorem WP_sipush {n : Int} {v : Int32} (h : lk T pc = some (.sipush n, [])) (hv : (Int16.ofInt n).toInt32 = v) : WP w M T K Q pc L st u ↔ WP w M T K Q (pc + 3) L (.int v :: st) u := by subst hv; exact WP_unf h
theorem WP_lconst {n : Fin 2} {v : Int64} (h : lk T pc = some (.lconst n, [])) (hv : Int64.ofNat (n : Nat) = v) : WP w M T K Q pc L st u ↔ WP w M T K Q (pc + 1) L (.long v :: st) u := by subst hv; exact WP_unf h
theorem WP_iinc {n : Nat} {d : Int} {v x : Int32} {L' : LL} (h : lk T pc = some (.iinc n d, [])) (hv : Int32.ofInt d = v) (hl : lg L n = some (.int x)) (hL : ls1 L n (.int (x + v)) = L') : WP w M T K Q pc L st u ↔ WP w M T K Q (pc + 3) L' st u := by
  subst hv; subst hL
  refine (WP_unf h).trans ?_
  show (∃ m, (match lg L n with | some (.int x) => wp w M T K Q m (pc + 3) (ls1 L n (.int (x + Int32.ofInt d))) st u | _ => False)) ↔ _
  rw [hl]
  exact Iff.rfl
end EX
theorem i10 : ((1 : Int32) = 0) = False := by simp
theorem kl_i (x : Int32) : kl (some (.int x)) = some (.int x) := rfl
theorem kl_r (x : Nat) : kl (some (.ref x)) = some (.ref x) := rfl
theorem kl_n : kl none = none := rfl
theorem kl_l (x : Int64) : kl (some (.long x)) = none := rfl
/-- yes or no, as the machine has it -/
def bi (p : Prop) [Decidable p] : Int32 := if p then 1 else 0
def nb (v : Int32) : Prop := narrow .boolean (.int v) = .int v
theorem nb_0 : nb 0 := by unfold nb; decide
theorem nb_1 : nb 1 := by unfold nb; decide
theorem nb_bi (p : Prop) [Decidable p] : nb (bi p) := by unfold bi; split; exact nb_1; exact nb_0
theorem bi_0 (p : Prop) [Decidable p] : bi p = 0 ↔ ¬ p := by unfold bi; split <;> simp [*]
theorem bi_1 (p : Prop) [Decidable p] : bi p = 1 ↔ p := by unfold bi; split <;> simp [*]
theorem bi_01 (p : Prop) [Decidable p] : bi p = 0 ∨ bi p = 1 := by unfold bi; split <;> simp
theorem bi_t {p : Prop} [Decidable p] (h : p) : bi p = 1 := if_pos h
theorem bi_f {p : Prop} [Decidable p] (h : ¬ p) : bi p = 0 := if_neg h
theorem bi_cong {p q : Prop} [Decidable p] [Decidable q] (h : p ↔ q) : bi p = bi q := by unfold bi; by_cases hp : p <;> simp [hp, h.symm, h.mp, ← h]
def al {α : Type} : List (Nat × α) → Nat → Option α
  | [], _ => none
  | (a, v) :: t, n => if Nat.beq a n then some v else al t n
theorem al_mem {α : Type} : ∀ {l : List (Nat × α)} {n : Nat} {v : α}, al l n = some v → (n, v) ∈ l
  | [], _, _, h => by cases h
  | (a, x) :: t, n, v, h => by
    simp only [al] at h
    by_cases e : Nat.beq a n = true
    · rw [if_pos e] at h
      cases h
      rw [Nat.eq_of_beq_eq_true e]
      exact List.mem_cons_self
    · rw [if_neg e] at h
      exact List.mem_cons_of_mem _ (al_mem h)
theorem KOk_mk {w : WW} {M : MI} {fl : List (Nat × (Nat × Nat × Nat))} {ci : List (Nat × Int32)} {cl : List (Nat × Int64)} {st tx : Nat → Option Nat} {cs : List (Nat × CS)} (h1 : (fl.all fun q => fOk M.2.2.2.1 q.1 q.2.1 q.2.2.1 q.2.2.2) = true) (h2 : (ci.all fun q => decide (Cond.constant M.2.2.2.1 q.1 q.2 ∈ Gt)) = true) (h3 : (cl.all fun q => decide (Cond.constantLong M.2.2.2.1 q.1 q.2 ∈ Gt)) = true)
    (h4 : ∀ n t, st n = some t → t < 4 ∧ M.2.2.2.1 = "ChairDance$One" ∧ stIx t = n) (h5 : ∀ n t, tx n = some t → t < 11 ∧ M.2.2.2.1 = "ChairDance$Tape" ∧ kIx t = n) (h6 : ∀ q ∈ cs, (q.1 < 65536 → COk w M (.invokevirtual q.1) q.2) ∧ (65536 ≤ q.1 → COk w M (.invokestatic (q.1 - 65536)) q.2)) : KOk w M (al fl, al ci, al cl, st, tx, al cs) := by
  refine ⟨fun n ci' j kd h => ?_, fun n v h => ?_, fun n v h => ?_, h4, h5, fun n c h => h6 (n, c) (al_mem h)⟩
  · exact List.all_eq_true.mp h1 _ (al_mem h)
  · have := List.all_eq_true.mp h2 _ (al_mem h)
    simpa using this
  · have := List.all_eq_true.mp h3 _ (al_mem h)
    simpa using this
theorem st_ok (n t : Nat) (h : al [(33, 0), (37, 1), (40, 2), (43, 3)] n = some t) : t < 4 ∧ RX1 = "ChairDance$One" ∧ stIx t = n := by
  have := al_mem h
  simp only [List.mem_cons, Prod.mk.injEq, List.not_mem_nil, or_false] at this
  rcases this with ⟨rfl, rfl⟩ | ⟨rfl, rfl⟩ | ⟨rfl, rfl⟩ | ⟨rfl, rfl⟩ <;> exact ⟨by decide, rfl, rfl⟩
theorem tx_ok (n t : Nat) (h : al [(25, 0), (35, 1), (66, 2), (89, 3), (95, 4), (124, 5), (114, 6), (116, 7), (118, 8), (120, 9), (122, 10)] n = some t) : t < 11 ∧ RX4 = "ChairDance$Tape" ∧ kIx t = n := by
  have := al_mem h
  simp only [List.mem_cons, Prod.mk.injEq, List.not_mem_nil, or_false] at this
  rcases this with ⟨rfl, rfl⟩ | ⟨rfl, rfl⟩ | ⟨rfl, rfl⟩ | ⟨rfl, rfl⟩ | ⟨rfl, rfl⟩ | ⟨rfl, rfl⟩ | ⟨rfl, rfl⟩ | ⟨rfl, rfl⟩ | ⟨rfl, rfl⟩ | ⟨rfl, rfl⟩ | ⟨rfl, rfl⟩ <;> exact ⟨by decide, rfl, rfl⟩
theorem itV {w : WW} {M : MI} {n : Nat} {cs : CS} (hn : n < 65536) (h : COk w M (.invokevirtual n) cs) : (n < 65536 → COk w M (.invokevirtual n) cs) ∧ (65536 ≤ n → COk w M (.invokestatic (n - 65536)) cs) := ⟨fun _ => h, fun z => absurd z (by omega)⟩
theorem itS {w : WW} {M : MI} {n : Nat} {cs : CS} (h : COk w M (.invokestatic n) cs) : (n + 65536 < 65536 → COk w M (.invokevirtual (n + 65536)) cs) ∧ (65536 ≤ n + 65536 → COk w M (.invokestatic (n + 65536 - 65536)) cs) := ⟨fun z => absurd z (by omega), fun _ => by rw [Nat.add_sub_cancel]; exact h⟩
theorem NN_nI {n : Nat} (h : n < 2 ^ 31) : NN (nI n) = n := nI_clamp h
theorem vi_of {i : Int32} {n : Nat} (h : vp_in i n) (hn : n < 2 ^ 31 := by decide) : ∃ j, j < n ∧ i = nI j := vp_in_of h hn
theorem vi_nI {j n : Nat} (h : j < n) (hn : n < 2 ^ 31 := by decide) : vp_in (nI j) n := vp_in_nI h hn
theorem nlit (n : Nat) : (OfNat.ofNat n : Int32) = nI n := rfl
theorem vi_lt {i : Int32} {n : Nat} (h : vp_in i n) : NN i < n := in_lt h
theorem vi_eq {i : Int32} {n : Nat} (h : vp_in i n) (hn : n < 2 ^ 31 := by decide) : i = nI (NN i) := by obtain ⟨j, hj, rfl⟩ := vi_of h hn; rw [NN_nI (by omega)]
theorem v3_0 : vp_in 0 3 := vi_nI (j := 0) (by decide)
theorem v3_1 : vp_in 1 3 := vi_nI (j := 1) (by decide)
theorem v3_2 : vp_in 2 3 := vi_nI (j := 2) (by decide)
theorem v7_0 : vp_in 0 7 := vi_nI (j := 0) (by decide)
theorem v7_1 : vp_in 1 7 := vi_nI (j := 1) (by decide)
theorem v7_2 : vp_in 2 7 := vi_nI (j := 2) (by decide)
theorem v7_3 : vp_in 3 7 := vi_nI (j := 3) (by decide)
theorem v7_4 : vp_in 4 7 := vi_nI (j := 4) (by decide)
theorem v7_5 : vp_in 5 7 := vi_nI (j := 5) (by decide)
theorem v7_6 : vp_in 6 7 := vi_nI (j := 6) (by decide)
-- places
def xA (w : WW) : Nat := wl w + 0
def hA (w : WW) (q : Nat) : Nat := wl w + (1 + 19 * q)
def saA (w : WW) (q : Nat) : Nat := wl w + (1 + 19 * q + 1)
def seA (w : WW) (q s : Nat) : Nat := wl w + (1 + 19 * q + 2 + s)
def oaA (w : WW) (q : Nat) : Nat := wl w + (1 + 19 * q + 8)
def onA (w : WW) (q c : Nat) : Nat := wl w + (1 + 19 * q + 9 + c)
def tpA (w : WW) : Nat := wl w + 58
def tbA (w : WW) : Nat := wl w + 59
def shA (w : WW) : Nat := wl w + 60
def stA (w : WW) (s : Nat) : Nat := wl w + (61 + 2 * s)
def snA (w : WW) (s : Nat) : Nat := wl w + (62 + 2 * s)
def fdA (w : WW) : Nat := wl w + 69
def mA (w : WW) : Nat := wl w + 70
/-- the reference's rows: 0 row, 1 found, 2 held, 3 tape, 4 bitsOf, 5 sizeOf, 6 sheets, 7 lent, 8 image, 9 before -/
def mrA (w : WW) (k : Nat) : Nat := wl w + (71 + k)
theorem ob_at (w : WW) (k : Nat) : ob w (wl w + k) = lay[k]? := by simp [ob]
theorem ly_hall : ∀ q, q < 3 → lay[1 + 19 * q]? = some (.inl (0, 91 * q, 3, [.inr (.inr (1 + 19 * q + 1)), .inr (.inr (1 + 19 * q + 8)), .inl 1, .inl 2, .inl 0])) := by
  intro q hq
  have hq2 : q = 0 ∨ q = 1 ∨ q = 2 := by omega
  rcases hq2 with rfl | rfl | rfl <;> rfl
theorem ly_sa : ∀ q, q < 3 → lay[1 + 19 * q + 1]? = some (.inr (2, 6, .inr (.inr (1 + 19 * q + 2, 1)))) := by
  intro q hq
  have hq2 : q = 0 ∨ q = 1 ∨ q = 2 := by omega
  rcases hq2 with rfl | rfl | rfl <;> rfl
theorem ly_se : ∀ q, q < 3 → ∀ s, s < 6 → lay[1 + 19 * q + 2 + s]? = some (.inl (2, 91 * q + 3 + 3 * s, 3, [.inl 0, .inl 1, .inl 2])) := by
  intro q hq s hs
  have hq2 : q = 0 ∨ q = 1 ∨ q = 2 := by omega
  rcases hq2 with rfl | rfl | rfl <;> (have hs2 : s = 0 ∨ s = 1 ∨ s = 2 ∨ s = 3 ∨ s = 4 ∨ s = 5 := (by omega); rcases hs2 with rfl | rfl | rfl | rfl | rfl | rfl <;> rfl)
theorem ly_oa : ∀ q, q < 3 → lay[1 + 19 * q + 8]? = some (.inr (3, 10, .inr (.inr (1 + 19 * q + 9, 1)))) := by
  intro q hq
  have hq2 : q = 0 ∨ q = 1 ∨ q = 2 := by omega
  rcases hq2 with rfl | rfl | rfl <;> rfl
theorem ly_on : ∀ q, q < 3 → ∀ c, c < 10 → lay[1 + 19 * q + 9 + c]? = some (.inl (1, 91 * q + 21 + 7 * c, 7, [.inl 0, .inl 1, .inl 2, .inl 3, .inl 4, .inl 5, .inl 6])) := by
  intro q hq c hc
  have hq2 : q = 0 ∨ q = 1 ∨ q = 2 := by omega
  rcases hq2 with rfl | rfl | rfl <;> (have hc2 : c = 0 ∨ c = 1 ∨ c = 2 ∨ c = 3 ∨ c = 4 ∨ c = 5 ∨ c = 6 ∨ c = 7 ∨ c = 8 ∨ c = 9 := (by omega); rcases hc2 with rfl | rfl | rfl | rfl | rfl | rfl | rfl | rfl | rfl | rfl <;> rfl)
theorem ly_st : ∀ s, s < 4 → lay[61 + 2 * s]? = some (.inl (3, 430 + 2 * s, 2, [.inr (.inr (62 + 2 * s)), .inl 0, .inl 1])) := by
  intro s hs
  have hs2 : s = 0 ∨ s = 1 ∨ s = 2 ∨ s = 3 := by omega
  rcases hs2 with rfl | rfl | rfl | rfl <;> rfl
theorem ly_sn : ∀ s, s < 4 → lay[62 + 2 * s]? = some (.inr (1, 40, .inr (.inl (40 * s)))) := by
  intro s hs
  have hs2 : s = 0 ∨ s = 1 ∨ s = 2 ∨ s = 3 := by omega
  rcases hs2 with rfl | rfl | rfl | rfl <;> rfl
theorem ly_x : lay[0]? = some (.inl (5, 280, 1, [.inr (.inr 1), .inr (.inr 20), .inr (.inr 39), .inl 0, .inr (.inr 58), .inr (.inr 60), .inr (.inr 69)])) := rfl
theorem ly_tp : lay[58]? = some (.inl (4, 281, 5, [.inr (.inr 59), .inl 0, .inl 1, .inl 2, .inl 3, .inl 4])) := rfl
theorem ly_tb : lay[59]? = some (.inr (0, 120, .inl 300)) := rfl
theorem ly_sh : lay[60]? = some (.inr (4, 4, .inr (.inr (61, 2)))) := rfl
theorem ly_fd : lay[69]? = some (.inr (0, 7, .inl 440)) := rfl
theorem ly_m : lay[70]? = some (.inl (6, 1000, 8, [.inr (.inr 71), .inl 0, .inr (.inr 72), .inr (.inr 73), .inr (.inr 74), .inl 1, .inl 2, .inl 3, .inl 4, .inr (.inl 450), .inl 5, .inl 6, .inr (.inr 75), .inr (.inr 76), .inr (.inr 77), .inr (.inr 78), .inr (.inr 79), .inr (.inr 80), .inl 7])) := rfl
-- what is at a place
theorem ob_h (w : WW) {q : Nat} (h : q < 3) : ob w (hA w q) = some (.inl (0, 91 * q, 3, [.inr (.inr (1 + 19 * q + 1)), .inr (.inr (1 + 19 * q + 8)), .inl 1, .inl 2, .inl 0])) := (ob_at w _).trans (ly_hall q h)
theorem ob_sa (w : WW) {q : Nat} (h : q < 3) : ob w (saA w q) = some (.inr (2, 6, .inr (.inr (1 + 19 * q + 2, 1)))) := (ob_at w _).trans (ly_sa q h)
theorem ob_se (w : WW) {q s : Nat} (h : q < 3) (hs : s < 6) : ob w (seA w q s) = some (.inl (2, 91 * q + 3 + 3 * s, 3, [.inl 0, .inl 1, .inl 2])) := (ob_at w _).trans (ly_se q h s hs)
theorem ob_oa (w : WW) {q : Nat} (h : q < 3) : ob w (oaA w q) = some (.inr (3, 10, .inr (.inr (1 + 19 * q + 9, 1)))) := (ob_at w _).trans (ly_oa q h)
theorem ob_on (w : WW) {q c : Nat} (h : q < 3) (hc : c < 10) : ob w (onA w q c) = some (.inl (1, 91 * q + 21 + 7 * c, 7, [.inl 0, .inl 1, .inl 2, .inl 3, .inl 4, .inl 5, .inl 6])) := (ob_at w _).trans (ly_on q h c hc)
theorem ob_st (w : WW) {s : Nat} (h : s < 4) : ob w (stA w s) = some (.inl (3, 430 + 2 * s, 2, [.inr (.inr (62 + 2 * s)), .inl 0, .inl 1])) := (ob_at w _).trans (ly_st s h)
theorem ob_sn (w : WW) {s : Nat} (h : s < 4) : ob w (snA w s) = some (.inr (1, 40, .inr (.inl (40 * s)))) := (ob_at w _).trans (ly_sn s h)
theorem ob_x (w : WW) : ob w (xA w) = some (.inl (5, 280, 1, [.inr (.inr 1), .inr (.inr 20), .inr (.inr 39), .inl 0, .inr (.inr 58), .inr (.inr 60), .inr (.inr 69)])) := (ob_at w _).trans ly_x
theorem ob_tp (w : WW) : ob w (tpA w) = some (.inl (4, 281, 5, [.inr (.inr 59), .inl 0, .inl 1, .inl 2, .inl 3, .inl 4])) := (ob_at w _).trans ly_tp
theorem ob_tb (w : WW) : ob w (tbA w) = some (.inr (0, 120, .inl 300)) := (ob_at w _).trans ly_tb
theorem ob_sh (w : WW) : ob w (shA w) = some (.inr (4, 4, .inr (.inr (61, 2)))) := (ob_at w _).trans ly_sh
theorem ob_fd (w : WW) : ob w (fdA w) = some (.inr (0, 7, .inl 440)) := (ob_at w _).trans ly_fd
theorem ob_m (w : WW) : ob w (mA w) = some (.inl (6, 1000, 8, [.inr (.inr 71), .inl 0, .inr (.inr 72), .inr (.inr 73), .inr (.inr 74), .inl 1, .inl 2, .inl 3, .inl 4, .inr (.inl 450), .inl 5, .inl 6, .inr (.inr 75), .inr (.inr 76), .inr (.inr 77), .inr (.inr 78), .inr (.inr 79), .inr (.inr 80), .inl 7])) := (ob_at w _).trans ly_m
theorem ok_x0 (w : WW) : okR w (xA w) 5 0 := ⟨_, _, _, _, ob_x w, rfl⟩
theorem rf_x0 (w : WW) : rfF w (xA w) 0 = hA w 0 := by rw [rfF, ob_x w]; rfl
theorem ok_x1 (w : WW) : okR w (xA w) 5 1 := ⟨_, _, _, _, ob_x w, rfl⟩
theorem rf_x1 (w : WW) : rfF w (xA w) 1 = hA w 1 := by rw [rfF, ob_x w]; rfl
theorem ok_x2 (w : WW) : okR w (xA w) 5 2 := ⟨_, _, _, _, ob_x w, rfl⟩
theorem rf_x2 (w : WW) : rfF w (xA w) 2 = hA w 2 := by rw [rfF, ob_x w]; rfl
theorem ok_x3 (w : WW) : okI w (xA w) 5 3 := ⟨_, _, _, _, ob_x w, rfl⟩
theorem ix_x3 (w : WW) : ixI w (xA w) 3 = 280 := by rw [ixI, ob_x w]; rfl
theorem ok_x4 (w : WW) : okR w (xA w) 5 4 := ⟨_, _, _, _, ob_x w, rfl⟩
theorem rf_x4 (w : WW) : rfF w (xA w) 4 = tpA w := by rw [rfF, ob_x w]; rfl
theorem ok_x5 (w : WW) : okR w (xA w) 5 5 := ⟨_, _, _, _, ob_x w, rfl⟩
theorem rf_x5 (w : WW) : rfF w (xA w) 5 = shA w := by rw [rfF, ob_x w]; rfl
theorem ok_x6 (w : WW) : okR w (xA w) 5 6 := ⟨_, _, _, _, ob_x w, rfl⟩
theorem rf_x6 (w : WW) : rfF w (xA w) 6 = fdA w := by rw [rfF, ob_x w]; rfl
theorem ok_h0 (w : WW) {q : Nat} (h : q < 3) : okR w (hA w q) 0 0 := ⟨_, _, _, _, ob_h w h, rfl⟩
theorem rf_h0 (w : WW) {q : Nat} (h : q < 3) : rfF w (hA w q) 0 = saA w q := by rw [rfF, ob_h w h]; rfl
theorem ok_h1 (w : WW) {q : Nat} (h : q < 3) : okR w (hA w q) 0 1 := ⟨_, _, _, _, ob_h w h, rfl⟩
theorem rf_h1 (w : WW) {q : Nat} (h : q < 3) : rfF w (hA w q) 1 = oaA w q := by rw [rfF, ob_h w h]; rfl
theorem ok_h2 (w : WW) {q : Nat} (h : q < 3) : okI w (hA w q) 0 2 := ⟨_, _, _, _, ob_h w h, rfl⟩
theorem ix_h2 (w : WW) {q : Nat} (h : q < 3) : ixI w (hA w q) 2 = 91 * q + 1 := by rw [ixI, ob_h w h]; rfl
theorem ok_h3 (w : WW) {q : Nat} (h : q < 3) : okI w (hA w q) 0 3 := ⟨_, _, _, _, ob_h w h, rfl⟩
theorem ix_h3 (w : WW) {q : Nat} (h : q < 3) : ixI w (hA w q) 3 = 91 * q + 2 := by rw [ixI, ob_h w h]; rfl
theorem ok_h4 (w : WW) {q : Nat} (h : q < 3) : okI w (hA w q) 0 4 := ⟨_, _, _, _, ob_h w h, rfl⟩
theorem ix_h4 (w : WW) {q : Nat} (h : q < 3) : ixI w (hA w q) 4 = 91 * q := by rw [ixI, ob_h w h]; rfl
theorem ok_se0 (w : WW) {q s : Nat} (h : q < 3) (hs : s < 6) : okI w (seA w q s) 2 0 := ⟨_, _, _, _, ob_se w h hs, rfl⟩
theorem ix_se0 (w : WW) {q s : Nat} (h : q < 3) (hs : s < 6) : ixI w (seA w q s) 0 = 91 * q + (3 + 3 * s + 0) := by rw [ixI, ob_se w h hs]; simp only [List.getElem?_cons_zero, List.getElem?_cons_succ]; omega
theorem ok_se1 (w : WW) {q s : Nat} (h : q < 3) (hs : s < 6) : okI w (seA w q s) 2 1 := ⟨_, _, _, _, ob_se w h hs, rfl⟩
theorem ix_se1 (w : WW) {q s : Nat} (h : q < 3) (hs : s < 6) : ixI w (seA w q s) 1 = 91 * q + (3 + 3 * s + 1) := by rw [ixI, ob_se w h hs]; simp only [List.getElem?_cons_zero, List.getElem?_cons_succ]; omega
theorem ok_se2 (w : WW) {q s : Nat} (h : q < 3) (hs : s < 6) : okI w (seA w q s) 2 2 := ⟨_, _, _, _, ob_se w h hs, rfl⟩
theorem ix_se2 (w : WW) {q s : Nat} (h : q < 3) (hs : s < 6) : ixI w (seA w q s) 2 = 91 * q + (3 + 3 * s + 2) := by rw [ixI, ob_se w h hs]; simp only [List.getElem?_cons_zero, List.getElem?_cons_succ]; omega
theorem ok_on0 (w : WW) {q c : Nat} (h : q < 3) (hc : c < 10) : okI w (onA w q c) 1 0 := ⟨_, _, _, _, ob_on w h hc, rfl⟩
theorem ix_on0 (w : WW) {q c : Nat} (h : q < 3) (hc : c < 10) : ixI w (onA w q c) 0 = 91 * q + (21 + 7 * c + 0) := by rw [ixI, ob_on w h hc]; simp only [List.getElem?_cons_zero, List.getElem?_cons_succ]; omega
theorem ok_on1 (w : WW) {q c : Nat} (h : q < 3) (hc : c < 10) : okI w (onA w q c) 1 1 := ⟨_, _, _, _, ob_on w h hc, rfl⟩
theorem ix_on1 (w : WW) {q c : Nat} (h : q < 3) (hc : c < 10) : ixI w (onA w q c) 1 = 91 * q + (21 + 7 * c + 1) := by rw [ixI, ob_on w h hc]; simp only [List.getElem?_cons_zero, List.getElem?_cons_succ]; omega
theorem ok_on2 (w : WW) {q c : Nat} (h : q < 3) (hc : c < 10) : okI w (onA w q c) 1 2 := ⟨_, _, _, _, ob_on w h hc, rfl⟩
theorem ix_on2 (w : WW) {q c : Nat} (h : q < 3) (hc : c < 10) : ixI w (onA w q c) 2 = 91 * q + (21 + 7 * c + 2) := by rw [ixI, ob_on w h hc]; simp only [List.getElem?_cons_zero, List.getElem?_cons_succ]; omega
theorem ok_on3 (w : WW) {q c : Nat} (h : q < 3) (hc : c < 10) : okI w (onA w q c) 1 3 := ⟨_, _, _, _, ob_on w h hc, rfl⟩
theorem ix_on3 (w : WW) {q c : Nat} (h : q < 3) (hc : c < 10) : ixI w (onA w q c) 3 = 91 * q + (21 + 7 * c + 3) := by rw [ixI, ob_on w h hc]; simp only [List.getElem?_cons_zero, List.getElem?_cons_succ]; omega
theorem ok_on4 (w : WW) {q c : Nat} (h : q < 3) (hc : c < 10) : okI w (onA w q c) 1 4 := ⟨_, _, _, _, ob_on w h hc, rfl⟩
theorem ix_on4 (w : WW) {q c : Nat} (h : q < 3) (hc : c < 10) : ixI w (onA w q c) 4 = 91 * q + (21 + 7 * c + 4) := by rw [ixI, ob_on w h hc]; simp only [List.getElem?_cons_zero, List.getElem?_cons_succ]; omega
theorem ok_on5 (w : WW) {q c : Nat} (h : q < 3) (hc : c < 10) : okI w (onA w q c) 1 5 := ⟨_, _, _, _, ob_on w h hc, rfl⟩
theorem ix_on5 (w : WW) {q c : Nat} (h : q < 3) (hc : c < 10) : ixI w (onA w q c) 5 = 91 * q + (21 + 7 * c + 5) := by rw [ixI, ob_on w h hc]; simp only [List.getElem?_cons_zero, List.getElem?_cons_succ]; omega
theorem ok_on6 (w : WW) {q c : Nat} (h : q < 3) (hc : c < 10) : okI w (onA w q c) 1 6 := ⟨_, _, _, _, ob_on w h hc, rfl⟩
theorem ix_on6 (w : WW) {q c : Nat} (h : q < 3) (hc : c < 10) : ixI w (onA w q c) 6 = 91 * q + (21 + 7 * c + 6) := by rw [ixI, ob_on w h hc]; simp only [List.getElem?_cons_zero, List.getElem?_cons_succ]; omega
theorem ok_tp0 (w : WW) : okR w (tpA w) 4 0 := ⟨_, _, _, _, ob_tp w, rfl⟩
theorem rf_tp0 (w : WW) : rfF w (tpA w) 0 = tbA w := by rw [rfF, ob_tp w]; rfl
theorem ok_tp1 (w : WW) : okI w (tpA w) 4 1 := ⟨_, _, _, _, ob_tp w, rfl⟩
theorem ix_tp1 (w : WW) : ixI w (tpA w) 1 = 281 := by rw [ixI, ob_tp w]; rfl
theorem ok_tp2 (w : WW) : okI w (tpA w) 4 2 := ⟨_, _, _, _, ob_tp w, rfl⟩
theorem ix_tp2 (w : WW) : ixI w (tpA w) 2 = 282 := by rw [ixI, ob_tp w]; rfl
theorem ok_tp3 (w : WW) : okI w (tpA w) 4 3 := ⟨_, _, _, _, ob_tp w, rfl⟩
theorem ix_tp3 (w : WW) : ixI w (tpA w) 3 = 283 := by rw [ixI, ob_tp w]; rfl
theorem ok_tp4 (w : WW) : okI w (tpA w) 4 4 := ⟨_, _, _, _, ob_tp w, rfl⟩
theorem ix_tp4 (w : WW) : ixI w (tpA w) 4 = 284 := by rw [ixI, ob_tp w]; rfl
theorem ok_tp5 (w : WW) : okI w (tpA w) 4 5 := ⟨_, _, _, _, ob_tp w, rfl⟩
theorem ix_tp5 (w : WW) : ixI w (tpA w) 5 = 285 := by rw [ixI, ob_tp w]; rfl
theorem ok_st0 (w : WW) {s : Nat} (h : s < 4) : okR w (stA w s) 3 0 := ⟨_, _, _, _, ob_st w h, rfl⟩
theorem rf_st0 (w : WW) {s : Nat} (h : s < 4) : rfF w (stA w s) 0 = snA w s := by rw [rfF, ob_st w h]; rfl
theorem ok_st1 (w : WW) {s : Nat} (h : s < 4) : okI w (stA w s) 3 1 := ⟨_, _, _, _, ob_st w h, rfl⟩
theorem ix_st1 (w : WW) {s : Nat} (h : s < 4) : ixI w (stA w s) 1 = 430 + 2 * s := by rw [ixI, ob_st w h]; rfl
theorem ok_st2 (w : WW) {s : Nat} (h : s < 4) : okI w (stA w s) 3 2 := ⟨_, _, _, _, ob_st w h, rfl⟩
theorem ix_st2 (w : WW) {s : Nat} (h : s < 4) : ixI w (stA w s) 2 = 430 + 2 * s + 1 := by rw [ixI, ob_st w h]; rfl
theorem ok_m0 (w : WW) : okR w (mA w) 6 0 := ⟨_, _, _, _, ob_m w, rfl⟩
theorem rf_m0 (w : WW) : rfF w (mA w) 0 = mrA w 0 := by rw [rfF, ob_m w]; rfl
theorem ok_m1 (w : WW) : okI w (mA w) 6 1 := ⟨_, _, _, _, ob_m w, rfl⟩
theorem ix_m1 (w : WW) : ixI w (mA w) 1 = 1000 := by rw [ixI, ob_m w]; rfl
theorem ok_m2 (w : WW) : okR w (mA w) 6 2 := ⟨_, _, _, _, ob_m w, rfl⟩
theorem rf_m2 (w : WW) : rfF w (mA w) 2 = mrA w 1 := by rw [rfF, ob_m w]; rfl
theorem ok_m3 (w : WW) : okR w (mA w) 6 3 := ⟨_, _, _, _, ob_m w, rfl⟩
theorem rf_m3 (w : WW) : rfF w (mA w) 3 = mrA w 2 := by rw [rfF, ob_m w]; rfl
theorem ok_m4 (w : WW) : okR w (mA w) 6 4 := ⟨_, _, _, _, ob_m w, rfl⟩
theorem rf_m4 (w : WW) : rfF w (mA w) 4 = mrA w 3 := by rw [rfF, ob_m w]; rfl
theorem ok_m5 (w : WW) : okI w (mA w) 6 5 := ⟨_, _, _, _, ob_m w, rfl⟩
theorem ix_m5 (w : WW) : ixI w (mA w) 5 = 1001 := by rw [ixI, ob_m w]; rfl
theorem ok_m6 (w : WW) : okI w (mA w) 6 6 := ⟨_, _, _, _, ob_m w, rfl⟩
theorem ix_m6 (w : WW) : ixI w (mA w) 6 = 1002 := by rw [ixI, ob_m w]; rfl
theorem ok_m7 (w : WW) : okI w (mA w) 6 7 := ⟨_, _, _, _, ob_m w, rfl⟩
theorem ix_m7 (w : WW) : ixI w (mA w) 7 = 1003 := by rw [ixI, ob_m w]; rfl
theorem ok_m8 (w : WW) : okI w (mA w) 6 8 := ⟨_, _, _, _, ob_m w, rfl⟩
theorem ix_m8 (w : WW) : ixI w (mA w) 8 = 1004 := by rw [ixI, ob_m w]; rfl
theorem ok_m9 (w : WW) : okJ w (mA w) 6 9 := ⟨_, _, _, _, ob_m w, rfl⟩
theorem ix_m9 (w : WW) : ixJ w (mA w) 9 = 450 := by rw [ixJ, ob_m w]; rfl
theorem ok_m10 (w : WW) : okI w (mA w) 6 10 := ⟨_, _, _, _, ob_m w, rfl⟩
theorem ix_m10 (w : WW) : ixI w (mA w) 10 = 1005 := by rw [ixI, ob_m w]; rfl
theorem ok_m11 (w : WW) : okI w (mA w) 6 11 := ⟨_, _, _, _, ob_m w, rfl⟩
theorem ix_m11 (w : WW) : ixI w (mA w) 11 = 1006 := by rw [ixI, ob_m w]; rfl
theorem ok_m12 (w : WW) : okR w (mA w) 6 12 := ⟨_, _, _, _, ob_m w, rfl⟩
theorem rf_m12 (w : WW) : rfF w (mA w) 12 = mrA w 4 := by rw [rfF, ob_m w]; rfl
theorem ok_m13 (w : WW) : okR w (mA w) 6 13 := ⟨_, _, _, _, ob_m w, rfl⟩
theorem rf_m13 (w : WW) : rfF w (mA w) 13 = mrA w 5 := by rw [rfF, ob_m w]; rfl
theorem ok_m14 (w : WW) : okR w (mA w) 6 14 := ⟨_, _, _, _, ob_m w, rfl⟩
theorem rf_m14 (w : WW) : rfF w (mA w) 14 = mrA w 6 := by rw [rfF, ob_m w]; rfl
theorem ok_m15 (w : WW) : okR w (mA w) 6 15 := ⟨_, _, _, _, ob_m w, rfl⟩
theorem rf_m15 (w : WW) : rfF w (mA w) 15 = mrA w 7 := by rw [rfF, ob_m w]; rfl
theorem ok_m16 (w : WW) : okR w (mA w) 6 16 := ⟨_, _, _, _, ob_m w, rfl⟩
theorem rf_m16 (w : WW) : rfF w (mA w) 16 = mrA w 8 := by rw [rfF, ob_m w]; rfl
theorem ok_m17 (w : WW) : okR w (mA w) 6 17 := ⟨_, _, _, _, ob_m w, rfl⟩
theorem rf_m17 (w : WW) : rfF w (mA w) 17 = mrA w 9 := by rw [rfF, ob_m w]; rfl
theorem ok_m18 (w : WW) : okI w (mA w) 6 18 := ⟨_, _, _, _, ob_m w, rfl⟩
theorem ix_m18 (w : WW) : ixI w (mA w) 18 = 1007 := by rw [ixI, ob_m w]; rfl
theorem ly_tbb : lay[59]? = some (.inr (0, 120, .inl 300)) := rfl
theorem ob_tbb (w : WW) : ob w (tbA w) = some (.inr (0, 120, .inl 300)) := (ob_at w 59).trans ly_tbb
theorem as_tbb (w : WW) (i : Int32) : okAS w (tbA w) i ↔ vp_in i 120 := ⟨fun ⟨n, b, h, h2⟩ => by have e := (ob_tbb w).symm.trans h; cases e; exact h2, fun h => ⟨_, _, ob_tbb w, h⟩⟩
theorem ai_tbb (w : WW) (i : Int32) : okAI w (tbA w) i ↔ vp_in i 120 := ⟨fun h => h.elim (as_tbb w i).mp (fun ⟨t, _, _, h, _⟩ => by rw [ob_tbb w] at h; cases h), fun h => Or.inl ((as_tbb w i).mpr h)⟩
theorem xa_tbb (w : WW) (i : Int32) : ixA w (tbA w) i = 300 + NN i := by rw [ixA, ob_tbb w]; rfl
theorem rd_tbb (w : WW) (u : MM) (i : Int32) : rdA w u (tbA w) i = u.1 (300 + NN i) := by rw [rdA, ob_tbb w]; rfl
theorem ly_fdd : lay[69]? = some (.inr (0, 7, .inl 440)) := rfl
theorem ob_fdd (w : WW) : ob w (fdA w) = some (.inr (0, 7, .inl 440)) := (ob_at w 69).trans ly_fdd
theorem as_fdd (w : WW) (i : Int32) : okAS w (fdA w) i ↔ vp_in i 7 := ⟨fun ⟨n, b, h, h2⟩ => by have e := (ob_fdd w).symm.trans h; cases e; exact h2, fun h => ⟨_, _, ob_fdd w, h⟩⟩
theorem ai_fdd (w : WW) (i : Int32) : okAI w (fdA w) i ↔ vp_in i 7 := ⟨fun h => h.elim (as_fdd w i).mp (fun ⟨t, _, _, h, _⟩ => by rw [ob_fdd w] at h; cases h), fun h => Or.inl ((as_fdd w i).mpr h)⟩
theorem xa_fdd (w : WW) (i : Int32) : ixA w (fdA w) i = 440 + NN i := by rw [ixA, ob_fdd w]; rfl
theorem rd_fdd (w : WW) (u : MM) (i : Int32) : rdA w u (fdA w) i = u.1 (440 + NN i) := by rw [rdA, ob_fdd w]; rfl
theorem ly_mr0 : lay[71]? = some (.inr (0, 182, .inl 1100)) := rfl
theorem ob_mr0 (w : WW) : ob w (mrA w 0) = some (.inr (0, 182, .inl 1100)) := (ob_at w 71).trans ly_mr0
theorem as_mr0 (w : WW) (i : Int32) : okAS w (mrA w 0) i ↔ vp_in i 182 := ⟨fun ⟨n, b, h, h2⟩ => by have e := (ob_mr0 w).symm.trans h; cases e; exact h2, fun h => ⟨_, _, ob_mr0 w, h⟩⟩
theorem ai_mr0 (w : WW) (i : Int32) : okAI w (mrA w 0) i ↔ vp_in i 182 := ⟨fun h => h.elim (as_mr0 w i).mp (fun ⟨t, _, _, h, _⟩ => by rw [ob_mr0 w] at h; cases h), fun h => Or.inl ((as_mr0 w i).mpr h)⟩
theorem xa_mr0 (w : WW) (i : Int32) : ixA w (mrA w 0) i = 1100 + NN i := by rw [ixA, ob_mr0 w]; rfl
theorem rd_mr0 (w : WW) (u : MM) (i : Int32) : rdA w u (mrA w 0) i = u.1 (1100 + NN i) := by rw [rdA, ob_mr0 w]; rfl
theorem ly_mr1 : lay[72]? = some (.inr (0, 7, .inl 1300)) := rfl
theorem ob_mr1 (w : WW) : ob w (mrA w 1) = some (.inr (0, 7, .inl 1300)) := (ob_at w 72).trans ly_mr1
theorem as_mr1 (w : WW) (i : Int32) : okAS w (mrA w 1) i ↔ vp_in i 7 := ⟨fun ⟨n, b, h, h2⟩ => by have e := (ob_mr1 w).symm.trans h; cases e; exact h2, fun h => ⟨_, _, ob_mr1 w, h⟩⟩
theorem ai_mr1 (w : WW) (i : Int32) : okAI w (mrA w 1) i ↔ vp_in i 7 := ⟨fun h => h.elim (as_mr1 w i).mp (fun ⟨t, _, _, h, _⟩ => by rw [ob_mr1 w] at h; cases h), fun h => Or.inl ((as_mr1 w i).mpr h)⟩
theorem xa_mr1 (w : WW) (i : Int32) : ixA w (mrA w 1) i = 1300 + NN i := by rw [ixA, ob_mr1 w]; rfl
theorem rd_mr1 (w : WW) (u : MM) (i : Int32) : rdA w u (mrA w 1) i = u.1 (1300 + NN i) := by rw [rdA, ob_mr1 w]; rfl
theorem ly_mr2 : lay[73]? = some (.inr (0, 6, .inl 1310)) := rfl
theorem ob_mr2 (w : WW) : ob w (mrA w 2) = some (.inr (0, 6, .inl 1310)) := (ob_at w 73).trans ly_mr2
theorem as_mr2 (w : WW) (i : Int32) : okAS w (mrA w 2) i ↔ vp_in i 6 := ⟨fun ⟨n, b, h, h2⟩ => by have e := (ob_mr2 w).symm.trans h; cases e; exact h2, fun h => ⟨_, _, ob_mr2 w, h⟩⟩
theorem ai_mr2 (w : WW) (i : Int32) : okAI w (mrA w 2) i ↔ vp_in i 6 := ⟨fun h => h.elim (as_mr2 w i).mp (fun ⟨t, _, _, h, _⟩ => by rw [ob_mr2 w] at h; cases h), fun h => Or.inl ((as_mr2 w i).mpr h)⟩
theorem xa_mr2 (w : WW) (i : Int32) : ixA w (mrA w 2) i = 1310 + NN i := by rw [ixA, ob_mr2 w]; rfl
theorem rd_mr2 (w : WW) (u : MM) (i : Int32) : rdA w u (mrA w 2) i = u.1 (1310 + NN i) := by rw [rdA, ob_mr2 w]; rfl
theorem ly_mr3 : lay[74]? = some (.inr (0, 120, .inl 1320)) := rfl
theorem ob_mr3 (w : WW) : ob w (mrA w 3) = some (.inr (0, 120, .inl 1320)) := (ob_at w 74).trans ly_mr3
theorem as_mr3 (w : WW) (i : Int32) : okAS w (mrA w 3) i ↔ vp_in i 120 := ⟨fun ⟨n, b, h, h2⟩ => by have e := (ob_mr3 w).symm.trans h; cases e; exact h2, fun h => ⟨_, _, ob_mr3 w, h⟩⟩
theorem ai_mr3 (w : WW) (i : Int32) : okAI w (mrA w 3) i ↔ vp_in i 120 := ⟨fun h => h.elim (as_mr3 w i).mp (fun ⟨t, _, _, h, _⟩ => by rw [ob_mr3 w] at h; cases h), fun h => Or.inl ((as_mr3 w i).mpr h)⟩
theorem xa_mr3 (w : WW) (i : Int32) : ixA w (mrA w 3) i = 1320 + NN i := by rw [ixA, ob_mr3 w]; rfl
theorem rd_mr3 (w : WW) (u : MM) (i : Int32) : rdA w u (mrA w 3) i = u.1 (1320 + NN i) := by rw [rdA, ob_mr3 w]; rfl
theorem ly_mr4 : lay[75]? = some (.inr (0, 4, .inl 1440)) := rfl
theorem ob_mr4 (w : WW) : ob w (mrA w 4) = some (.inr (0, 4, .inl 1440)) := (ob_at w 75).trans ly_mr4
theorem as_mr4 (w : WW) (i : Int32) : okAS w (mrA w 4) i ↔ vp_in i 4 := ⟨fun ⟨n, b, h, h2⟩ => by have e := (ob_mr4 w).symm.trans h; cases e; exact h2, fun h => ⟨_, _, ob_mr4 w, h⟩⟩
theorem ai_mr4 (w : WW) (i : Int32) : okAI w (mrA w 4) i ↔ vp_in i 4 := ⟨fun h => h.elim (as_mr4 w i).mp (fun ⟨t, _, _, h, _⟩ => by rw [ob_mr4 w] at h; cases h), fun h => Or.inl ((as_mr4 w i).mpr h)⟩
theorem xa_mr4 (w : WW) (i : Int32) : ixA w (mrA w 4) i = 1440 + NN i := by rw [ixA, ob_mr4 w]; rfl
theorem rd_mr4 (w : WW) (u : MM) (i : Int32) : rdA w u (mrA w 4) i = u.1 (1440 + NN i) := by rw [rdA, ob_mr4 w]; rfl
theorem ly_mr5 : lay[76]? = some (.inr (0, 4, .inl 1444)) := rfl
theorem ob_mr5 (w : WW) : ob w (mrA w 5) = some (.inr (0, 4, .inl 1444)) := (ob_at w 76).trans ly_mr5
theorem as_mr5 (w : WW) (i : Int32) : okAS w (mrA w 5) i ↔ vp_in i 4 := ⟨fun ⟨n, b, h, h2⟩ => by have e := (ob_mr5 w).symm.trans h; cases e; exact h2, fun h => ⟨_, _, ob_mr5 w, h⟩⟩
theorem ai_mr5 (w : WW) (i : Int32) : okAI w (mrA w 5) i ↔ vp_in i 4 := ⟨fun h => h.elim (as_mr5 w i).mp (fun ⟨t, _, _, h, _⟩ => by rw [ob_mr5 w] at h; cases h), fun h => Or.inl ((as_mr5 w i).mpr h)⟩
theorem xa_mr5 (w : WW) (i : Int32) : ixA w (mrA w 5) i = 1444 + NN i := by rw [ixA, ob_mr5 w]; rfl
theorem rd_mr5 (w : WW) (u : MM) (i : Int32) : rdA w u (mrA w 5) i = u.1 (1444 + NN i) := by rw [rdA, ob_mr5 w]; rfl
theorem ly_mr8 : lay[79]? = some (.inr (0, 91, .inl 1500)) := rfl
theorem ob_mr8 (w : WW) : ob w (mrA w 8) = some (.inr (0, 91, .inl 1500)) := (ob_at w 79).trans ly_mr8
theorem as_mr8 (w : WW) (i : Int32) : okAS w (mrA w 8) i ↔ vp_in i 91 := ⟨fun ⟨n, b, h, h2⟩ => by have e := (ob_mr8 w).symm.trans h; cases e; exact h2, fun h => ⟨_, _, ob_mr8 w, h⟩⟩
theorem ai_mr8 (w : WW) (i : Int32) : okAI w (mrA w 8) i ↔ vp_in i 91 := ⟨fun h => h.elim (as_mr8 w i).mp (fun ⟨t, _, _, h, _⟩ => by rw [ob_mr8 w] at h; cases h), fun h => Or.inl ((as_mr8 w i).mpr h)⟩
theorem xa_mr8 (w : WW) (i : Int32) : ixA w (mrA w 8) i = 1500 + NN i := by rw [ixA, ob_mr8 w]; rfl
theorem rd_mr8 (w : WW) (u : MM) (i : Int32) : rdA w u (mrA w 8) i = u.1 (1500 + NN i) := by rw [rdA, ob_mr8 w]; rfl
theorem ly_mr9 : lay[80]? = some (.inr (0, 91, .inl 1600)) := rfl
theorem ob_mr9 (w : WW) : ob w (mrA w 9) = some (.inr (0, 91, .inl 1600)) := (ob_at w 80).trans ly_mr9
theorem as_mr9 (w : WW) (i : Int32) : okAS w (mrA w 9) i ↔ vp_in i 91 := ⟨fun ⟨n, b, h, h2⟩ => by have e := (ob_mr9 w).symm.trans h; cases e; exact h2, fun h => ⟨_, _, ob_mr9 w, h⟩⟩
theorem ai_mr9 (w : WW) (i : Int32) : okAI w (mrA w 9) i ↔ vp_in i 91 := ⟨fun h => h.elim (as_mr9 w i).mp (fun ⟨t, _, _, h, _⟩ => by rw [ob_mr9 w] at h; cases h), fun h => Or.inl ((as_mr9 w i).mpr h)⟩
theorem xa_mr9 (w : WW) (i : Int32) : ixA w (mrA w 9) i = 1600 + NN i := by rw [ixA, ob_mr9 w]; rfl
theorem rd_mr9 (w : WW) (u : MM) (i : Int32) : rdA w u (mrA w 9) i = u.1 (1600 + NN i) := by rw [rdA, ob_mr9 w]; rfl
theorem ly_mr6 : lay[77]? = some (.inr (1, 160, .inr (.inl 200))) := rfl
theorem ob_mr6 (w : WW) : ob w (mrA w 6) = some (.inr (1, 160, .inr (.inl 200))) := (ob_at w 77).trans ly_mr6
theorem ly_mr7 : lay[78]? = some (.inr (1, 40, .inr (.inl 400))) := rfl
theorem ob_mr7 (w : WW) : ob w (mrA w 7) = some (.inr (1, 40, .inr (.inl 400))) := (ob_at w 78).trans ly_mr7
theorem aj_mr6 (w : WW) (i : Int32) : okAJ w (mrA w 6) i ↔ vp_in i 160 := ⟨fun ⟨n, b, h, h2⟩ => by have e := (ob_mr6 w).symm.trans h; cases e; exact h2, fun h2 => ⟨_, _, ob_mr6 w, h2⟩⟩
theorem xj_mr6 (w : WW) (i : Int32) : ixAJ w (mrA w 6) i = 200 + NN i := by rw [ixAJ, ob_mr6 w]; rfl
theorem aj_mr7 (w : WW) (i : Int32) : okAJ w (mrA w 7) i ↔ vp_in i 40 := ⟨fun ⟨n, b, h, h2⟩ => by have e := (ob_mr7 w).symm.trans h; cases e; exact h2, fun h2 => ⟨_, _, ob_mr7 w, h2⟩⟩
theorem xj_mr7 (w : WW) (i : Int32) : ixAJ w (mrA w 7) i = 400 + NN i := by rw [ixAJ, ob_mr7 w]; rfl
theorem aj_sn (w : WW) {s : Nat} (hs : s < 4) (i : Int32) : okAJ w (snA w s) i ↔ vp_in i 40 := ⟨fun ⟨n, b, h, h2⟩ => by have e := (ob_sn w hs).symm.trans h; cases e; exact h2, fun h2 => ⟨_, _, ob_sn w hs, h2⟩⟩
theorem xj_sn (w : WW) {s : Nat} (hs : s < 4) (i : Int32) : ixAJ w (snA w s) i = 40 * s + NN i := by rw [ixAJ, ob_sn w hs]; rfl
theorem ar_sa (w : WW) {q : Nat} (h : q < 3) (i : Int32) : okAR w (saA w q) i ↔ vp_in i 6 := ⟨fun ⟨t, n, x, d, h1, h2, _⟩ => by have e := (ob_sa w h).symm.trans h1; cases e; exact h2, fun h2 => ⟨_, _, _, _, ob_sa w h, h2, by decide, by decide⟩⟩
theorem rf_sa (w : WW) {q : Nat} (h : q < 3) (i : Int32) : rfA w (saA w q) i = seA w q (NN i) := by rw [rfA, ob_sa w h]; simp only [seA, NN]; omega
theorem ar_oa (w : WW) {q : Nat} (h : q < 3) (i : Int32) : okAR w (oaA w q) i ↔ vp_in i 10 := ⟨fun ⟨t, n, x, d, h1, h2, _⟩ => by have e := (ob_oa w h).symm.trans h1; cases e; exact h2, fun h2 => ⟨_, _, _, _, ob_oa w h, h2, by decide, by decide⟩⟩
theorem rf_oa (w : WW) {q : Nat} (h : q < 3) (i : Int32) : rfA w (oaA w q) i = onA w q (NN i) := by rw [rfA, ob_oa w h]; simp only [onA, NN]; omega
theorem ar_sh (w : WW) (i : Int32) : okAR w (shA w) i ↔ vp_in i 4 := ⟨fun ⟨t, n, x, d, h1, h2, _⟩ => by have e := (ob_sh w).symm.trans h1; cases e; exact h2, fun h2 => ⟨_, _, _, _, ob_sh w, h2, by decide, by decide⟩⟩
theorem rf_sh (w : WW) (i : Int32) : rfA w (shA w) i = stA w (NN i) := by rw [rfA, ob_sh w]; simp only [stA, NN]; omega
-- halls, ones, seats, sheets by their places
def hOk (w : WW) (a : Nat) : Prop := ∃ q, q < 3 ∧ a = hA w q
def hq (w : WW) (a : Nat) : Nat := (a - wl w - 1) / 19
theorem hq_hA (w : WW) (q : Nat) : hq w (hA w q) = q := by simp only [hq, hA]; omega
theorem hOk_h (w : WW) {q : Nat} (h : q < 3) : hOk w (hA w q) := ⟨q, h, rfl⟩
def oOk (w : WW) (a : Nat) : Prop := ∃ q c, q < 3 ∧ c < 10 ∧ a = onA w q c
def eOk (w : WW) (a : Nat) : Prop := ∃ q s, q < 3 ∧ s < 6 ∧ a = seA w q s
def tOk (w : WW) (a : Nat) : Prop := ∃ s, s < 4 ∧ a = stA w s
def tq (w : WW) (a : Nat) : Nat := (a - wl w - 61) / 2
theorem tq_stA (w : WW) (s : Nat) : tq w (stA w s) = s := by simp only [tq, stA]; omega
def fo (w : WW) (a : Nat) : Nat := ixI w a 0
theorem oOk_on (w : WW) {q c : Nat} (h : q < 3) (hc : c < 10) : oOk w (onA w q c) := ⟨q, c, h, hc, rfl⟩
theorem eOk_se (w : WW) {q s : Nat} (h : q < 3) (hs : s < 6) : eOk w (seA w q s) := ⟨q, s, h, hs, rfl⟩
theorem tOk_st (w : WW) {s : Nat} (h : s < 4) : tOk w (stA w s) := ⟨s, h, rfl⟩
theorem fo_on (w : WW) {q c : Nat} (h : q < 3) (hc : c < 10) : fo w (onA w q c) = 91 * q + (21 + 7 * c) := ix_on0 w h hc
theorem fo_se (w : WW) {q s : Nat} (h : q < 3) (hs : s < 6) : fo w (seA w q s) = 91 * q + (3 + 3 * s) := ix_se0 w h hs
theorem okO_h {w : WW} {a : Nat} {P : Prop} (h : hOk w a ∧ P) : okO w a 0 := by obtain ⟨⟨q, h1, rfl⟩, -⟩ := h; exact ⟨_, _, _, ob_h w h1⟩
theorem okO_o {w : WW} {a : Nat} {P : Prop} (h : oOk w a ∧ P) : okO w a 1 := by obtain ⟨⟨q, c, h1, h2, rfl⟩, -⟩ := h; exact ⟨_, _, _, ob_on w h1 h2⟩
theorem okO_e {w : WW} {a : Nat} {P : Prop} (h : eOk w a ∧ P) : okO w a 2 := by obtain ⟨⟨q, c, h1, h2, rfl⟩, -⟩ := h; exact ⟨_, _, _, ob_se w h1 h2⟩
theorem okO_t {w : WW} {a : Nat} {P : Prop} (h : tOk w a ∧ P) : okO w a 3 := by obtain ⟨⟨q, h1, rfl⟩, -⟩ := h; exact ⟨_, _, _, ob_st w h1⟩
theorem okO_tp {w : WW} {a : Nat} {P : Prop} (h : a = tpA w ∧ P) : okO w a 4 := by obtain ⟨rfl, -⟩ := h; exact ⟨_, _, _, ob_tp w⟩
theorem okO_x {w : WW} {a : Nat} {P : Prop} (h : a = xA w ∧ P) : okO w a 5 := by obtain ⟨rfl, -⟩ := h; exact ⟨_, _, _, ob_x w⟩
theorem okO_m {w : WW} {a : Nat} {P : Prop} (h : a = mA w ∧ P) : okO w a 6 := by obtain ⟨rfl, -⟩ := h; exact ⟨_, _, _, ob_m w⟩
theorem ok_o0 {w : WW} {a : Nat} (h : oOk w a) : okI w a 1 0 := by obtain ⟨q, c, h1, h2, rfl⟩ := h; exact ok_on0 w h1 h2
theorem ix_o0 {w : WW} {a : Nat} (h : oOk w a) : ixI w a 0 = fo w a + 0 := by obtain ⟨q, c, h1, h2, rfl⟩ := h; rw [ix_on0 w h1 h2, fo_on w h1 h2]; omega
theorem ok_o1 {w : WW} {a : Nat} (h : oOk w a) : okI w a 1 1 := by obtain ⟨q, c, h1, h2, rfl⟩ := h; exact ok_on1 w h1 h2
theorem ix_o1 {w : WW} {a : Nat} (h : oOk w a) : ixI w a 1 = fo w a + 1 := by obtain ⟨q, c, h1, h2, rfl⟩ := h; rw [ix_on1 w h1 h2, fo_on w h1 h2]; omega
theorem ok_o2 {w : WW} {a : Nat} (h : oOk w a) : okI w a 1 2 := by obtain ⟨q, c, h1, h2, rfl⟩ := h; exact ok_on2 w h1 h2
theorem ix_o2 {w : WW} {a : Nat} (h : oOk w a) : ixI w a 2 = fo w a + 2 := by obtain ⟨q, c, h1, h2, rfl⟩ := h; rw [ix_on2 w h1 h2, fo_on w h1 h2]; omega
theorem ok_o3 {w : WW} {a : Nat} (h : oOk w a) : okI w a 1 3 := by obtain ⟨q, c, h1, h2, rfl⟩ := h; exact ok_on3 w h1 h2
theorem ix_o3 {w : WW} {a : Nat} (h : oOk w a) : ixI w a 3 = fo w a + 3 := by obtain ⟨q, c, h1, h2, rfl⟩ := h; rw [ix_on3 w h1 h2, fo_on w h1 h2]; omega
theorem ok_o4 {w : WW} {a : Nat} (h : oOk w a) : okI w a 1 4 := by obtain ⟨q, c, h1, h2, rfl⟩ := h; exact ok_on4 w h1 h2
theorem ix_o4 {w : WW} {a : Nat} (h : oOk w a) : ixI w a 4 = fo w a + 4 := by obtain ⟨q, c, h1, h2, rfl⟩ := h; rw [ix_on4 w h1 h2, fo_on w h1 h2]; omega
theorem ok_o5 {w : WW} {a : Nat} (h : oOk w a) : okI w a 1 5 := by obtain ⟨q, c, h1, h2, rfl⟩ := h; exact ok_on5 w h1 h2
theorem ix_o5 {w : WW} {a : Nat} (h : oOk w a) : ixI w a 5 = fo w a + 5 := by obtain ⟨q, c, h1, h2, rfl⟩ := h; rw [ix_on5 w h1 h2, fo_on w h1 h2]; omega
theorem ok_o6 {w : WW} {a : Nat} (h : oOk w a) : okI w a 1 6 := by obtain ⟨q, c, h1, h2, rfl⟩ := h; exact ok_on6 w h1 h2
theorem ix_o6 {w : WW} {a : Nat} (h : oOk w a) : ixI w a 6 = fo w a + 6 := by obtain ⟨q, c, h1, h2, rfl⟩ := h; rw [ix_on6 w h1 h2, fo_on w h1 h2]; omega
theorem ok_e0 {w : WW} {a : Nat} (h : eOk w a) : okI w a 2 0 := by obtain ⟨q, c, h1, h2, rfl⟩ := h; exact ok_se0 w h1 h2
theorem ix_e0 {w : WW} {a : Nat} (h : eOk w a) : ixI w a 0 = fo w a + 0 := by obtain ⟨q, c, h1, h2, rfl⟩ := h; rw [ix_se0 w h1 h2, fo_se w h1 h2]; omega
theorem ok_e1 {w : WW} {a : Nat} (h : eOk w a) : okI w a 2 1 := by obtain ⟨q, c, h1, h2, rfl⟩ := h; exact ok_se1 w h1 h2
theorem ix_e1 {w : WW} {a : Nat} (h : eOk w a) : ixI w a 1 = fo w a + 1 := by obtain ⟨q, c, h1, h2, rfl⟩ := h; rw [ix_se1 w h1 h2, fo_se w h1 h2]; omega
theorem ok_e2 {w : WW} {a : Nat} (h : eOk w a) : okI w a 2 2 := by obtain ⟨q, c, h1, h2, rfl⟩ := h; exact ok_se2 w h1 h2
theorem ix_e2 {w : WW} {a : Nat} (h : eOk w a) : ixI w a 2 = fo w a + 2 := by obtain ⟨q, c, h1, h2, rfl⟩ := h; rw [ix_se2 w h1 h2, fo_se w h1 h2]; omega
theorem sgI {P : Int32 → Prop} {as : List Value} (h : match as with | [.int a0] => P a0 | _ => False) : ∃ (a0 : Int32), as = [.int a0] ∧ P a0 := by
  split at h
  · exact ⟨_, rfl, h⟩
  · exact False.elim h
theorem sgII {P : Int32 → Int32 → Prop} {as : List Value} (h : match as with | [.int a0, .int a1] => P a0 a1 | _ => False) : ∃ (a0 : Int32) (a1 : Int32), as = [.int a0, .int a1] ∧ P a0 a1 := by
  split at h
  · exact ⟨_, _, rfl, h⟩
  · exact False.elim h
theorem sgIII {P : Int32 → Int32 → Int32 → Prop} {as : List Value} (h : match as with | [.int a0, .int a1, .int a2] => P a0 a1 a2 | _ => False) : ∃ (a0 : Int32) (a1 : Int32) (a2 : Int32), as = [.int a0, .int a1, .int a2] ∧ P a0 a1 a2 := by
  split at h
  · exact ⟨_, _, _, rfl, h⟩
  · exact False.elim h
theorem sgIIR {P : Int32 → Int32 → Nat → Prop} {as : List Value} (h : match as with | [.int a0, .int a1, .ref a2] => P a0 a1 a2 | _ => False) : ∃ (a0 : Int32) (a1 : Int32) (a2 : Nat), as = [.int a0, .int a1, .ref a2] ∧ P a0 a1 a2 := by
  split at h
  · exact ⟨_, _, _, rfl, h⟩
  · exact False.elim h
theorem sgIJ {P : Int32 → Int64 → Prop} {as : List Value} (h : match as with | [.int a0, .long a1] => P a0 a1 | _ => False) : ∃ (a0 : Int32) (a1 : Int64), as = [.int a0, .long a1] ∧ P a0 a1 := by
  split at h
  · exact ⟨_, _, rfl, h⟩
  · exact False.elim h
theorem sgIR {P : Int32 → Nat → Prop} {as : List Value} (h : match as with | [.int a0, .ref a1] => P a0 a1 | _ => False) : ∃ (a0 : Int32) (a1 : Nat), as = [.int a0, .ref a1] ∧ P a0 a1 := by
  split at h
  · exact ⟨_, _, rfl, h⟩
  · exact False.elim h
theorem sgR {P : Nat → Prop} {as : List Value} (h : match as with | [.ref a0] => P a0 | _ => False) : ∃ (a0 : Nat), as = [.ref a0] ∧ P a0 := by
  split at h
  · exact ⟨_, rfl, h⟩
  · exact False.elim h
theorem sgRI {P : Nat → Int32 → Prop} {as : List Value} (h : match as with | [.ref a0, .int a1] => P a0 a1 | _ => False) : ∃ (a0 : Nat) (a1 : Int32), as = [.ref a0, .int a1] ∧ P a0 a1 := by
  split at h
  · exact ⟨_, _, rfl, h⟩
  · exact False.elim h
theorem sgRII {P : Nat → Int32 → Int32 → Prop} {as : List Value} (h : match as with | [.ref a0, .int a1, .int a2] => P a0 a1 a2 | _ => False) : ∃ (a0 : Nat) (a1 : Int32) (a2 : Int32), as = [.ref a0, .int a1, .int a2] ∧ P a0 a1 a2 := by
  split at h
  · exact ⟨_, _, _, rfl, h⟩
  · exact False.elim h
theorem sgRIII {P : Nat → Int32 → Int32 → Int32 → Prop} {as : List Value} (h : match as with | [.ref a0, .int a1, .int a2, .int a3] => P a0 a1 a2 a3 | _ => False) : ∃ (a0 : Nat) (a1 : Int32) (a2 : Int32) (a3 : Int32), as = [.ref a0, .int a1, .int a2, .int a3] ∧ P a0 a1 a2 a3 := by
  split at h
  · exact ⟨_, _, _, _, rfl, h⟩
  · exact False.elim h
theorem sgRIIII {P : Nat → Int32 → Int32 → Int32 → Int32 → Prop} {as : List Value} (h : match as with | [.ref a0, .int a1, .int a2, .int a3, .int a4] => P a0 a1 a2 a3 a4 | _ => False) : ∃ (a0 : Nat) (a1 : Int32) (a2 : Int32) (a3 : Int32) (a4 : Int32), as = [.ref a0, .int a1, .int a2, .int a3, .int a4] ∧ P a0 a1 a2 a3 a4 := by
  split at h
  · exact ⟨_, _, _, _, _, rfl, h⟩
  · exact False.elim h
theorem sgRIIIII {P : Nat → Int32 → Int32 → Int32 → Int32 → Int32 → Prop} {as : List Value} (h : match as with | [.ref a0, .int a1, .int a2, .int a3, .int a4, .int a5] => P a0 a1 a2 a3 a4 a5 | _ => False) : ∃ (a0 : Nat) (a1 : Int32) (a2 : Int32) (a3 : Int32) (a4 : Int32) (a5 : Int32), as = [.ref a0, .int a1, .int a2, .int a3, .int a4, .int a5] ∧ P a0 a1 a2 a3 a4 a5 := by
  split at h
  · exact ⟨_, _, _, _, _, _, rfl, h⟩
  · exact False.elim h
theorem sgRIIJ {P : Nat → Int32 → Int32 → Int64 → Prop} {as : List Value} (h : match as with | [.ref a0, .int a1, .int a2, .long a3] => P a0 a1 a2 a3 | _ => False) : ∃ (a0 : Nat) (a1 : Int32) (a2 : Int32) (a3 : Int64), as = [.ref a0, .int a1, .int a2, .long a3] ∧ P a0 a1 a2 a3 := by
  split at h
  · exact ⟨_, _, _, _, rfl, h⟩
  · exact False.elim h
theorem sgRIJ {P : Nat → Int32 → Int64 → Prop} {as : List Value} (h : match as with | [.ref a0, .int a1, .long a2] => P a0 a1 a2 | _ => False) : ∃ (a0 : Nat) (a1 : Int32) (a2 : Int64), as = [.ref a0, .int a1, .long a2] ∧ P a0 a1 a2 := by
  split at h
  · exact ⟨_, _, _, rfl, h⟩
  · exact False.elim h
theorem sgRIR {P : Nat → Int32 → Nat → Prop} {as : List Value} (h : match as with | [.ref a0, .int a1, .ref a2] => P a0 a1 a2 | _ => False) : ∃ (a0 : Nat) (a1 : Int32) (a2 : Nat), as = [.ref a0, .int a1, .ref a2] ∧ P a0 a1 a2 := by
  split at h
  · exact ⟨_, _, _, rfl, h⟩
  · exact False.elim h
theorem sgRJ {P : Nat → Int64 → Prop} {as : List Value} (h : match as with | [.ref a0, .long a1] => P a0 a1 | _ => False) : ∃ (a0 : Nat) (a1 : Int64), as = [.ref a0, .long a1] ∧ P a0 a1 := by
  split at h
  · exact ⟨_, _, rfl, h⟩
  · exact False.elim h
theorem sgRJIII {P : Nat → Int64 → Int32 → Int32 → Int32 → Prop} {as : List Value} (h : match as with | [.ref a0, .long a1, .int a2, .int a3, .int a4] => P a0 a1 a2 a3 a4 | _ => False) : ∃ (a0 : Nat) (a1 : Int64) (a2 : Int32) (a3 : Int32) (a4 : Int32), as = [.ref a0, .long a1, .int a2, .int a3, .int a4] ∧ P a0 a1 a2 a3 a4 := by
  split at h
  · exact ⟨_, _, _, _, _, rfl, h⟩
  · exact False.elim h
theorem sgRR {P : Nat → Nat → Prop} {as : List Value} (h : match as with | [.ref a0, .ref a1] => P a0 a1 | _ => False) : ∃ (a0 : Nat) (a1 : Nat), as = [.ref a0, .ref a1] ∧ P a0 a1 := by
  split at h
  · exact ⟨_, _, rfl, h⟩
  · exact False.elim h
theorem sgRRI {P : Nat → Nat → Int32 → Prop} {as : List Value} (h : match as with | [.ref a0, .ref a1, .int a2] => P a0 a1 a2 | _ => False) : ∃ (a0 : Nat) (a1 : Nat) (a2 : Int32), as = [.ref a0, .ref a1, .int a2] ∧ P a0 a1 a2 := by
  split at h
  · exact ⟨_, _, _, rfl, h⟩
  · exact False.elim h
