/-! ===== all cells are made: the world of zeros ===== -/
def u0z : MM := (fun _ => 0, fun _ => 0)
abbrev fsX (w : WW) : List Value := [.ref (wl w + 1), .ref (wl w + 20), .ref (wl w + 39), .int 0, .ref (wl w + 58), .ref (wl w + 60), .ref (wl w + 69)]
def EW (w : WW) (o : va_E) : Nat → va_E := clE (upE (xE w (fsX w)) 70 o) 70 (eX6 w 70)
theorem Ev_i {cA : ClassId} {N : Nat} {f g : Nat → Int32} (h : ∀ j, j < N → f j = g j) : Ev (.inl (cA, N, .inl f)) (.inl (cA, N, .inl g)) := by
  intro D q H hq
  have hq : H[q]? = some (vp_cell cA (N, .inl f)) := hq
  show H[q]? = some (vp_cell cA (N, .inl g))
  rw [hq, vp_cell_i, vp_cell_i]
  have e : (fun j : Fin N => Value.int (f j.1)) = fun j : Fin N => Value.int (g j.1) := funext (fun j => by rw [h j.1 j.2])
  unfold arrV
  exact congrArg (fun F : Fin N → Value => some ({ cls := cA, slots := Array.ofFn F, vm := .none } : Cell)) e
theorem Ev_l {cA : ClassId} {N : Nat} {f g : Nat → Int64} (h : ∀ j, j < N → f j = g j) : Ev (.inl (cA, N, .inr (.inl f))) (.inl (cA, N, .inr (.inl g))) := by
  intro D q H hq
  have hq : H[q]? = some (vp_cell cA (N, .inr (.inl f))) := hq
  show H[q]? = some (vp_cell cA (N, .inr (.inl g)))
  rw [hq, vp_cell_l, vp_cell_l]
  have e : (fun j : Fin N => Value.long (f j.1)) = fun j : Fin N => Value.long (g j.1) := funext (fun j => by rw [h j.1 j.2])
  unfold arrV
  exact congrArg (fun F : Fin N → Value => some ({ cls := cA, slots := Array.ofFn F, vm := .none } : Cell)) e
theorem iA_z {w : WW} {n b : Nat} : Ev (iA w n) (ce w u0z (.inr (0, n, .inl b))) := Ev_i (fun j hj => by rw [if_pos hj]; rfl)
theorem jA_z {w : WW} {n b : Nat} : Ev (jA w n) (ce w u0z (.inr (1, n, .inr (.inl b)))) := Ev_l (fun j hj => by rw [if_pos hj]; rfl)
theorem qA_z {w : WW} {t n a d : Nat} {f : Nat → Option Nat} (h : ∀ j, f j = some (wl w + a + d * j)) : Ev (.inl (wC w t, n, .inr (.inr (.inr (.inr f))))) (ce w u0z (.inr (t, n, .inr (.inr (a, d))))) := Ev_q (fun j _ => h j)
/-- lay, cell by cell -/
def layF : Nat → CD := fun k => lay.getD k (.inr (0, 0, .inl 0))
theorem layF_get {k : Nat} (h : k < 81) : lay[k]? = some (layF k) := by
  have hl : k < lay.length := by rw [lay_len]; exact h
  rw [List.getElem?_eq_getElem hl]
  unfold layF
  rw [List.getD_eq_getElem?_getD, List.getElem?_eq_getElem hl]; rfl
def lyH (q i : Nat) : CD := if i = 0 then .inl (0, 91 * q, 3, [.inr (.inr (1 + 19 * q + 1)), .inr (.inr (1 + 19 * q + 8)), .inl 1, .inl 2, .inl 0]) else if i = 1 then .inr (2, 6, .inr (.inr (1 + 19 * q + 2, 1))) else if i < 8 then .inl (2, 91 * q + 3 + 3 * (i - 2), 3, [.inl 0, .inl 1, .inl 2]) else if i = 8 then .inr (3, 10, .inr (.inr (1 + 19 * q + 9, 1))) else .inl (1, 91 * q + 21 + 7 * (i - 9), 7, [.inl 0, .inl 1, .inl 2, .inl 3, .inl 4, .inl 5, .inl 6])
theorem layF_h : ∀ q, q < 3 → ∀ i, i < 19 → layF (1 + 19 * q + i) = lyH q i := by
  intro q hq i hi
  have a : q = 0 ∨ q = 1 ∨ q = 2 := by omega
  have b : i = 0 ∨ i = 1 ∨ i = 2 ∨ i = 3 ∨ i = 4 ∨ i = 5 ∨ i = 6 ∨ i = 7 ∨ i = 8 ∨ i = 9 ∨ i = 10 ∨ i = 11 ∨ i = 12 ∨ i = 13 ∨ i = 14 ∨ i = 15 ∨ i = 16 ∨ i = 17 ∨ i = 18 := by omega
  rcases a with rfl | rfl | rfl <;> rcases b with rfl | rfl | rfl | rfl | rfl | rfl | rfl | rfl | rfl | rfl | rfl | rfl | rfl | rfl | rfl | rfl | rfl | rfl | rfl <;> rfl
theorem layF_s : ∀ s, s < 4 → layF (61 + 2 * s) = .inl (3, 430 + 2 * s, 2, [.inr (.inr (62 + 2 * s)), .inl 0, .inl 1]) ∧ layF (61 + 2 * s + 1) = .inr (1, 40, .inr (.inl (40 * s))) := by
  intro s hs
  have a : s = 0 ∨ s = 1 ∨ s = 2 ∨ s = 3 := by omega
  rcases a with rfl | rfl | rfl | rfl <;> exact ⟨rfl, rfl⟩
theorem layF_x : layF 0 = .inl (5, 280, 1, [.inr (.inr 1), .inr (.inr 20), .inr (.inr 39), .inl 0, .inr (.inr 58), .inr (.inr 60), .inr (.inr 69)]) ∧ layF 58 = .inl (4, 281, 5, [.inr (.inr 59), .inl 0, .inl 1, .inl 2, .inl 3, .inl 4]) ∧ layF 59 = .inr (0, 120, .inl 300) ∧ layF 60 = .inr (4, 4, .inr (.inr (61, 2))) ∧ layF 69 = .inr (0, 7, .inl 440) := ⟨rfl, rfl, rfl, rfl, rfl⟩
theorem layF_m : ∀ i, i < 11 → layF (70 + i) = lyM.getD i (.inr (0, 0, .inl 0)) := by
  intro i hi
  have b : i = 0 ∨ i = 1 ∨ i = 2 ∨ i = 3 ∨ i = 4 ∨ i = 5 ∨ i = 6 ∨ i = 7 ∨ i = 8 ∨ i = 9 ∨ i = 10 := by omega
  rcases b with rfl | rfl | rfl | rfl | rfl | rfl | rfl | rfl | rfl | rfl | rfl <;> rfl
theorem hall_z {w : WW} {q k0 : Nat} (e : k0 = 1 + 19 * q) {i : Nat} : Ev (eX0 w k0 i) (ce w u0z (lyH q i)) := by
  subst e
  unfold eX0 lyH
  by_cases h0 : i = 0
  · rw [if_pos h0, if_pos h0]; exact Ev.rf _
  · rw [if_neg h0, if_neg h0]
    by_cases h1 : i = 1
    · rw [if_pos h1, if_pos h1]; exact qA_z (fun j => rfl)
    · rw [if_neg h1, if_neg h1]
      by_cases h8 : i < 8
      · rw [if_pos h8, if_pos h8]; exact Ev.rf _
      · rw [if_neg h8, if_neg h8]
        by_cases h9 : i = 8
        · rw [if_pos h9, if_pos h9]; exact qA_z (fun j => rfl)
        · rw [if_neg h9, if_neg h9]; exact Ev.rf _
theorem world_z {w : WW} {o : va_E} {H : Heap} (h : MW w 81 (EW w o) H) : va_P (wD w) vwCl (wsO w u0z) H := by
  have key : ∀ k, k < 81 → Ev (EW w o k) (ce w u0z (layF k)) := by
    intro k hk
    unfold EW
    by_cases h70 : k < 70
    · rw [clE_lo h70, upE_o (by omega)]
      by_cases h0 : k = 0
      · subst h0; rw [layF_x.1]; exact Ev.rf _
      · rw [xE_p h0]
        unfold eXr
        by_cases c1 : k < 20
        · rw [if_pos c1]
          obtain ⟨i, rfl⟩ : ∃ i, k = 1 + 19 * 0 + i := ⟨k - 1, by omega⟩
          rw [layF_h 0 (by decide) i (by omega), show 1 + 19 * 0 + i - 1 = i by omega]; exact hall_z (q := 0) (k0 := 1) rfl
        · rw [if_neg c1]
          by_cases c2 : k < 39
          · rw [if_pos c2]
            obtain ⟨i, rfl⟩ : ∃ i, k = 1 + 19 * 1 + i := ⟨k - 20, by omega⟩
            rw [layF_h 1 (by decide) i (by omega), show 1 + 19 * 1 + i - 20 = i by omega]; exact hall_z (q := 1) (k0 := 20) rfl
          · rw [if_neg c2]
            by_cases c3 : k < 58
            · rw [if_pos c3]
              obtain ⟨i, rfl⟩ : ∃ i, k = 1 + 19 * 2 + i := ⟨k - 39, by omega⟩
              rw [layF_h 2 (by decide) i (by omega), show 1 + 19 * 2 + i - 39 = i by omega]; exact hall_z (q := 2) (k0 := 39) rfl
            · rw [if_neg c3]
              by_cases c4 : k < 60
              · rw [if_pos c4]
                have : k = 58 ∨ k = 59 := by omega
                rcases this with rfl | rfl
                · rw [layF_x.2.1]; exact Ev.rf _
                · rw [layF_x.2.2.1]; exact iA_z
              · rw [if_neg c4]
                by_cases c5 : k = 60
                · subst c5; rw [if_pos rfl, layF_x.2.2.2.1]; exact qA_z (fun j => rfl)
                · rw [if_neg c5]
                  by_cases c6 : k < 69
                  · rw [if_pos c6]
                    obtain ⟨s, hs, hk'⟩ : ∃ s, s < 4 ∧ (k = 61 + 2 * s ∨ k = 61 + 2 * s + 1) := ⟨(k - 61) / 2, by omega, by omega⟩
                    rcases hk' with rfl | rfl
                    · rw [(layF_s s hs).1, show (61 + 2 * s - 61) / 2 = s by omega, show (61 + 2 * s - 61) % 2 = 0 by omega]
                      refine Ev.eq ?_
                      show Sum.inr (3, [Value.ref (wl w + (61 + 2 * s + 1)), .int 0, .int 0]) = Sum.inr (3, [Value.ref (wl w + (62 + 2 * s)), .int 0, .int 0])
                      rw [show 61 + 2 * s + 1 = 62 + 2 * s by omega]
                    · rw [(layF_s s hs).2, show (61 + 2 * s + 1 - 61) / 2 = s by omega, show (61 + 2 * s + 1 - 61) % 2 = 1 by omega]
                      exact jA_z
                  · rw [if_neg c6]
                    have : k = 69 := by omega
                    subst this
                    rw [layF_x.2.2.2.2]; exact iA_z
    · obtain ⟨i, rfl⟩ : ∃ i, k = 70 + i := ⟨k - 70, by omega⟩
      rw [clE_hi, layF_m i (by omega)]
      have hi : i = 0 ∨ i = 1 ∨ i = 2 ∨ i = 3 ∨ i = 4 ∨ i = 5 ∨ i = 6 ∨ i = 7 ∨ i = 8 ∨ i = 9 ∨ i = 10 := by omega
      rcases hi with rfl | rfl | rfl | rfl | rfl | rfl | rfl | rfl | rfl | rfl | rfl
      · exact Ev.rf _
      · exact iA_z
      · exact iA_z
      · exact iA_z
      · exact iA_z
      · exact iA_z
      · exact iA_z
      · exact jA_z
      · exact jA_z
      · exact iA_z
      · exact iA_z
  intro k q hk
  obtain ⟨cd, h1, rfl⟩ := wsO_inv hk
  have hlt : k < 81 := by rw [← lay_len]; exact (List.getElem?_eq_some_iff.mp h1).1
  have := layF_get hlt
  rw [h1] at this
  cases this
  exact key k hlt _ _ _ (h.2 k _ (wsN_get hlt))
/-- between the first two calls both stand at the same place -/
theorem zero_Rl : Rl u0z u0z := by
  have hO : ∀ b, HC (vw u0z b) := fun b => by
    have e : ∀ i, vw u0z b i = 0 := fun _ => rfl
    have e1 : NN (vw u0z b 1) = 0 := by rw [e]; rfl
    have e2 : NN (vw u0z b 2) = 0 := by rw [e]; rfl
    refine ⟨⟨⟨⟨0, by decide, rfl⟩, ⟨0, by decide, rfl⟩, fun s hs => ?_, fun c hc => ?_⟩, fun s hs => ?_, fun c hc => ?_⟩, 0, by decide, rfl, fun s hs => ?_, fun c hc => ?_⟩
    · rw [e1] at hs; omega
    · rw [e2] at hc; omega
    · rw [e1] at hs; omega
    · rw [e2] at hc; omega
    · rw [e1] at hs; omega
    · rw [e2] at hc; omega
  exact ⟨⟨hO _, ⟨rfl, rfl, rfl, fun _ _ _ _ => rfl, fun _ _ _ _ => rfl⟩, rfl⟩, ⟨rfl, fun z => absurd rfl z⟩, ⟨0, by decide, rfl, rfl, fun k hk => by omega⟩, fun s _ => ⟨rfl, ⟨0, by decide, rfl, rfl⟩, fun _ _ => rfl⟩, fun _ _ => rfl⟩
