/-! The reference's reader between two parts. -/
theorem rm_I.ob {s : rf_S} {M : mg} {L : Nat} {E dp ob ob' : Nat → Nat} {lp : Nat → Option Nat} {op : Bool} (h : rm_I s M L E dp lp ob op) (e : ∀ l, 1 ≤ l → l ≤ L → ob' l = ob l) : rm_I s M L E dp lp ob' op := by
  refine rm_I.of ⟨h.L3, h.P1, h.B1, h.s19, h.s20, h.s21, h.s22, h.s23, fun l h1 h2 => ?_, h.s26, h.pc, h.pa, h.k8, h.bt, h.nx, h.C1, h.C2, h.C4, fun b hb hob => h.C5 b hb (fun l h1 h2 => by rw [← e l h1 h2]; exact hob l h1 h2), fun l h1 h2 => ?_, h.C7, fun l m h1 h2 h3 => ?_, h.C10⟩
  · rw [e l h1 h2]; exact h.s24 l h1 h2
  · rw [e l h1 h2]; exact h.C6 l h1 h2
  · rw [e l h1 (by omega), e m (by omega) h3]; exact h.C8 l m h1 h2 h3
/-- a state that differs only in what the invariant does not see -/
theorem rm_I.fr {s t : rf_S} {M : mg} {L : Nat} {E dp ob : Nat → Nat} {lp : Nat → Option Nat} {op : Bool} (h : rm_I s M L E dp lp ob op) (fr : ∀ j i, (j = 5 ∨ (6 ≤ j ∧ j ≤ 16) ∨ (19 ≤ j ∧ j ≤ 26)) → t j i = s j i) : rm_I t M L E dp lp ob op := by
  refine rm_I.of ⟨h.L3, h.P1, h.B1, (fr _ _ (by omega)).trans h.s19, (fr _ _ (by omega)).trans h.s20, (fr _ _ (by omega)).trans h.s21, (fr _ _ (by omega)).trans h.s22, fun l hl => (fr _ _ (by omega)).trans (h.s23 l hl), fun l h1 h2 => ?_, (fr _ _ (by omega)).trans h.s26, fun q hq => ?_, fun q hq => ?_, h.k8, fun b hb => ?_, fun q hq => (fr _ _ (by omega)).trans (h.nx q hq), h.C1, h.C2, h.C4, fun b hb hob => ?_, fun l h1 h2 => ?_, ?_, h.C8, h.C10⟩
  · rw [fr 24 _ (by omega), fr 25 _ (by omega), fr 26 _ (by omega)]; exact h.s24 l h1 h2
  · have z := h.pc q hq
    unfold rm_pc at z ⊢
    rw [fr 6 _ (by omega), fr 7 _ (by omega)]; exact z
  · have z := h.pa q hq
    unfold rm_pa at z ⊢
    rw [fr 6 _ (by omega), fr 7 _ (by omega), fr 9 _ (by omega), fr 10 _ (by omega), fr 11 _ (by omega), fr 12 _ (by omega)]; exact z
  · have z := h.bt b hb
    unfold rm_b at z ⊢
    rw [fr 13 _ (by omega), fr 14 _ (by omega), fr 16 _ (by omega)]; exact z
  · rw [fr 15 _ (by omega)]; exact h.C5 b hb hob
  · rw [fr 15 _ (by omega)]; exact h.C6 l h1 h2
  · rw [fr 5 _ (by omega)]; exact h.C7
/-- the reader at the place a, ready for a part of level L -/
def ml_H (A0 : am_H) (s0 : rf_S) (b : Nat) (M : mg) (L : Nat) (lp : Nat → Option Nat) (ob : Nat → Nat) (a : Nat) (A : am_H) : Prop := ∃ s r g E dp lp', rf A b (rf_c s a (-1) r g) ∧ rm_I s M L E dp lp' ob false ∧ rm_rd M L lp' ∧ (∀ l, l < L → lp' l = lp l) ∧ rm_X s0 s ∧ sb_fr A0 A b (b + 38)
theorem ml_H.tr {A0 A B : am_H} {s0 s : rf_S} {b : Nat} {M : mg} {L : Nat} {lp lp' : Nat → Option Nat} {ob : Nat → Nat} {a : Nat} (h1 : ∀ l, l < L → lp' l = lp l) (h2 : rm_X s0 s) (h3 : sb_fr A0 A b (b + 38)) (h : ml_H A s b M L lp' ob a B) : ml_H A0 s0 b M L lp ob a B := by
  obtain ⟨t, r, g, E, dp, lq, a1, a2, a3, a4, a5, a6⟩ := h
  exact ⟨t, r, g, E, dp, lq, a1, a2, a3, fun l hl => (a4 l hl).trans (h1 l hl), h2.trans a5, h3.trans a6⟩
