/-! Offsets; arguments and branches that are closed, branches that are opened. -/
theorem rm_I.off {s t : rf_S} {M : mg} {L : Nat} {E dp ob : Nat → Nat} {lp : Nat → Option Nat} {op : Bool} {i v : Nat} (h : rm_I s M L E dp lp ob op) (hi : i < mg_P M) (hk : 2 ≤ mg_k M i) (f11 : t 11 (128 + mg_ct (mg_k M) i) = .int (Int32.ofNat v)) (fr : ∀ j q, ¬ (j = 11 ∧ q = 128 + mg_ct (mg_k M) i) → t j q = s j q) : rm_I t (mg_off M i v) L E dp lp ob op := by
  have fn : ∀ j q, j ≠ 11 → t j q = s j q := fun j q e => fr j q (by omega)
  refine rm_I.of ⟨h.L3, h.P1, h.B1, (fn _ _ (by omega)).trans h.s19, (fn _ _ (by omega)).trans h.s20, (fn _ _ (by omega)).trans h.s21, (fn _ _ (by omega)).trans h.s22, fun l hl => (fn _ _ (by omega)).trans (h.s23 l hl), fun l h1 h2 => ?_, (fn _ _ (by omega)).trans h.s26, fun q hq => ?_, fun q hq => ?_, h.k8, fun b hb => ?_, fun q hq => (fn _ _ (by omega)).trans (h.nx q hq), h.C1, h.C2, h.C4, fun b hb hob => ?_, fun l h1 h2 => ?_, ?_, h.C8, fun q hq h6 => ?_⟩
  · rw [fn _ _ (by omega), fn _ _ (by omega), fn _ _ (by omega)]; exact h.s24 l h1 h2
  · have z := h.pc q hq
    unfold rm_pc at z ⊢
    rw [fn _ _ (by omega), fn _ _ (by omega)]; exact z
  · have z := h.pa q hq
    unfold rm_pa at z ⊢
    intro h2
    have z2 := z h2
    rw [fn 6 _ (by omega), fn 7 _ (by omega), fn 9 _ (by omega), fn 10 _ (by omega), fn 12 _ (by omega)]
    refine ⟨z2.1, z2.2.1, z2.2.2.1, z2.2.2.2.1, ?_, z2.2.2.2.2.2⟩
    show t 11 (128 + mg_ct (mg_k M) q) = .int (Int32.ofNat (up_ (mg_o M) i v q))
    by_cases e : q = i
    · subst e
      rw [up_eq]; exact f11
    · rw [up_ne e, fr 11 _ (fun z3 => e (mg_ct_inj (k := mg_k M) h2 hk (by have := z3.2; omega)))]
      exact z2.2.2.2.2.1
  · have z := h.bt b hb
    unfold rm_b at z ⊢
    rw [fn 13 _ (by omega), fn 14 _ (by omega), fn 16 _ (by omega)]; exact z
  · have z := h.C5 b hb hob
    rw [fn 15 _ (by omega)]; exact z
  · have z := h.C6 l h1 h2
    rw [fn 15 _ (by omega)]; exact z
  · rw [fn 5 _ (by omega)]; exact h.C7
  · have z := h.C10 q hq h6
    rw [mg_bw_congr (M := M) (M' := mg_off M i v) rfl rfl]; exact z
theorem rm_I.cla {s : rf_S} {M : mg} {L : Nat} {E dp ob : Nat → Nat} {lp : Nat → Option Nat} {i : Nat} (h : rm_I s M L E dp lp ob true) (hl : lp L = some i) (hb : mg_bw M i sb_OTH (mg_B M) 0 ≠ none) : rm_I s (mg_cla M i) L E dp lp ob false ∧ rm_rd (mg_cla M i) L lp := by
  have hi := h.C2 L (Nat.le_refl _) i hl
  have hnx : ∀ q, rm_nx (up_ (mg_x M) i (mg_P M)) E lp q = rm_nx (mg_x M) E lp q := by
    intro q
    unfold rm_nx
    by_cases e : q = i
    · subst e
      have hE : 1000 ≤ E q := by omega
      rw [if_pos hE, if_pos hE, hi.2.1, show 1000 + L - 1000 = L by omega, hl, if_pos rfl, if_pos rfl]
    · rw [up_ne e]
  refine ⟨rm_I.of ⟨h.L3, h.P1, h.B1, h.s19, h.s20, h.s21, h.s22, h.s23, h.s24, h.s26, h.pc, h.pa, h.k8, h.bt, fun q hq => ?_, h.C1, h.C2, fun q hq j z => ?_, h.C5, h.C6, h.C7, h.C8, fun q hq h6 => ?_⟩, fun q hq => ?_⟩
  · rw [show mg_x (mg_cla M i) = up_ (mg_x M) i (mg_P M) from rfl, hnx]; exact h.nx q hq
  · rw [show mg_x (mg_cla M i) = up_ (mg_x M) i (mg_P M) from rfl, hnx] at z; exact h.C4 q hq j z
  · rw [mg_bw_congr (M := M) (M' := mg_cla M i) rfl rfl]
    rcases h.C10 q hq h6 with ⟨l, h1, h2⟩ | z
    · by_cases e : l = L
      · subst e
        rw [hl] at h2
        injection h2 with h2
        subst h2
        exact Or.inr hb
      · simp at h1
        exact Or.inl ⟨l, by simp; omega, h2⟩
    · exact Or.inr z
  · rw [hl] at hq
    injection hq with hq
    subst hq
    show up_ (mg_x M) i (mg_P M) i = mg_P M
    rw [up_eq]
theorem rm_I.clb {s t : rf_S} {M : mg} {L : Nat} {E dp ob : Nat → Nat} {lp : Nat → Option Nat} (h : rm_I s M (L + 1) E dp lp ob false) (hr : rm_rd M (L + 1) lp) (f22 : t 22 0 = .int (Int32.ofNat L)) (fr : ∀ j q, ¬ (j = 22 ∧ q = 0) → t j q = s j q) : rm_I t (mg_clb M (ob (L + 1))) L (fun i => if E i = 1000 + (L + 1) then mg_P M else E i) dp lp ob true := by
  have hL := h.L3
  have hP := h.P1
  have fn : ∀ j q, j ≠ 22 → t j q = s j q := fun j q e => fr j q (by omega)
  have hnx : ∀ q, q < mg_P M → rm_nx (mg_x M) (fun i => if E i = 1000 + (L + 1) then mg_P M else E i) lp q = rm_nx (mg_x M) E lp q := by
    intro q hq
    unfold rm_nx
    generalize hv : (fun i => if E i = 1000 + (L + 1) then mg_P M else E i) q = v
    by_cases e : E q = 1000 + (L + 1)
    · obtain rfl : mg_P M = v := by rw [← hv]; exact (if_pos e).symm
      rw [if_neg (by omega), if_pos (show 1000 ≤ E q by omega), e, show 1000 + (L + 1) - 1000 = L + 1 by omega]
      by_cases z : lp (L + 1) = some q
      · rw [if_pos z, hr q z, if_neg (by omega)]
      · rw [if_neg z]
        have := h.C4 q hq (mg_x M q) (by unfold rm_nx; rw [if_pos (by omega), e, show 1000 + (L + 1) - 1000 = L + 1 by omega, if_neg z])
        rw [if_pos (by omega)]
    · obtain rfl : E q = v := by rw [← hv]; exact (if_neg e).symm
      rfl
  refine rm_I.of ⟨by omega, h.P1, h.B1, (fn _ _ (by omega)).trans h.s19, (fn _ _ (by omega)).trans h.s20, (fn _ _ (by omega)).trans h.s21, f22, fun l hl => (fn _ _ (by omega)).trans (h.s23 l (by omega)), fun l h1 h2 => ?_, (fn _ _ (by omega)).trans h.s26, fun q hq => ?_, fun q hq => ?_, h.k8, fun b hb => ?_, fun q hq => ?_, fun q hq => ?_, fun l hl q z => ?_, fun q hq j z => ?_, fun b hb hob => ?_, fun l h1 h2 => ?_, ?_, fun l m h1 h2 h3 => h.C8 l m h1 h2 (by omega), fun q hq h6 => ?_⟩
  · rw [fn _ _ (by omega), fn _ _ (by omega), fn _ _ (by omega)]; exact h.s24 l h1 (by omega)
  · have z := h.pc q hq
    unfold rm_pc at z ⊢
    rw [fn _ _ (by omega), fn _ _ (by omega)]; exact z
  · have z := h.pa q hq
    unfold rm_pa at z ⊢
    rw [fn 6 _ (by omega), fn 7 _ (by omega), fn 9 _ (by omega), fn 10 _ (by omega), fn 11 _ (by omega), fn 12 _ (by omega)]; exact z
  · have z := h.bt b hb
    unfold rm_b at z ⊢
    rw [fn 13 _ (by omega), fn 14 _ (by omega), fn 16 _ (by omega)]; exact z
  · rw [show mg_x (mg_clb M (ob (L + 1))) = mg_x M from rfl, hnx q hq, fn 8 _ (by omega)]; exact h.nx q hq
  · have z := h.C1 q hq
    show (1000 ≤ (if E q = 1000 + (L + 1) then mg_P M else E q) → (if E q = 1000 + (L + 1) then mg_P M else E q) ≤ 1000 + L) ∧ ((if E q = 1000 + (L + 1) then mg_P M else E q) < 1000 → (if E q = 1000 + (L + 1) then mg_P M else E q) ≤ mg_P M)
    split <;> omega
  · have w := h.C2 l (by omega) q z
    refine ⟨w.1, ?_, w.2.2⟩
    show (if E q = 1000 + (L + 1) then mg_P M else E q) = 1000 + l
    rw [if_neg (by omega)]; exact w.2.1
  · rw [show mg_x (mg_clb M (ob (L + 1))) = mg_x M from rfl, hnx q hq] at z
    have w := h.C4 q hq j z
    refine ⟨w.1, w.2.1, ?_, w.2.2.2⟩
    show (if E j = 1000 + (L + 1) then mg_P M else E j) = (if E q = 1000 + (L + 1) then mg_P M else E q)
    rw [w.2.2.1]
  · rw [fn 15 _ (by omega)]
    show mg_a M b ≤ up_ (mg_e M) (ob (L + 1)) (mg_P M) b ∧ up_ (mg_e M) (ob (L + 1)) (mg_P M) b ≤ mg_P M ∧ s 15 (128 + b) = rm_e 256 (if mg_a M b < up_ (mg_e M) (ob (L + 1)) (mg_P M) b then some (mg_a M b) else none) ∧ (mg_a M b < up_ (mg_e M) (ob (L + 1)) (mg_P M) b → (if E (mg_a M b) = 1000 + (L + 1) then mg_P M else E (mg_a M b)) = up_ (mg_e M) (ob (L + 1)) (mg_P M) b ∧ dp (mg_a M b) = dp (mg_w M b) + 1)
    by_cases e : b = ob (L + 1)
    · subst e
      rw [up_eq]
      have w := h.C6 (L + 1) (by omega) (Nat.le_refl _)
      have w2 := h.C2 (L + 1 - 1) (by omega) _ w.2.2.2.2
      by_cases z : lp (L + 1) = none
      · have := w.2.2.2.1 z
        rw [w.2.1, if_pos z, if_neg (by omega)]
        exact ⟨by omega, Nat.le_refl _, rfl, fun q => by omega⟩
      · have := w.2.2.1 z
        rw [w.2.1, if_neg z, if_pos this.1, if_pos this.2.1]
        exact ⟨by omega, Nat.le_refl _, rfl, fun q => ⟨rfl, by omega⟩⟩
    · rw [up_ne e]
      have w := h.C5 b hb (fun l h1 h2 => by
        by_cases e2 : l = L + 1
        · subst e2; exact fun z => e z.symm
        · exact hob l h1 (by omega))
      refine ⟨w.1, w.2.1, w.2.2.1, fun q => ?_⟩
      have := w.2.2.2 q
      rw [if_neg (by omega)]
      exact this
  · have w := h.C6 l h1 (by omega)
    rw [fn 15 _ (by omega)]
    refine ⟨w.1, w.2.1, fun q => ?_, w.2.2.2⟩
    have := w.2.2.1 q
    refine ⟨this.1, ?_, this.2.2⟩
    show (if E (mg_a M (ob l)) = 1000 + (L + 1) then mg_P M else E (mg_a M (ob l))) = 1000 + l
    rw [if_neg (by omega)]; exact this.2.1
  · rw [fn 5 _ (by omega)]
    refine ⟨h.C7.1, fun q => ?_, h.C7.2.2⟩
    have := h.C7.2.1 q
    refine ⟨this.1, ?_, this.2.2⟩
    show (if E 0 = 1000 + (L + 1) then mg_P M else E 0) = 1000
    rw [if_neg (by omega)]; exact this.2.1
  · rw [mg_bw_congr (M := M) (M' := mg_clb M (ob (L + 1))) rfl rfl]
    rcases h.C10 q hq h6 with ⟨l, h1, h2⟩ | z
    · exact Or.inl ⟨l, by simpa using h1, h2⟩
    · exact Or.inr z
theorem rm_I.opn {s t : rf_S} {M : mg} {L : Nat} {E dp ob : Nat → Nat} {lp : Nat → Option Nat} {i : Nat} {se : Int64} (h : rm_I s M L E dp lp ob true) (hl : lp L = some i) (hL : L < 3) (hB : mg_B M < 40) (h6 : 6 ≤ mg_k M i) (f21 : t 21 0 = .int (Int32.ofNat (mg_B M + 1))) (fsl : rm_sl se (t 13 (128 + mg_B M)) (t 14 (128 + mg_B M))) (f15 : t 15 (128 + mg_B M) = .int (-1)) (f16 : t 16 (128 + mg_B M) = .int (-1)) (f22 : t 22 0 = .int (Int32.ofNat (L + 1))) (f23 : t 23 (L + 1) = .int (-1)) (f24 : t 24 (L + 1) = .int (Int32.ofNat (128 + mg_ct (mg_k M) i))) (f25 : t 25 (L + 1) = .int (Int32.ofNat (128 + mg_B M))) (f26 : t 26 (L + 1) = .int (sb_i (decide (mg_k M i ≠ 6)))) (flk : ∀ j q, rm_lk (mg_bl (mg_w M) i (mg_B M)) (mg_ct (mg_k M) i) j q → t j q = .int (Int32.ofNat (128 + mg_B M))) (fr : ∀ j q, ¬ ((j = 21 ∨ j = 22) ∧ q = 0) → ¬ (13 ≤ j ∧ j ≤ 16 ∧ q = 128 + mg_B M) → ¬ (23 ≤ j ∧ j ≤ 26 ∧ q = L + 1) → ¬ rm_lk (mg_bl (mg_w M) i (mg_B M)) (mg_ct (mg_k M) i) j q → t j q = s j q) : rm_I t (mg_addb M i se) (L + 1) E dp (up_ lp (L + 1) none) (up_ ob (L + 1) (mg_B M)) false ∧ rm_rd (mg_addb M i se) (L + 1) (up_ lp (L + 1) none) := by
  have hi := h.C2 L (Nat.le_refl _) i hl
  have eP : mg_P (mg_addb M i se) = mg_P M := rfl
  have eB : mg_B (mg_addb M i se) = mg_B M + 1 := rfl
  have ew : mg_w (mg_addb M i se) = up_ (mg_w M) (mg_B M) i := rfl
  have es : mg_s (mg_addb M i se) = up_ (mg_s M) (mg_B M) se := rfl
  have ea : mg_a (mg_addb M i se) = up_ (mg_a M) (mg_B M) (mg_P M) := rfl
  have ee : mg_e (mg_addb M i se) = up_ (mg_e M) (mg_B M) (mg_P M) := rfl
  have ek : mg_k (mg_addb M i se) = mg_k M := rfl
  have ec : mg_c (mg_addb M i se) = mg_c M := rfl
  have eo : mg_o (mg_addb M i se) = mg_o M := rfl
  have ex : mg_x (mg_addb M i se) = mg_x M := rfl
  have hlk : ∀ j q, (j = 12 → q ≠ 128 + mg_ct (mg_k M) i ∨ mg_bl (mg_w M) i (mg_B M) ≠ none) → (j = 16 → ∀ b, mg_bl (mg_w M) i (mg_B M) = some b → q ≠ 128 + b) → ¬ rm_lk (mg_bl (mg_w M) i (mg_B M)) (mg_ct (mg_k M) i) j q := by
    intro j q q1 q2 z
    unfold rm_lk at z
    split at z
    · next hn =>
      rcases q1 z.1 with e | e
      · exact e z.2
      · exact e hn
    · next b hb => exact q2 z.1 b hb z.2
  have hlj : ∀ j q, j ≠ 12 → j ≠ 16 → ¬ rm_lk (mg_bl (mg_w M) i (mg_B M)) (mg_ct (mg_k M) i) j q := fun j q h1 h2 => hlk j q (fun e => absurd e h1) (fun e => absurd e h2)
  have hob : ∀ l, 1 ≤ l → l ≤ L → ob l < mg_B M := fun l h1 h2 => (h.C6 l h1 h2).1
  have hnx : ∀ q, q < mg_P M → rm_nx (mg_x M) E (up_ lp (L + 1) none) q = rm_nx (mg_x M) E lp q := by
    intro q hq
    have := h.C1 q hq
    unfold rm_nx
    by_cases e : 1000 ≤ E q
    · rw [if_pos e, if_pos e, up_ne (by omega)]
    · rw [if_neg e, if_neg e]
  refine ⟨rm_I.of ⟨by omega, h.P1, by rw [eB]; omega, ?_, ?_, f21, f22, ?_, ?_, ?_, ?_, ?_, h.k8, ?_, ?_, ?_, ?_, ?_, ?_, ?_, ?_, ?_, ?_⟩, ?_⟩
  · rw [fr 19 0 (by omega) (by omega) (by omega) (hlj _ _ (by omega) (by omega))]; exact h.s19
  · rw [fr 20 0 (by omega) (by omega) (by omega) (hlj _ _ (by omega) (by omega))]; exact h.s20
  · intro l h1
    by_cases e : l = L + 1
    · subst e
      rw [up_eq]; exact f23
    · rw [up_ne e, fr 23 l (by omega) (by omega) (by omega) (hlj _ _ (by omega) (by omega))]; exact h.s23 l (by omega)
  · intro l h1 h2
    rw [ek, ew]
    by_cases e : l = L + 1
    · subst e
      rw [up_eq, up_eq]; exact ⟨f24, f25, f26⟩
    · have := hob l h1 (by omega)
      rw [up_ne e, up_ne (by omega), fr 24 l (by omega) (by omega) (by omega) (hlj _ _ (by omega) (by omega)), fr 25 l (by omega) (by omega) (by omega) (hlj _ _ (by omega) (by omega)), fr 26 l (by omega) (by omega) (by omega) (hlj _ _ (by omega) (by omega))]
      exact h.s24 l h1 (by omega)
  · rw [fr 26 0 (by omega) (by omega) (by omega) (hlj _ _ (by omega) (by omega))]; exact h.s26
  · intro q hq
    have z := h.pc q hq
    unfold rm_pc at z ⊢
    rw [fr 6 _ (by omega) (by omega) (by omega) (hlj _ _ (by omega) (by omega)), fr 7 _ (by omega) (by omega) (by omega) (hlj _ _ (by omega) (by omega))]; exact z
  · intro q hq
    have z := h.pa q hq
    unfold rm_pa at z ⊢
    rw [ek, ec, eo, ew, eB]
    intro h2
    have z2 := z h2
    rw [fr 6 _ (by omega) (by omega) (by omega) (hlj _ _ (by omega) (by omega)), fr 7 _ (by omega) (by omega) (by omega) (hlj _ _ (by omega) (by omega)), fr 9 _ (by omega) (by omega) (by omega) (hlj _ _ (by omega) (by omega)), fr 10 _ (by omega) (by omega) (by omega) (hlj _ _ (by omega) (by omega)), fr 11 _ (by omega) (by omega) (by omega) (hlj _ _ (by omega) (by omega))]
    refine ⟨z2.1, z2.2.1, z2.2.2.1, z2.2.2.2.1, z2.2.2.2.2.1, ?_⟩
    rw [mg_bo_app, mg_bo_up (by omega), Nat.zero_add, up_eq]
    by_cases e : q = i
    · subst e
      rcases hbl : mg_bl (mg_w M) q (mg_B M) with _ | b
      · rw [mg_bo_none (fun c _ h3 => mg_bl_no hbl c (by omega)), if_pos rfl]
        exact flk 12 _ (by rw [hbl]; exact ⟨rfl, rfl⟩)
      · have hb := mg_bl_in hbl
        rw [fr 12 _ (by omega) (by omega) (by omega) (hlk _ _ (fun _ => Or.inr (by rw [hbl]; simp)) (by omega)), z2.2.2.2.2.2]
        rcases hbo : mg_bo (mg_w M) q (mg_B M) 0 with _ | b0
        · exact absurd hbo (mg_bo_ex (b := b) (by omega) (by omega) hb.2.1)
        · rfl
    · rw [fr 12 _ (by omega) (by omega) (by omega) (hlk _ _ (fun _ => Or.inl (fun e2 => e (mg_ct_inj h2 (by omega) (by omega)))) (by omega)), z2.2.2.2.2.2]
      rcases hbo : mg_bo (mg_w M) q (mg_B M) 0 with _ | b0
      · rw [if_neg (fun e2 => e e2.symm)]
      · rfl
  · intro b hb
    rw [eB] at hb
    unfold rm_b
    rw [es, ew, eB, eP, ek]
    by_cases e : b = mg_B M
    · subst e
      rw [up_eq, up_eq, Nat.sub_self]
      exact ⟨⟨fsl, f16⟩, hi.1, h6, by omega⟩
    · obtain ⟨⟨z1, z2⟩, z3, z4, z5⟩ := h.bt b (by omega)
      rw [up_ne e, up_ne e, fr 13 _ (by omega) (by omega) (by omega) (hlj _ _ (by omega) (by omega)), fr 14 _ (by omega) (by omega) (by omega) (hlj _ _ (by omega) (by omega))]
      refine ⟨⟨z1, ?_⟩, z3, z4, z5⟩
      rw [show mg_B M + 1 - (b + 1) = mg_B M - (b + 1) + 1 by omega, mg_bo_app, mg_bo_up (by omega), show b + 1 + (mg_B M - (b + 1)) = mg_B M by omega, up_eq]
      rcases hbo : mg_bo (mg_w M) (mg_w M b) (mg_B M - (b + 1)) (b + 1) with _ | b0
      · rw [hbo] at z2
        by_cases e2 : i = mg_w M b
        · rw [if_pos e2]
          have hbl : mg_bl (mg_w M) i (mg_B M) = some b := by
            rcases hq : mg_bl (mg_w M) i (mg_B M) with _ | b9
            · exact absurd e2.symm (mg_bl_no hq b (by omega))
            · have h9 := mg_bl_in hq
              have h8 := mg_bo_no hbo
              rcases (show b9 < b ∨ b9 = b ∨ b < b9 by omega) with q | q | q
              · exact absurd e2.symm (h9.2.2 b q (by omega))
              · rw [q]
              · exact absurd (h9.2.1.trans e2) (h8 b9 (by omega) (by omega))
          exact flk 16 _ (by rw [hbl]; exact ⟨rfl, rfl⟩)
        · rw [if_neg e2, fr 16 _ (by omega) (by omega) (by omega) (hlk _ _ (by omega) (fun _ b9 h9 h8 => e2 (by have := (mg_bl_in h9).2.1; rw [show b = b9 by omega]; exact this.symm)))]
          exact z2
      · rw [hbo] at z2
        have hq := mg_bo_in hbo
        rw [fr 16 _ (by omega) (by omega) (by omega) (hlk _ _ (by omega) (fun _ b9 h9 h8 => by
          have h7 := mg_bl_in h9
          obtain rfl : b = b9 := by omega
          exact h7.2.2 b0 (by omega) (by omega) (hq.2.2.1.trans h7.2.1)))]
        exact z2
  · intro q hq
    rw [ex, hnx q hq, fr 8 _ (by omega) (by omega) (by omega) (hlj _ _ (by omega) (by omega))]; exact h.nx q hq
  · intro q hq
    have := h.C1 q hq
    rw [eP]
    omega
  · intro l h1 q z
    by_cases e : l = L + 1
    · subst e
      rw [up_eq] at z
      cases z
    · rw [up_ne e] at z
      exact h.C2 l (by omega) q z
  · intro q hq j z
    rw [ex, hnx q hq] at z
    exact h.C4 q hq j z
  · intro b hb hob2
    rw [eB] at hb
    have e : b ≠ mg_B M := fun e => hob2 (L + 1) (by omega) (Nat.le_refl _) (by rw [up_eq, e])
    have w := h.C5 b (by omega) (fun l h1 h2 h3 => hob2 l h1 (by omega) (by rw [up_ne (by omega)]; exact h3))
    rw [ea, ee, eP, ew, up_ne e, up_ne e, up_ne e, fr 15 _ (by omega) (by omega) (by omega) (hlj _ _ (by omega) (by omega))]
    exact w
  · intro l h1 h2
    rw [eB, ea, eP, ew]
    by_cases e : l = L + 1
    · subst e
      rw [up_eq, up_eq, up_eq, up_eq, Nat.add_sub_cancel, up_ne (by omega)]
      exact ⟨by omega, by rw [if_pos rfl]; exact f15, fun q => absurd rfl q, fun _ => rfl, hl⟩
    · have w := h.C6 l h1 (by omega)
      have := hob l h1 (by omega)
      rw [up_ne e, up_ne e, up_ne (by omega), up_ne (by omega), up_ne (by omega), fr 15 _ (by omega) (by omega) (by omega) (hlj _ _ (by omega) (by omega))]
      exact ⟨by omega, w.2⟩
  · rw [eP, up_ne (by omega), fr 5 _ (by omega) (by omega) (by omega) (hlj _ _ (by omega) (by omega))]; exact h.C7
  · intro l m h1 h2 h3
    rw [up_ne (by omega)]
    by_cases e : m = L + 1
    · subst e
      rw [up_eq]; exact hob l h1 (by omega)
    · rw [up_ne e]; exact h.C8 l m h1 h2 (by omega)
  · intro q hq h9
    rcases h.C10 q hq h9 with ⟨l, h1, h2⟩ | z
    · simp at h1
      exact Or.inl ⟨l, by simpa using h1, by rw [up_ne (by omega)]; exact h2⟩
    · right
      rcases hbw : mg_bw M q sb_OTH (mg_B M) 0 with _ | b
      · exact absurd hbw z
      · have hb := mg_bw_in hbw
        refine mg_bw_ex (b := b) (by omega) (by rw [eB]; omega) ?_ ?_
        · rw [ew, up_ne (by omega)]; exact hb.2.2.1
        · rw [es, up_ne (by omega)]; exact hb.2.2.2.1
  · intro q hq
    rw [up_eq] at hq
    cases hq
