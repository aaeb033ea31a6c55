/-! One part more. -/
theorem rm_I.add {s t : rf_S} {M : mg} {L : Nat} {E dp ob : Nat → Nat} {lp : Nat → Option Nat} {k : Nat} {x : Int32} (h : rm_I s M L E dp lp ob false) (hr : rm_rd M L lp) (hP : mg_P M < 120) (hk8 : k ≤ 8) (f19 : t 19 0 = .int (Int32.ofNat (mg_P M + 1))) (f8 : t 8 (256 + mg_P M) = .int (-1)) (f23 : t 23 L = .int (Int32.ofNat (256 + mg_P M))) (fhk : ∀ j i, rm_hk (lp L) L (ob L) j i → t j i = .int (Int32.ofNat (256 + mg_P M))) (f20 : t 20 0 = .int (Int32.ofNat (mg_ct (up_ (mg_k M) (mg_P M) k) (mg_P M + 1)))) (fpc : rm_pc t (mg_add M k x) 256 (mg_P M)) (fpa : rm_pa t (mg_add M k x) 256 128 (mg_P M)) (fr : ∀ j i, ¬ ((j = 19 ∨ j = 20) ∧ i = 0) → ¬ (6 ≤ j ∧ j ≤ 8 ∧ i = 256 + mg_P M) → ¬ (9 ≤ j ∧ j ≤ 12 ∧ i = 128 + mg_ct (mg_k M) (mg_P M)) → ¬ (j = 23 ∧ i = L) → ¬ rm_hk (lp L) L (ob L) j i → t j i = s j i) : rm_I t (mg_add M k x) L (up_ E (mg_P M) (1000 + L)) (up_ dp (mg_P M) L) (up_ lp L (some (mg_P M))) ob (decide (6 ≤ k)) ∧ rm_rd (mg_add M k x) L (up_ lp L (some (mg_P M))) := by
  have eP : mg_P (mg_add M k x) = mg_P M + 1 := rfl
  have eB : mg_B (mg_add M k x) = mg_B M := rfl
  have ew : mg_w (mg_add M k x) = mg_w M := rfl
  have es : mg_s (mg_add M k x) = mg_s M := rfl
  have ea : mg_a (mg_add M k x) = mg_a M := rfl
  have ee : mg_e (mg_add M k x) = mg_e M := rfl
  have ek : mg_k (mg_add M k x) = up_ (mg_k M) (mg_P M) k := rfl
  have ec : mg_c (mg_add M k x) = up_ (mg_c M) (mg_P M) x := rfl
  have eo : mg_o (mg_add M k x) = up_ (mg_o M) (mg_P M) 0 := rfl
  have ex : mg_x (mg_add M k x) = up_ (mg_x M) (mg_P M) (mg_P M + 1) := rfl
  have hkn : ∀ j i, (j = 8 → i < 256 ∨ (lp L ≠ some (i - 256))) → (j = 5 → lp L = none → L = 0 → i ≠ 2) → (j = 15 → lp L = none → 0 < L → i ≠ 128 + ob L) → ¬ rm_hk (lp L) L (ob L) j i := by
    intro j i q1 q2 q3 q
    unfold rm_hk at q
    split at q
    · next i' hl =>
      rcases q1 q.1 with e | e
      · omega
      · exact e (by rw [hl, q.2, show 256 + i' - 256 = i' by omega])
    · next hl =>
      rcases q with q | q
      · exact q2 q.2.1 hl q.1 q.2.2
      · exact q3 q.2.1 hl q.1 q.2.2
  have hk8n : ∀ i, lp L ≠ some i → ¬ rm_hk (lp L) L (ob L) 8 (256 + i) := by
    intro i q z
    unfold rm_hk at z
    split at z
    · next i' hl => exact q (by rw [hl, show i' = i by omega])
    · next hl => omega
  have hC6w : ∀ l, 1 ≤ l → l ≤ L → mg_w M (ob l) < mg_P M := fun l h1 h2 => (h.bt _ (h.C6 l h1 h2).1).2.1
  refine ⟨rm_I.of ⟨h.L3, by rw [eP]; omega, h.B1, by rw [eP]; exact f19, by rw [eP, ek]; exact f20, ?_, ?_, ?_, ?_, ?_, ?_, ?_, ?_, ?_, ?_, ?_, ?_, ?_, ?_, ?_, ?_, h.C8, ?_⟩, ?_⟩
  · rw [fr 21 0 (by omega) (by omega) (by omega) (by omega) (hkn _ _ (by omega) (by omega) (by omega))]; exact h.s21
  · rw [fr 22 0 (by omega) (by omega) (by omega) (by omega) (hkn _ _ (by omega) (by omega) (by omega))]; exact h.s22
  · intro l hl
    by_cases e : l = L
    · subst e
      rw [up_eq]; exact f23
    · rw [up_ne e, fr 23 l (by omega) (by omega) (by omega) (by omega) (hkn _ _ (by omega) (by omega) (by omega))]
      exact h.s23 l hl
  · intro l h1 h2
    have hw := hC6w l h1 h2
    rw [ew, ek, mg_ct_up (by omega), up_ne (by omega), fr 24 l (by omega) (by omega) (by omega) (by omega) (hkn _ _ (by omega) (by omega) (by omega)), fr 25 l (by omega) (by omega) (by omega) (by omega) (hkn _ _ (by omega) (by omega) (by omega)), fr 26 l (by omega) (by omega) (by omega) (by omega) (hkn _ _ (by omega) (by omega) (by omega))]
    exact h.s24 l h1 h2
  · rw [fr 26 0 (by omega) (by omega) (by omega) (by omega) (hkn _ _ (by omega) (by omega) (by omega))]; exact h.s26
  · intro i hi
    rw [eP] at hi
    by_cases e : i = mg_P M
    · subst e; exact fpc
    · have hq := h.pc i (by omega)
      unfold rm_pc at hq ⊢
      rw [ek, ec, up_ne e, up_ne e, fr 6 _ (by omega) (by omega) (by omega) (by omega) (hkn _ _ (by omega) (by omega) (by omega)), fr 7 _ (by omega) (by omega) (by omega) (by omega) (hkn _ _ (by omega) (by omega) (by omega))]
      exact hq
  · intro i hi
    rw [eP] at hi
    by_cases e : i = mg_P M
    · subst e; exact fpa
    · have hq := h.pa i (by omega)
      unfold rm_pa at hq ⊢
      rw [ek, ec, eo, ew, eB, up_ne e, up_ne e, up_ne e, mg_ct_up (by omega)]
      intro h2
      have hct := mg_ct_lt h2 (j := mg_P M) (by omega)
      rw [fr 6 _ (by omega) (by omega) (by omega) (by omega) (hkn _ _ (by omega) (by omega) (by omega)), fr 7 _ (by omega) (by omega) (by omega) (by omega) (hkn _ _ (by omega) (by omega) (by omega)), fr 9 _ (by omega) (by omega) (by omega) (by omega) (hkn _ _ (by omega) (by omega) (by omega)), fr 10 _ (by omega) (by omega) (by omega) (by omega) (hkn _ _ (by omega) (by omega) (by omega)), fr 11 _ (by omega) (by omega) (by omega) (by omega) (hkn _ _ (by omega) (by omega) (by omega)), fr 12 _ (by omega) (by omega) (by omega) (by omega) (hkn _ _ (by omega) (by omega) (by omega))]
      exact hq h2
  · intro i hi
    rw [eP] at hi
    rw [ek]
    by_cases e : i = mg_P M
    · subst e
      rw [up_eq, up_eq]
      exact ⟨hk8, h.L3⟩
    · rw [up_ne e, up_ne e]
      exact h.k8 i (by omega)
  · intro b hb
    rw [eB] at hb
    obtain ⟨⟨q1, q2⟩, q3, q4, q5⟩ := h.bt b hb
    unfold rm_b
    rw [es, ew, eB, eP, ek, up_ne (by omega), up_ne (by omega), fr 13 _ (by omega) (by omega) (by omega) (by omega) (hkn _ _ (by omega) (by omega) (by omega)), fr 14 _ (by omega) (by omega) (by omega) (by omega) (hkn _ _ (by omega) (by omega) (by omega)), fr 16 _ (by omega) (by omega) (by omega) (by omega) (hkn _ _ (by omega) (by omega) (by omega))]
    exact ⟨⟨q1, q2⟩, by omega, q4, q5⟩
  · intro i hi
    rw [eP] at hi
    rw [ex]
    unfold rm_nx
    by_cases e : i = mg_P M
    · subst e
      rw [up_eq, if_pos (show 1000 ≤ 1000 + L by omega), show 1000 + L - 1000 = L by omega, up_eq, if_pos rfl]
      exact f8
    · rw [up_ne e, up_ne e]
      have hq := h.nx i (by omega)
      unfold rm_nx at hq
      by_cases hE : 1000 ≤ E i
      · rw [if_pos hE] at hq ⊢
        by_cases hl : E i - 1000 = L
        · rw [hl] at hq ⊢
          rw [up_eq, if_neg (show ¬ some (mg_P M) = some i from fun q => e (Option.some.inj q).symm)]
          by_cases hlp : lp L = some i
          · rw [hr i hlp]
            exact fhk 8 (256 + i) (by unfold rm_hk; rw [hlp]; exact ⟨rfl, rfl⟩)
          · rw [if_neg hlp] at hq
            rw [fr 8 (256 + i) (by omega) (by omega) (by omega) (by omega) (hk8n i hlp)]
            exact hq
        · rw [up_ne hl]
          rw [fr 8 (256 + i) (by omega) (by omega) (by omega) (by omega) (hk8n i (fun q => by have := (h.C2 L (Nat.le_refl _) i q).2.1; omega))]
          exact hq
      · rw [if_neg hE] at hq ⊢
        rw [fr 8 (256 + i) (by omega) (by omega) (by omega) (by omega) (hk8n i (fun q => by have := (h.C2 L (Nat.le_refl _) i q).2.1; omega))]
        exact hq
  · intro i hi
    rw [eP] at hi ⊢
    by_cases e : i = mg_P M
    · subst e
      rw [up_eq]
      omega
    · rw [up_ne e]
      have := h.C1 i (by omega)
      omega
  · intro l hl i q
    rw [eP]
    by_cases e : l = L
    · subst e
      rw [up_eq] at q
      injection q with q
      subst q
      rw [up_eq, up_eq]
      exact ⟨by omega, rfl, rfl⟩
    · rw [up_ne e] at q
      have := h.C2 l hl i q
      rw [up_ne (by omega), up_ne (by omega)]
      exact ⟨by omega, this.2⟩
  · intro i hi j q
    rw [eP] at hi ⊢
    rw [ex] at q
    unfold rm_nx at q
    by_cases e : i = mg_P M
    · subst e
      rw [up_eq, if_pos (show 1000 ≤ 1000 + L by omega), show 1000 + L - 1000 = L by omega, up_eq, if_pos rfl] at q
      cases q
    · rw [up_ne e, up_ne e] at q
      rw [up_ne e, up_ne e]
      have hq := h.C4 i (by omega) j
      unfold rm_nx at hq
      have hold : i < j ∧ j < mg_P M ∧ E j = E i ∧ dp j = dp i → i < j ∧ j < mg_P M + 1 ∧ up_ E (mg_P M) (1000 + L) j = E i ∧ up_ dp (mg_P M) L j = dp i := fun z => by
        rw [up_ne (by omega), up_ne (by omega)]
        exact ⟨z.1, by omega, z.2.2⟩
      by_cases hE : 1000 ≤ E i
      · rw [if_pos hE] at hq q
        by_cases hl : E i - 1000 = L
        · rw [hl] at hq q
          rw [up_eq, if_neg (show ¬ some (mg_P M) = some i from fun q => e (Option.some.inj q).symm)] at q
          by_cases hlp : lp L = some i
          · rw [hr i hlp] at q
            injection q with q
            subst q
            have := h.C2 L (Nat.le_refl _) i hlp
            rw [up_eq, up_eq]
            exact ⟨by omega, by omega, by omega, by omega⟩
          · rw [if_neg hlp] at hq
            exact hold (hq q)
        · rw [up_ne hl] at q
          exact hold (hq q)
      · rw [if_neg hE] at hq q
        exact hold (hq q)
  · intro b hb hob
    rw [eB] at hb
    have hq := h.C5 b hb hob
    have hw := (h.bt b hb).2.1
    rw [ea, ee, eP, ew]
    refine ⟨hq.1, by omega, ?_, fun q => ?_⟩
    · rw [fr 15 _ (by omega) (by omega) (by omega) (by omega) (hkn _ _ (by omega) (by omega) (fun _ _ q => by have := hob L (by omega) (Nat.le_refl _); omega))]
      exact hq.2.2.1
    · rw [up_ne (by omega), up_ne (by omega), up_ne (by omega)]
      exact hq.2.2.2 q
  · intro l h1 h2
    have hq := h.C6 l h1 h2
    rw [eB, ea, eP, ew]
    refine ⟨hq.1, ?_, fun q => ?_, fun q => ?_, ?_⟩
    · by_cases e : l = L
      · subst e
        rw [up_eq, if_neg (by simp)]
        by_cases hlp : lp l = none
        · rw [fhk 15 (128 + ob l) (by unfold rm_hk; rw [hlp]; exact Or.inr ⟨by omega, rfl, rfl⟩), hq.2.2.2.1 hlp]
          rfl
        · rw [fr 15 _ (by omega) (by omega) (by omega) (by omega) (hkn _ _ (by omega) (by omega) (fun _ q _ => absurd q hlp)), hq.2.1, if_neg hlp]
      · rw [up_ne e, fr 15 _ (by omega) (by omega) (by omega) (by omega) (hkn _ _ (by omega) (by omega) (fun _ _ q => by have := h.C8 l L h1 (by omega) (Nat.le_refl _); omega))]
        exact hq.2.1
    · by_cases e : l = L
      · subst e
        by_cases hlp : lp l = none
        · rw [hq.2.2.2.1 hlp, up_eq, up_eq]
          exact ⟨by omega, rfl, rfl⟩
        · have := hq.2.2.1 hlp
          rw [up_ne (by omega), up_ne (by omega)]
          exact ⟨by omega, this.2⟩
      · rw [up_ne e] at q
        have := hq.2.2.1 q
        rw [up_ne (by omega), up_ne (by omega)]
        exact ⟨by omega, this.2⟩
    · by_cases e : l = L
      · subst e
        rw [up_eq] at q
        cases q
      · rw [up_ne e] at q
        exfalso
        have h9 := (h.C6 (l + 1) (by omega) (by omega)).2.2.2.2
        rw [Nat.add_sub_cancel, q] at h9
        cases h9
    · rw [up_ne (by omega)]
      exact hq.2.2.2.2
  · rw [eP]
    by_cases e : 0 = L
    · subst e
      rw [up_eq, if_neg (by simp)]
      by_cases hlp : lp 0 = none
      · have := h.C7.2.2 hlp
        rw [fhk 5 2 (by unfold rm_hk; rw [hlp]; exact Or.inl ⟨rfl, rfl, rfl⟩), this, up_eq, up_eq]
        exact ⟨rfl, fun _ => ⟨by omega, rfl, rfl⟩, fun q => by cases q⟩
      · have := h.C7.2.1 hlp
        rw [fr 5 _ (by omega) (by omega) (by omega) (by omega) (hkn _ _ (by omega) (fun _ q _ => absurd q hlp) (by omega)), h.C7.1, if_neg hlp, up_ne (by omega), up_ne (by omega)]
        exact ⟨rfl, fun _ => ⟨by omega, this.2⟩, fun q => by cases q⟩
    · rw [up_ne e, fr 5 _ (by omega) (by omega) (by omega) (by omega) (hkn _ _ (by omega) (fun _ _ q => by omega) (by omega))]
      refine ⟨h.C7.1, fun q => ?_, fun q => ?_⟩
      · have := h.C7.2.1 q
        rw [up_ne (by omega), up_ne (by omega)]
        exact ⟨by omega, this.2⟩
      · exfalso
        have h9 := (h.C6 1 (by omega) (by omega)).2.2.2.2
        rw [Nat.sub_self, q] at h9
        cases h9
  · intro i hi h6
    rw [eP] at hi
    rw [ek] at h6
    rw [eB, mg_bw_add]
    by_cases e : i = mg_P M
    · subst e
      rw [up_eq] at h6
      rw [decide_eq_true h6]
      exact Or.inl ⟨L, by simp, up_eq ..⟩
    · rw [up_ne e] at h6
      rcases h.C10 i (by omega) h6 with ⟨l, h1, h2⟩ | q
      · have h3 : l < L := by simpa using h1
        exact Or.inl ⟨l, by omega, by rw [up_ne (by omega)]; exact h2⟩
      · exact Or.inr q
  · intro i q
    rw [up_eq] at q
    injection q with q
    subst q
    rw [ex, up_eq]
    rfl
