/-! What reading messages may change. -/
def rm_sc (j i : Nat) : Prop := (j = 5 ∧ i = 2) ∨ (6 ≤ j ∧ j ≤ 8 ∧ 256 ≤ i) ∨ (9 ≤ j ∧ j ≤ 16 ∧ 128 ≤ i) ∨ (19 ≤ j ∧ j ≤ 26)
def rm_X (s t : rf_S) : Prop := ∀ j i, ¬ rm_sc j i → t j i = s j i
theorem rm_X.refl (s : rf_S) : rm_X s s := fun _ _ _ => rfl
theorem rm_X.trans {s t u : rf_S} (h : rm_X s t) (k : rm_X t u) : rm_X s u := fun j i q => (k j i q).trans (h j i q)
theorem rm_X.u {s t : rf_S} {j i : Nat} {v : Value} (h : rm_X s t) (hs : rm_sc j i) : rm_X s (rf_u t j i v) := fun j' i' q => by
  rw [rf_u_ne (by
    by_cases hj : j' = j
    · exact Or.inr (fun e => q (by rw [hj, e]; exact hs))
    · exact Or.inl hj)]
  exact h j' i' q
theorem rm_X.tx {s t : rf_S} {cs : List Nat} {n : Nat} (h : rm_X s t) (hx : rf_tx s cs n) : rf_tx t cs n := by
  refine ⟨?_, fun i hi => ?_, hx.2.2⟩
  · rw [h 3 0 (by unfold rm_sc; omega)]
    exact hx.1
  · rw [h 2 i (by unfold rm_sc; omega)]
    exact hx.2.1 i hi
/-- a part added -/
def rm_ad (s t : rf_S) (P L : Nat) (o : Option Nat) (ob : Nat) (kc x : Int32) : Prop := t 19 0 = .int (Int32.ofNat (P + 1)) ∧ t 6 (256 + P) = .int kc ∧ t 7 (256 + P) = .int x ∧ t 8 (256 + P) = .int (-1) ∧ t 23 L = .int (Int32.ofNat (256 + P)) ∧ (∀ j i, rm_hk o L ob j i → t j i = .int (Int32.ofNat (256 + P))) ∧ ∀ j i, ¬ (j = 19 ∧ i = 0) → ¬ (6 ≤ j ∧ j ≤ 8 ∧ i = 256 + P) → ¬ (j = 23 ∧ i = L) → ¬ rm_hk o L ob j i → t j i = s j i
theorem rm_ad.X {s t : rf_S} {P L ob : Nat} {o : Option Nat} {kc x : Int32} (h : rm_ad s t P L o ob kc x) : rm_X s t := fun j i q => h.2.2.2.2.2.2 j i (fun e => q (by unfold rm_sc; omega)) (fun e => q (by unfold rm_sc; omega)) (fun e => q (by unfold rm_sc; omega)) (fun e => q (by
  unfold rm_hk at e
  unfold rm_sc
  split at e <;> omega))
/-- a character or a sign -/
theorem rm_I.addc {s t : rf_S} {M : mg} {L : Nat} {E dp ob : Nat → Nat} {lp : Nat → Option Nat} {k : Nat} {x : Int32} (h : rm_I s M L E dp lp ob false) (hr : rm_rd M L lp) (hP : mg_P M < 120) (hk : k < 2) (ha : rm_ad s t (mg_P M) L (lp L) (ob L) (Int32.ofNat k) x) : rm_I t (mg_add M k x) L (up_ E (mg_P M) (1000 + L)) (up_ dp (mg_P M) L) (up_ lp L (some (mg_P M))) ob false ∧ rm_rd (mg_add M k x) L (up_ lp L (some (mg_P M))) := by
  obtain ⟨a1, a2, a3, a4, a5, a6, a7⟩ := ha
  have h20 : t 20 0 = .int (Int32.ofNat (mg_ct (mg_k M) (mg_P M))) := by
    rw [a7 20 0 (by omega) (by omega) (by omega) (fun e => by unfold rm_hk at e; split at e <;> omega)]; exact h.s20
  have hq := h.add (t := t) (k := k) (x := x) hr hP (by omega) a1 a4 a5 a6 (by rw [mg_ct, mg_ct_up (Nat.le_refl _), up_eq, if_neg (by omega)]; exact h20) (by
    unfold rm_pc
    show up_ (mg_k M) (mg_P M) k (mg_P M) < 2 → t 6 (256 + mg_P M) = .int (Int32.ofNat (up_ (mg_k M) (mg_P M) k (mg_P M))) ∧ t 7 (256 + mg_P M) = .int (up_ (mg_c M) (mg_P M) x (mg_P M))
    rw [up_eq, up_eq]
    exact fun _ => ⟨a2, a3⟩) (by
    intro q
    have e : mg_k (mg_add M k x) (mg_P M) = k := up_eq ..
    rw [e] at q
    omega) (fun j i q1 q2 q3 q4 q5 => a7 j i (by omega) q2 q4 q5)
  rw [decide_eq_false (by omega)] at hq
  exact hq
