/-! The reference: rows copied. -/
/-- k places from a on of the fields that P picks, filled as V says -/
def rk (s : rf_S) (P : Nat → Bool) (V : Nat → Nat → Value) (a k : Nat) : rf_S := fun j i => if P j = true ∧ a ≤ i ∧ i < a + k then V j (i - a) else s j i
theorem rk_0 (s : rf_S) (P : Nat → Bool) (V : Nat → Nat → Value) (a : Nat) : rk s P V a 0 = s := by
  funext j i
  unfold rk
  rw [if_neg (by omega)]
theorem rk_ne {s : rf_S} {P : Nat → Bool} {V : Nat → Nat → Value} {a k j i : Nat} (h : ¬ (a ≤ i ∧ i < a + k)) : rk s P V a k j i = s j i := by
  unfold rk
  rw [if_neg (fun q => h q.2)]
theorem rk_nP {s : rf_S} {P : Nat → Bool} {V : Nat → Nat → Value} {a k j i : Nat} (h : P j = false) : rk s P V a k j i = s j i := by
  unfold rk
  rw [if_neg (fun q => by rw [h] at q; exact Bool.noConfusion q.1)]
theorem rk_eq {s : rf_S} {P : Nat → Bool} {V : Nat → Nat → Value} {a k j i : Nat} (h : P j = true) (hi : i < k) : rk s P V a k j (a + i) = V j i := by
  unfold rk
  rw [if_pos ⟨h, by omega, by omega⟩, Nat.add_sub_cancel_left]
theorem rk_s {s : rf_S} {P : Nat → Bool} {V : Nat → Nat → Value} {a k j i : Nat} : rk s P V a (k + 1) j i = if P j = true ∧ i = a + k then V j k else rk s P V a k j i := by
  unfold rk
  by_cases h : P j = true ∧ i = a + k
  · rw [if_pos h, if_pos ⟨h.1, by omega, by omega⟩, h.2, Nat.add_sub_cancel_left]
  · rw [if_neg h]
    by_cases h2 : P j = true ∧ a ≤ i ∧ i < a + k
    · rw [if_pos h2, if_pos ⟨h2.1, by omega, by omega⟩]
    · rw [if_neg h2, if_neg (fun q => by
        by_cases e : i = a + k
        · exact h ⟨q.1, e⟩
        · exact h2 ⟨q.1, by omega, by omega⟩)]
def rk_P1 (j : Nat) : Bool := decide (j = 30) || decide (j = 31)
def rk_P2 (j : Nat) : Bool := decide (32 ≤ j) && decide (j ≤ 37)
def rk_P3 (j : Nat) : Bool := decide (j = 38) || decide (j = 39)
def rk_V1 (S : rg) (t j c : Nat) : Value := if j = 30 then (if rg_hr S c = true then .int (Int32.ofNat (96 + rg_f S c - 96 + 48 * t)) else .int (Int32.ofNat 0)) else (if rg_hr S c = true then .int (Int32.ofNat (rg_e S c - rg_f S c)) else .int (Int32.ofNat 0))
def rk_V2 (S : rg) (t j i : Nat) : Value := if j = 32 then .int (Int32.ofNat (rg_o S i)) else if j = 33 then .int (Int32.ofNat (rg_m S i)) else if j = 34 then .int (sb_i (rg_n S i)) else if j = 35 then .int (sb_i (!rg_g S i)) else if j = 36 then .int (Int32.ofNat (128 + rg_a S i - 128 + 64 * t)) else .int (Int32.ofNat (rg_b S i - rg_a S i))
def rk_V3 (S : rg) (j i : Nat) : Value := if j = 38 then .int (Int32.ofNat (rg_l S i)) else .int (Int32.ofNat (rg_h S i))
/-- what keepRules leaves -/
def rk_all (s : rf_S) (S : rg) (t : Nat) : rf_S := rk (rk (rk s rk_P1 (rk_V1 S t) (8 * t) 5) rk_P2 (rk_V2 S t) (48 * t) (rg_R S)) rk_P3 (rk_V3 S) (64 * t) (rg_G S)
theorem rk_step1y {s u : rf_S} {S : rg} {t k : Nat} (hq : rg_hr S k = true) (hu : u = rk s rk_P1 (rk_V1 S t) (8 * t) k) : rf_u (rf_u u 30 (8 * t + k) (.int (Int32.ofNat (96 + rg_f S k - 96 + 48 * t)))) 31 (8 * t + k) (.int (Int32.ofNat (rg_e S k - rg_f S k))) = rk s rk_P1 (rk_V1 S t) (8 * t) (k + 1) := by
  subst hu
  funext j i
  rw [rk_s, rf_u_if, rf_u_if]
  unfold rk_P1 rk_V1
  rw [if_pos hq, if_pos hq]
  by_cases h1 : j = 30
  · subst h1; by_cases h2 : i = 8 * t + k <;> simp [h2]
  · by_cases h3 : j = 31
    · subst h3; by_cases h2 : i = 8 * t + k <;> simp [h2]
    · simp [h1, h3]
theorem rk_step1n {s u : rf_S} {S : rg} {t k : Nat} (hq : ¬ rg_hr S k = true) (hu : u = rk s rk_P1 (rk_V1 S t) (8 * t) k) : rf_u (rf_u u 30 (8 * t + k) (.int (Int32.ofNat 0))) 31 (8 * t + k) (.int (Int32.ofNat 0)) = rk s rk_P1 (rk_V1 S t) (8 * t) (k + 1) := by
  subst hu
  funext j i
  rw [rk_s, rf_u_if, rf_u_if]
  unfold rk_P1 rk_V1
  rw [if_neg hq, if_neg hq]
  by_cases h1 : j = 30
  · subst h1; by_cases h2 : i = 8 * t + k <;> simp [h2]
  · by_cases h3 : j = 31
    · subst h3; by_cases h2 : i = 8 * t + k <;> simp [h2]
    · simp [h1, h3]
theorem rk_step2 {s u : rf_S} {S : rg} {t k : Nat} (hu : u = rk s rk_P2 (rk_V2 S t) (48 * t) k) : rf_u (rf_u (rf_u (rf_u (rf_u (rf_u u 32 (48 * t + k) (.int (Int32.ofNat (rg_o S k)))) 33 (48 * t + k) (.int (Int32.ofNat (rg_m S k)))) 34 (48 * t + k) (.int (sb_i (rg_n S k)))) 35 (48 * t + k) (.int (sb_i (!rg_g S k)))) 36 (48 * t + k) (.int (Int32.ofNat (128 + rg_a S k - 128 + 64 * t)))) 37 (48 * t + k) (.int (Int32.ofNat (rg_b S k - rg_a S k))) = rk s rk_P2 (rk_V2 S t) (48 * t) (k + 1) := by
  subst hu
  funext j i
  rw [rk_s, rf_u_if, rf_u_if, rf_u_if, rf_u_if, rf_u_if, rf_u_if]
  unfold rk_P2 rk_V2
  by_cases h2 : i = 48 * t + k
  · subst h2
    by_cases h : 32 ≤ j ∧ j ≤ 37
    · rcases (show j = 32 ∨ j = 33 ∨ j = 34 ∨ j = 35 ∨ j = 36 ∨ j = 37 by omega) with e | e | e | e | e | e <;> subst e <;> simp
    · repeat rw [if_neg (by omega)]
      rw [if_neg (by simp; omega)]
  · simp [h2]
theorem rk_step3 {s u : rf_S} {S : rg} {t k : Nat} (hu : u = rk s rk_P3 (rk_V3 S) (64 * t) k) : rf_u (rf_u u 38 (64 * t + k) (.int (Int32.ofNat (rg_l S k)))) 39 (64 * t + k) (.int (Int32.ofNat (rg_h S k))) = rk s rk_P3 (rk_V3 S) (64 * t) (k + 1) := by
  subst hu
  funext j i
  rw [rk_s, rf_u_if, rf_u_if]
  unfold rk_P3 rk_V3
  by_cases h1 : j = 38
  · subst h1; by_cases h2 : i = 64 * t + k <;> simp [h2]
  · by_cases h3 : j = 39
    · subst h3; by_cases h2 : i = 64 * t + k <;> simp [h2]
    · simp [h1, h3]
/-- the rules as a set of the reference keeps them -/
def rs_K (s : rf_S) (S : rg) (t : Nat) : Prop := rs_R s S (48 * t) (64 * t) ∧ ∀ c, c < 5 → s 30 (8 * t + c) = .int (Int32.ofNat (if rg_hr S c = true then 48 * t + rg_f S c else 0)) ∧ s 31 (8 * t + c) = .int (Int32.ofNat (if rg_hr S c = true then rg_e S c - rg_f S c else 0))
theorem rk_all_K {s : rf_S} {S : rg} {t : Nat} : rs_K (rk_all s S t) S t := by
  unfold rk_all
  refine ⟨⟨fun i hi => ?_, fun i hi => ?_⟩, fun c hc => ?_⟩
  · have h3 : ∀ j, rk_P3 j = false → ∀ u : rf_S, rk u rk_P3 (rk_V3 S) (64 * t) (rg_G S) j (48 * t + i) = u j (48 * t + i) := fun j hj u => rk_nP hj
    rw [h3 32 rfl, h3 33 rfl, h3 34 rfl, h3 35 rfl, h3 36 rfl, h3 37 rfl, rk_eq rfl hi, rk_eq rfl hi, rk_eq rfl hi, rk_eq rfl hi, rk_eq rfl hi, rk_eq rfl hi]
    refine ⟨rfl, rfl, rfl, rfl, ?_, rfl⟩
    show Value.int (Int32.ofNat (128 + rg_a S i - 128 + 64 * t)) = _
    rw [show 128 + rg_a S i - 128 + 64 * t = 64 * t + rg_a S i by omega]
  · rw [rk_eq rfl hi, rk_eq rfl hi]
    exact ⟨rfl, rfl⟩
  · rw [rk_nP rfl, rk_nP rfl, rk_eq rfl hc, rk_nP rfl, rk_nP rfl, rk_eq rfl hc]
    show (if rg_hr S c = true then Value.int (Int32.ofNat (96 + rg_f S c - 96 + 48 * t)) else Value.int (Int32.ofNat 0)) = _ ∧ (if rg_hr S c = true then Value.int (Int32.ofNat (rg_e S c - rg_f S c)) else Value.int (Int32.ofNat 0)) = _
    by_cases h : rg_hr S c = true
    · rw [if_pos h, if_pos h, if_pos h, if_pos h, show 96 + rg_f S c - 96 + 48 * t = 48 * t + rg_f S c by omega]
      exact ⟨rfl, rfl⟩
    · rw [if_neg h, if_neg h, if_neg h, if_neg h]
      exact ⟨rfl, rfl⟩
/-- what keeping may change -/
def rs_kp (t j i : Nat) : Prop := ((j = 30 ∨ j = 31) ∧ 8 * t ≤ i ∧ i < 8 * t + 8) ∨ (32 ≤ j ∧ j ≤ 37 ∧ 48 * t ≤ i ∧ i < 48 * t + 48) ∨ ((j = 38 ∨ j = 39) ∧ 64 * t ≤ i ∧ i < 64 * t + 64)
theorem rk_all_ne {s : rf_S} {S : rg} {t j i : Nat} (hR : rg_R S ≤ 48) (hG : rg_G S ≤ 64) (h : ¬ rs_kp t j i) : rk_all s S t j i = s j i := by
  unfold rs_kp at h
  unfold rk_all rk
  rw [if_neg (by unfold rk_P3; simp; omega), if_neg (by unfold rk_P2; simp; omega), if_neg (by unfold rk_P1; simp; omega)]
