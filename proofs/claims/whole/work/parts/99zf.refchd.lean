/-! Branches along the reference's chain. -/
/-- the first branch of i from j on that m picks -/
def mg_bf (w : Nat → Nat) (m : Nat → Bool) (i : Nat) : Nat → Nat → Option Nat
  | 0, _ => none
  | k + 1, j => if w j = i ∧ m j = true then some j else mg_bf w m i k (j + 1)
theorem mg_bf_bo {w : Nat → Nat} {m : Nat → Bool} {i c : Nat} : ∀ {k j}, mg_bo w i k j = some c → mg_bf w m i k j = if m c = true then some c else mg_bf w m i (j + k - (c + 1)) (c + 1)
  | 0, j, h => by cases h
  | k + 1, j, h => by
    rw [mg_bo] at h
    rw [mg_bf]
    split at h
    · next q =>
      injection h with h
      subst h
      by_cases z : m j = true
      · rw [if_pos ⟨q, z⟩, if_pos z]
      · rw [if_neg (fun y => z y.2), if_neg z, show j + (k + 1) - (j + 1) = k by omega]
    · next q =>
      rw [if_neg (fun y => q y.1), mg_bf_bo h, show j + 1 + k - (c + 1) = j + (k + 1) - (c + 1) by omega]
theorem mg_bf_bn {w : Nat → Nat} {m : Nat → Bool} {i : Nat} : ∀ {k j}, mg_bo w i k j = none → mg_bf w m i k j = none
  | 0, j, h => rfl
  | k + 1, j, h => by
    rw [mg_bo] at h
    rw [mg_bf]
    split at h
    · cases h
    · next q => rw [if_neg (fun y => q y.1), mg_bf_bn h]
theorem mg_bf_bw {M : mg} {m : Nat → Bool} {i : Nat} {se : Int64} : ∀ {k j}, (∀ b, j ≤ b → b < j + k → (m b = true ↔ mg_s M b = se)) → mg_bf (mg_w M) m i k j = mg_bw M i se k j
  | 0, j, h => rfl
  | k + 1, j, h => by
    rw [mg_bf, mg_bw, mg_bf_bw (fun b h1 h2 => h b (by omega) (by omega))]
    by_cases z : mg_w M j = i ∧ m j = true
    · rw [if_pos z, if_pos ⟨z.1, (h j (by omega) (by omega)).mp z.2⟩]
    · rw [if_neg z, if_neg (fun y => z ⟨y.1, (h j (by omega) (by omega)).mpr y.2⟩)]
theorem mg_bf_no {w : Nat → Nat} {m : Nat → Bool} {i : Nat} : ∀ {k j}, (∀ b, j ≤ b → b < j + k → m b = false) → mg_bf w m i k j = none
  | 0, j, h => rfl
  | k + 1, j, h => by
    rw [mg_bf, mg_bf_no (fun b h1 h2 => h b (by omega) (by omega)), if_neg (fun y => by rw [h j (by omega) (by omega)] at y; cases y.2)]
/-- the chain's rows -/
def rm_ch (s : rf_S) (M : mg) (a : Nat) : Prop := a ≤ 64 ∧ mg_B M ≤ 40 ∧ ∀ b, b < mg_B M → s 16 (a + b) = rm_e a (mg_bo (mg_w M) (mg_w M b) (mg_B M - (b + 1)) (b + 1))
def rm_mt (s : rf_S) (M : mg) (a : Nat) (P : Bool → Int64 → Prop) (m : Nat → Bool) : Prop := ∀ b, b < mg_B M → ∃ f v, s 13 (a + b) = .int (sb_i f) ∧ s 14 (a + b) = .long v ∧ (P f v ↔ m b = true)
theorem mg_bf_in {w : Nat → Nat} {m : Nat → Bool} {i c : Nat} : ∀ {k j}, mg_bf w m i k j = some c → j ≤ c ∧ c < j + k ∧ w c = i ∧ m c = true
  | 0, j, h => by cases h
  | k + 1, j, h => by
    rw [mg_bf] at h
    split at h
    · next q =>
      injection h with h
      subst h
      exact ⟨Nat.le_refl _, by omega, q.1, q.2⟩
    · next q =>
      obtain ⟨h1, h2, h3, h4⟩ := mg_bf_in h
      exact ⟨by omega, by omega, h3, h4⟩
theorem rm_i_or {a : Nat} (o : Option Nat) : rm_i a (wr_or none o) = rm_i a o := rfl
