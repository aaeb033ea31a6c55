/-! Categories: what a relation, a condition, a set of rules say of a number. -/
def ct_am (v k : Nat) : List Nat := [v, v / 10 ^ k, k, sb_sfw k (v % 10 ^ k), v % 10 ^ k, sb_sfr k (v % 10 ^ k)]
def ct_U (k o : Nat) : Nat := if o = 0 then 10 ^ k else 1
def ct_A (v k o m : Nat) : Nat := if 0 < m * ct_U k o then (ct_am v k).getD o 0 % (m * ct_U k o) else (ct_am v k).getD o 0
def ct_ir (l h : Nat → Nat) (W : Nat) : Nat → Nat → Bool → Bool
  | 0, _, f => f
  | k + 1, j, f => ct_ir l h W k (j + 1) (f || (decide (l j ≤ W) && decide (W ≤ h j)))
def ct_in (v k o m : Nat) (l h : Nat → Nat) (j e : Nat) : Bool := if ct_A v k o m % ct_U k o = 0 then ct_ir l h (ct_A v k o m / ct_U k o) (e - j) j false else false
def ct_rel (S : rg) (v k r : Nat) : Bool := ct_in v k (rg_o S r) (rg_m S r) (rg_l S) (rg_h S) (rg_a S r) (rg_b S r) != rg_n S r
/-- from the relation j on, f: the ands before it hold -/
def ct_cond (S : rg) (v k : Nat) : Nat → Nat → Bool → Bool
  | 0, _, f => f
  | q + 1, j, f => if rg_g S j = true then (if f = true then true else ct_cond S v k q (j + 1) (ct_rel S v k j)) else ct_cond S v k q (j + 1) (f && ct_rel S v k j)
def ct_cat (S : rg) (v k : Nat) : Nat → Nat → Nat
  | 0, _ => 5
  | q + 1, c => if rg_hr S c = true ∧ ct_cond S v k (rg_e S c - rg_f S c) (rg_f S c) false = true then c else ct_cat S v k q (c + 1)
theorem ct_am_lt {v k o : Nat} (hk : k ≤ 6) (hv : v < 9223372036854775808) : (ct_am v k).getD o 0 < 9223372036854775808 := by
  have h1 : v / 10 ^ k ≤ v := Nat.div_le_self _ _
  have h2 : v % 10 ^ k ≤ v := Nat.mod_le _ _
  have h3 := sb_sfr_le k (v % 10 ^ k)
  unfold ct_am
  match o with
  | 0 => exact hv
  | 1 => show v / 10 ^ k < _; omega
  | 2 => show k < _; omega
  | 3 => show sb_sfw k (v % 10 ^ k) < _; omega
  | 4 => show v % 10 ^ k < _; omega
  | 5 => show sb_sfr k (v % 10 ^ k) < _; omega
  | o + 6 => show 0 < _; omega
theorem ct_am_64 {v k o : Nat} (ho : o < 6) : (sb_am v k).getD o 0 = Int64.ofNat ((ct_am v k).getD o 0) := by
  match o with
  | 0 => rfl
  | 1 => rfl
  | 2 => rfl
  | 3 => rfl
  | 4 => rfl
  | 5 => rfl
  | o + 6 => omega
theorem ct_U_le {k o : Nat} (hk : k ≤ 6) : 1 ≤ ct_U k o ∧ ct_U k o ≤ 1000000 := by
  unfold ct_U
  split
  · have h1 : 10 ^ k ≤ 10 ^ 6 := Nat.pow_le_pow_right (by omega) hk
    have h2 : 0 < 10 ^ k := Nat.pow_pos (by omega)
    omega
  · omega
theorem ct_ir_eq {lo hi : List Nat} {l h : Nat → Nat} (e1 : ∀ i, lo.getD i 0 = l i) (e2 : ∀ i, hi.getD i 0 = h i) (W : Nat) : ∀ k j f, sb_ir W lo hi k j f = ct_ir l h W k j f
  | 0, j, f => rfl
  | k + 1, j, f => by rw [sb_ir, ct_ir, e1, e2, ct_ir_eq e1 e2 W k]
theorem sb_i_inj {a b : Bool} : sb_i a = sb_i b ↔ a = b := by cases a <;> cases b <;> simp [sb_i] <;> decide
