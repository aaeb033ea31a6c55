/-! Division of longs; longs that are counted. -/
section WL
variable {d m pc : Nat} {L : am_L} {S r : List Value} {A A' : am_H} {Q : am_O × am_H → Prop}
theorem wp_dv {x y : Int64} {t : Nat} (hc : am_code m pc = some (.ldiv, 1)) (hy : y ≠ 0) (ht : pc + 1 = t) (kk : am_wp d m (t, L, .long (x / y) :: r, A) Q) : am_wp d m (pc, L, .long y :: .long x :: r, A) Q := by
  refine wp_1 hc rfl ?_ kk
  simp only [am_step, am_lop, am_sop, if_neg hy, Option.map_some, ht]
theorem wp_lr {x y : Int64} {t : Nat} (hc : am_code m pc = some (.lrem, 1)) (hy : y ≠ 0) (ht : pc + 1 = t) (kk : am_wp d m (t, L, .long (x - x / y * y) :: r, A) Q) : am_wp d m (pc, L, .long y :: .long x :: r, A) Q := by
  refine wp_1 hc rfl ?_ kk
  simp only [am_step, am_lop, am_sop, if_neg hy, Option.map_some, ht]
theorem wp_mx {x y : Int64} {i k t : Nat} (hc : am_code m pc = some (.invokestatic i, 3)) (hm : am_mth (am_own m) i = some (1002, k)) (hd : 1 ≤ d) (hr : decide (am_cat r ≤ 8) = true) (ht : pc + 3 = t) (kk : am_wp d m (t, L, .long (if y < x then x else y) :: r, A) Q) : am_wp d m (pc, L, .long y :: .long x :: r, A) Q := by
  have hs : am_sort m (.invokestatic i) = 0 := by simp [am_sort, hm]
  refine wp_1 hc hs ?_ kk
  simp only [am_step, hm, Option.bind_some, am_bl, am_blt, hd, decide_true, hr, Bool.and_self, Option.map_some, ht, show decide (1002 ≤ (1002 : Nat)) = true from rfl, cond_true]
end WL
theorem i64_lt {a b : Nat} (ha : a < 9223372036854775808) (hb : b < 9223372036854775808) : Int64.ofNat a < Int64.ofNat b ↔ a < b := by
  rw [Int64.lt_iff_toInt_lt, Int64.toInt_ofNat_of_lt (by omega), Int64.toInt_ofNat_of_lt (by omega)]
  omega
theorem i64_le {a b : Nat} (ha : a < 9223372036854775808) (hb : b < 9223372036854775808) : Int64.ofNat a ≤ Int64.ofNat b ↔ a ≤ b := by
  rw [Int64.le_iff_toInt_le, Int64.toInt_ofNat_of_lt (by omega), Int64.toInt_ofNat_of_lt (by omega)]
  omega
theorem i64_eq {a b : Nat} (ha : a < 9223372036854775808) (hb : b < 9223372036854775808) : Int64.ofNat a = Int64.ofNat b ↔ a = b := by
  constructor
  · intro h
    have h1 := congrArg Int64.toInt h
    rw [Int64.toInt_ofNat_of_lt (by omega), Int64.toInt_ofNat_of_lt (by omega)] at h1
    omega
  · intro h
    rw [h]
theorem i64_div {a b : Nat} (ha : a < 9223372036854775808) (hb : b < 9223372036854775808) : Int64.ofNat a / Int64.ofNat b = Int64.ofNat (a / b) := by
  have h1 : a / b ≤ a := Nat.div_le_self a b
  apply Int64.toInt_inj.mp
  rw [Int64.toInt_div, Int64.toInt_ofNat_of_lt (by omega), Int64.toInt_ofNat_of_lt (by omega), Int64.toInt_ofNat_of_lt (by omega)]
  rw [← Int.ofNat_tdiv]
  generalize a / b = q at h1 ⊢
  apply Int.bmod_eq_of_le <;> omega
theorem i64_rem {a b : Nat} (ha : a < 9223372036854775808) (hb : b < 9223372036854775808) : Int64.ofNat a - Int64.ofNat a / Int64.ofNat b * Int64.ofNat b = Int64.ofNat (a % b) := by
  rw [i64_div ha hb, ← Int64.ofNat_mul]
  have h1 : a / b * b + a % b = a := by rw [Nat.mul_comm]; exact Nat.div_add_mod a b
  have h2 : Int64.ofNat a = Int64.ofNat (a % b) + Int64.ofNat (a / b * b) := by rw [← Int64.ofNat_add, Nat.add_comm, h1]
  rw [h2]
  exact Int64.add_sub_cancel _ _
theorem i64_i32 {a : Nat} : (Int64.ofNat a).toInt32 = Int32.ofNat a := by simp
/-- the powers of ten -/
theorem sb_tens {j : Nat} (h : j < 19) : am_TENS.getD j 0 = Int64.ofNat (10 ^ j) := by
  have h1 : ∀ x : Fin 19, am_TENS.getD x.val 0 = Int64.ofNat (10 ^ x.val) := by decide +kernel
  exact h1 ⟨j, h⟩
theorem sb_p10 {j : Nat} (h : j < 19) : 1 ≤ 10 ^ j ∧ 10 ^ j ≤ 1000000000000000000 := by
  have h1 : ∀ x : Fin 19, 1 ≤ 10 ^ x.val ∧ 10 ^ x.val ≤ 1000000000000000000 := by decide +kernel
  exact h1 ⟨j, h⟩
/-- how many digits a number has, from j on -/
def sb_nd (v : Nat) : Nat → Nat → Nat
  | 0, j => j
  | k + 1, j => if 10 ^ j ≤ v then sb_nd v k (j + 1) else j
theorem sb_nd_le (v : Nat) : ∀ k j, j ≤ sb_nd v k j ∧ sb_nd v k j ≤ j + k
  | 0, j => ⟨Nat.le_refl _, Nat.le_refl _⟩
  | k + 1, j => by
    unfold sb_nd
    have h := sb_nd_le v k (j + 1)
    split <;> omega
/-- the lowest k digits of a number, from the top, grouped or not -/
def sb_ds (v : Nat) (g : Bool) : Nat → List Nat
  | 0 => []
  | k + 1 => (v / 10 ^ k % 10 + 48) :: (if g = true ∧ 0 < k ∧ k % 3 = 0 then 44 :: sb_ds v g k else sb_ds v g k)
def sb_k1 (k : Nat) : Int32 := Int32.ofNat k + (-1)
theorem sb_k1_s (k : Nat) : sb_k1 (k + 1) = Int32.ofNat k := by
  unfold sb_k1
  rw [← i32_add k 1, Int32.add_assoc, show Int32.ofNat 1 + -1 = 0 from by decide, Int32.add_zero]
theorem sb_k1_z : sb_k1 0 < 0 := by decide
theorem i32_rem3 {k : Nat} (h : k < 19) : Int32.ofNat k - Int32.ofNat k / Int32.ofNat 3 * Int32.ofNat 3 = Int32.ofNat (k % 3) := by
  have h1 : ∀ x : Fin 19, Int32.ofNat x.val - Int32.ofNat x.val / Int32.ofNat 3 * Int32.ofNat 3 = Int32.ofNat (x.val % 3) := by decide +kernel
  exact h1 ⟨k, h⟩
theorem sb_i_z {b : Bool} (h : sb_i b = 0) : b = false := by cases b <;> simp_all [sb_i]
theorem sb_i_nz {b : Bool} (h : ¬ sb_i b = 0) : b = true := by cases b <;> simp_all [sb_i]
theorem i64_neg {v : Nat} (h0 : 0 < v) (h : v < 9223372036854775808) : ¬ Int64.ofNat 0 ≤ -Int64.ofNat v := by
  intro q
  rw [Int64.le_iff_toInt_le, Int64.toInt_ofNat_of_lt (by omega), Int64.toInt_neg, Int64.toInt_ofNat_of_lt (by omega)] at q
  rw [Int.bmod_eq_of_le (by omega) (by omega)] at q
  omega
