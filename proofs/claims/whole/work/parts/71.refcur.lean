/-! The reference's cursor: place, wrong, row, began. -/
def rf_c (s : rf_S) (p : Nat) (w : Int32) (r : Int64) (g : Nat) : rf_S := rf_u (rf_u (rf_u (rf_u s 17 0 (.int (Int32.ofNat p))) 18 0 (.int w)) 28 0 (.long r)) 29 0 (.int (Int32.ofNat g))
theorem rf_c_at (s : rf_S) (p : Nat) (w : Int32) (r : Int64) (g j i : Nat) : rf_c s p w r g j i = if j = 29 ∧ i = 0 then .int (Int32.ofNat g) else if j = 28 ∧ i = 0 then .long r else if j = 18 ∧ i = 0 then .int w else if j = 17 ∧ i = 0 then .int (Int32.ofNat p) else s j i := by
  unfold rf_c
  simp only [rf_u_if]
theorem rf_c17 (s : rf_S) (p p' : Nat) (w : Int32) (r : Int64) (g : Nat) : rf_u (rf_c s p w r g) 17 0 (.int (Int32.ofNat p')) = rf_c s p' w r g := by
  funext j i
  simp only [rf_u_if, rf_c_at]
  repeat' split
  all_goals first | rfl | omega
theorem rf_c18 (s : rf_S) (p : Nat) (w w' : Int32) (r : Int64) (g : Nat) : rf_u (rf_c s p w r g) 18 0 (.int w') = rf_c s p w' r g := by
  funext j i
  simp only [rf_u_if, rf_c_at]
  repeat' split
  all_goals first | rfl | omega
theorem rf_c28 (s : rf_S) (p : Nat) (w : Int32) (r r' : Int64) (g : Nat) : rf_u (rf_c s p w r g) 28 0 (.long r') = rf_c s p w r' g := by
  funext j i
  simp only [rf_u_if, rf_c_at]
  repeat' split
  all_goals first | rfl | omega
theorem rf_c29 (s : rf_S) (p : Nat) (w : Int32) (r : Int64) (g g' : Nat) : rf_u (rf_c s p w r g) 29 0 (.int (Int32.ofNat g')) = rf_c s p w r g' := by
  funext j i
  simp only [rf_u_if, rf_c_at]
  repeat' split
  all_goals first | rfl | omega
theorem rf_c_u {s : rf_S} {p : Nat} {w : Int32} {r : Int64} {g j i : Nat} {v : Value} (h : j ≠ 17 ∧ j ≠ 18 ∧ j ≠ 28 ∧ j ≠ 29) : rf_u (rf_c s p w r g) j i v = rf_c (rf_u s j i v) p w r g := by
  funext a c
  simp only [rf_u_if, rf_c_at]
  repeat' split
  all_goals first | rfl | omega
theorem rf_c_ne {s : rf_S} {p : Nat} {w : Int32} {r : Int64} {g j i : Nat} (h : j ≠ 17 ∧ j ≠ 18 ∧ j ≠ 28 ∧ j ≠ 29) : rf_c s p w r g j i = s j i := by
  rw [rf_c_at]
  repeat' split
  all_goals first | rfl | omega
theorem rf_c_self {s : rf_S} {p : Nat} {w : Int32} {r : Int64} {g : Nat} (h1 : s 17 0 = .int (Int32.ofNat p)) (h2 : s 18 0 = .int w) (h3 : s 28 0 = .long r) (h4 : s 29 0 = .int (Int32.ofNat g)) : rf_c s p w r g = s := by
  unfold rf_c
  rw [rf_u_self h1, rf_u_self h2, rf_u_self h3, rf_u_self h4]
/-- a method of the reference that returns -/
def rf_go (d y : Nat) (as : List Value) (A : am_H) (b : Nat) (v : Option Value) (s : rf_S) : Prop := ∃ B, am_go d y as A (.inl v, B) ∧ rf B b s ∧ sb_fr A B b (b + 38)
theorem rf_of {d m b : Nat} {as : List Value} {A : am_H} {v : Option Value} {s : rf_S} (h : am_wp d m (0, am_ent m as, [], A) (fun q => q.1 = .inl v ∧ rf q.2 b s ∧ sb_fr A q.2 b (b + 38))) : rf_go d m as A b v s := wp_goE h
/-- the text: its characters, how many -/
def rf_tx (s : rf_S) (cs : List Nat) (n : Nat) : Prop := s 3 0 = .int (Int32.ofNat n) ∧ (∀ i, i < n → s 2 i = .int (Int32.ofNat (cs.getD i 0))) ∧ n ≤ 120 ∧ (∀ i, i < n → 32 ≤ cs.getD i 0 ∧ cs.getD i 0 < 127)
def rf_w (w : Int32) (x : Nat) : Int32 := if w < 0 then Int32.ofNat x else w
theorem sb_rng_t {lo hi x : Nat} (h1 : lo ≤ x) (h2 : x ≤ hi) (h3 : hi < 2147483648) : sb_rng lo hi (Int32.ofNat x) = true := by
  unfold sb_rng
  rw [if_pos ⟨(i32_le (by omega) (by omega)).mpr h1, (i32_le (by omega) (by omega)).mpr h2⟩]
theorem sb_rng_f {lo hi x : Nat} (h1 : ¬ (lo ≤ x ∧ x ≤ hi)) (h2 : x < 2147483648) (h3 : hi < 2147483648) (h4 : lo < 2147483648) : sb_rng lo hi (Int32.ofNat x) = false := by
  unfold sb_rng
  rw [if_neg]
  rw [i32_le (by omega) (by omega), i32_le (by omega) (by omega)]
  exact h1
def rf_b32 (cs : List Nat) : Nat → Nat → Nat → Nat
  | 0, _, w => w
  | k + 1, j, w => rf_b32 cs k (j + 1) (32 * w + (cs.getD j 0 - 96))
theorem rf_b32_s (cs : List Nat) : ∀ k j w, rf_b32 cs (k + 1) j w = 32 * rf_b32 cs k j w + (cs.getD (j + k) 0 - 96)
  | 0, j, w => rfl
  | k + 1, j, w => by
    rw [rf_b32, rf_b32_s cs k, rf_b32]
    congr 3
    omega
def rf_rw (cs : List Nat) (g i : Nat) : Int64 := if i ≤ 12 then Int64.ofNat (rf_b32 cs i g 0) else -1
theorem i64_sub {a b : Nat} (h : b ≤ a) : Int64.ofNat a - Int64.ofNat b = Int64.ofNat (a - b) := by
  have h1 : Int64.ofNat (a - b) + Int64.ofNat b = Int64.ofNat a := by rw [← Int64.ofNat_add, Nat.sub_add_cancel h]
  rw [← h1]
  exact Int64.add_sub_cancel _ _
theorem rf_rw_s {cs : List Nat} {g i : Nat} (h : i < 12) (hc : 97 ≤ cs.getD (g + i) 0) (hc2 : cs.getD (g + i) 0 < 128) : (32 : Int64) * rf_rw cs g i + (Int32.ofNat (cs.getD (g + i) 0)).toInt64 - (97 : Int64) + Int64.ofNat 1 = rf_rw cs g (i + 1) := by
  unfold rf_rw
  rw [if_pos (by omega), if_pos (by omega), rf_b32_s, i64_of (by omega)]
  show Int64.ofNat 32 * Int64.ofNat _ + Int64.ofNat _ - Int64.ofNat 97 + Int64.ofNat 1 = _
  rw [← Int64.ofNat_mul, ← Int64.ofNat_add, i64_sub (by omega), ← Int64.ofNat_add]
  congr 1
  omega
def rf_wi (w : Int32) (g many i : Nat) : Int32 := if many < i then rf_w w (g + many) else w
def rf_wl (w : Int32) (g many k : Nat) : Int32 := if k = 0 then rf_w w g else rf_wi w g many k
theorem rf_w_w (w : Int32) (x y : Nat) (hx : x < 1000) : rf_w (rf_w w x) y = rf_w w x := by
  unfold rf_w
  by_cases h : w < 0
  · rw [if_pos h, if_neg (Int32.ofNat_not_neg (by omega))]
  · rw [if_neg h, if_neg h]
theorem rf_wi_s {w : Int32} {g many i : Nat} (h : i ≠ many) : rf_wi w g many (i + 1) = rf_wi w g many i := by
  unfold rf_wi
  by_cases h1 : many < i
  · rw [if_pos h1, if_pos (by omega)]
  · rw [if_neg h1, if_neg (by omega)]
theorem rf_wi_e {w : Int32} {g many : Nat} : rf_w (rf_wi w g many many) (g + many) = rf_wi w g many (many + 1) := by
  unfold rf_wi
  rw [if_neg (by omega), if_pos (by omega)]
def rf_nr (cs : List Nat) (g i : Nat) : Int64 := Int64.ofNat (sb_num cs (min i 4) g 0)
theorem sb_num_s (cs : List Nat) : ∀ k j w, sb_num cs (k + 1) j w = sb_num cs k j w * 10 + (cs.getD (j + k) 0 - 48)
  | 0, j, w => rfl
  | k + 1, j, w => by
    rw [sb_num, sb_num_s cs k, sb_num]
    congr 3
    omega
theorem rf_nr_s {cs : List Nat} {g i : Nat} (h : i < 4) (hc : 48 ≤ cs.getD (g + i) 0) (hc2 : cs.getD (g + i) 0 < 128) : (10 : Int64) * rf_nr cs g i + (Int32.ofNat (cs.getD (g + i) 0)).toInt64 - (48 : Int64) = rf_nr cs g (i + 1) := by
  unfold rf_nr
  rw [show min i 4 = i by omega, show min (i + 1) 4 = i + 1 by omega, sb_num_s, i64_of (by omega)]
  show Int64.ofNat 10 * Int64.ofNat _ + Int64.ofNat _ - Int64.ofNat 48 = _
  rw [← Int64.ofNat_mul, ← Int64.ofNat_add, i64_sub (by omega)]
  congr 1
  omega
theorem rf_nr_e {cs : List Nat} {g i : Nat} (h : ¬ i < 4) : rf_nr cs g (i + 1) = rf_nr cs g i := by
  unfold rf_nr
  rw [show min i 4 = 4 by omega, show min (i + 1) 4 = 4 by omega]
theorem rf_rw_m {cs : List Nat} {g i : Nat} (h : 12 ≤ i) : rf_rw cs g (i + 1) = -1 := by
  unfold rf_rw
  rw [if_neg (by omega)]
theorem rf_rw_0 (cs : List Nat) (g : Nat) : rf_rw cs g 0 = Int64.ofNat 0 := rfl
theorem rf_nr_0 (cs : List Nat) (g : Nat) : rf_nr cs g 0 = Int64.ofNat 0 := rfl
theorem rf_wi0 (w : Int32) (g many : Nat) : rf_wi w g many 0 = w := by
  unfold rf_wi
  rw [if_neg (by omega)]
theorem rf_wl_s {w : Int32} {g many i : Nat} (h : i ≠ 0) : rf_wl w g many i = rf_wi w g many i := by
  unfold rf_wl
  rw [if_neg h]
theorem rf_wl_0 {w : Int32} {g many i : Nat} (h : i = 0) : rf_wl w g many i = rf_w (rf_wi w g many i) (g + i) := by
  subst h
  rw [rf_wi0, rf_wl, if_pos rfl]
  rfl
